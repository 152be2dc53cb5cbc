/-! THE REFERENCE: its cursor at, fault, where (fields 5, 6, 7 of cell 29) -/
def d_sc (I : Nat → Nat → Int32) (c : c_Cu) : Nat → Nat → Int32 := ct_u2 (ct_u2 (ct_u2 I 29 5 (nI c.1)) 29 6 (nI c.2.1)) 29 7 (nI c.2.2)
theorem d_sc_get (I : Nat → Nat → Int32) (c : c_Cu) (h k : Nat) : d_sc I c h k = if h = 29 ∧ k = 7 then nI c.2.2 else if h = 29 ∧ k = 6 then nI c.2.1 else if h = 29 ∧ k = 5 then nI c.1 else I h k := rfl
theorem d_sc_5 (I : Nat → Nat → Int32) (c : c_Cu) : d_sc I c 29 5 = nI c.1 := rfl
theorem d_sc_6 (I : Nat → Nat → Int32) (c : c_Cu) : d_sc I c 29 6 = nI c.2.1 := rfl
theorem d_sc_7 (I : Nat → Nat → Int32) (c : c_Cu) : d_sc I c 29 7 = nI c.2.2 := rfl
theorem d_sc_1 (I : Nat → Nat → Int32) (c : c_Cu) : d_sc I c 29 1 = I 29 1 := rfl
theorem d_sc_3 (I : Nat → Nat → Int32) (c : c_Cu) : d_sc I c 29 3 = I 29 3 := rfl
theorem d_sc_4 (I : Nat → Nat → Int32) (c : c_Cu) : d_sc I c 29 4 = I 29 4 := rfl
theorem d_sc_8 (I : Nat → Nat → Int32) (c : c_Cu) : d_sc I c 29 8 = I 29 8 := rfl
theorem d_sc_9 (I : Nat → Nat → Int32) (c : c_Cu) : d_sc I c 29 9 = I 29 9 := rfl
theorem d_sc_10 (I : Nat → Nat → Int32) (c : c_Cu) : d_sc I c 29 10 = I 29 10 := rfl
theorem d_sc_11 (I : Nat → Nat → Int32) (c : c_Cu) : d_sc I c 29 11 = I 29 11 := rfl
theorem d_sc_12 (I : Nat → Nat → Int32) (c : c_Cu) : d_sc I c 29 12 = I 29 12 := rfl
theorem d_sc_13 (I : Nat → Nat → Int32) (c : c_Cu) : d_sc I c 29 13 = I 29 13 := rfl
theorem d_sc_14 (I : Nat → Nat → Int32) (c : c_Cu) : d_sc I c 29 14 = I 29 14 := rfl
theorem d_sc_22 (I : Nat → Nat → Int32) (c : c_Cu) : d_sc I c 29 22 = I 29 22 := rfl
theorem d_sc_ne (I : Nat → Nat → Int32) (c : c_Cu) {h : Nat} (k : Nat) (hh : ¬ h = 29) : d_sc I c h k = I h k := by simp only [d_sc_get, hh, false_and, if_false]
theorem d_sc_at (I : Nat → Nat → Int32) (c : c_Cu) (a : Nat) : ct_u2 (d_sc I c) 29 5 (nI a) = d_sc I (a, c.2) := by
  funext h k
  simp only [ct_u2_get, d_sc_get]
  by_cases e : h = 29
  · by_cases e1 : k = 5
    · subst e; subst e1; simp
    · simp [e, e1]
  · simp [e]
theorem d_sc_fl (I : Nat → Nat → Int32) (c : c_Cu) (r s : Nat) : ct_u2 (ct_u2 (d_sc I c) 29 6 (nI r)) 29 7 (nI s) = d_sc I (c.1, r, s) := by
  funext h k
  simp only [ct_u2_get, d_sc_get]
  by_cases e : h = 29
  · by_cases e1 : k = 7
    · simp [e, e1]
    · by_cases e2 : k = 6 <;> simp [e, e1, e2]
  · simp [e]
theorem d_sc_u2 (I : Nat → Nat → Int32) (c : c_Cu) {h k : Nat} (x : Int32) (hh : ¬ h = 29 ∨ (¬ k = 5 ∧ ¬ k = 6 ∧ ¬ k = 7)) : ct_u2 (d_sc I c) h k x = d_sc (ct_u2 I h k x) c := by
  funext a e
  simp only [ct_u2_get, d_sc_get]
  by_cases e1 : a = h ∧ e = k
  · obtain ⟨rfl, rfl⟩ := e1
    rcases hh with q | ⟨q1, q2, q3⟩
    · simp [q]
    · simp [q1, q2, q3]
  · rw [if_neg e1, if_neg e1]
/-- the bytes that the reference reads: byteAt is B, its length ln -/
def m_B (ln : Nat) (I : Nat → Nat → Int32) (p : Nat) : Nat := if p < ln then (I 31 p).toBitVec.toNat % 256 else 0
def m_E (B : Nat → Nat) (ln : Nat) (I : Nat → Nat → Int32) : Prop := m_B ln I = B ∧ I 29 3 = nI ln
theorem m_E.lt {B : Nat → Nat} {ln : Nat} {I : Nat → Nat → Int32} (h : m_E B ln I) (p : Nat) : B p < 256 := by
  rw [← h.1]; unfold m_B; split
  · exact Nat.mod_lt _ (by decide)
  · decide
theorem m_E.u2 {B : Nat → Nat} {ln : Nat} {I : Nat → Nat → Int32} {h k : Nat} {x : Int32} (hE : m_E B ln I) (h31 : ¬ h = 31) (h29 : ¬ h = 29 ∨ ¬ k = 3) : m_E B ln (ct_u2 I h k x) := by
  refine ⟨?_, ?_⟩
  · rw [← hE.1]; funext p; unfold m_B
    have e : ct_u2 I h k x 31 p = I 31 p := by rw [ct_u2_get, if_neg (fun z => h31 z.1.symm)]
    rw [e]
  · rw [ct_u2_get, if_neg (fun z => by rcases h29 with q | q; exact q z.1.symm; exact q z.2.symm)]; exact hE.2
def m_gd (c : c_Cu) : Int32 := if c.2.1 = 0 then 1 else 0
theorem m_gd_0 (c : c_Cu) : (m_gd c = 0) = ¬ c.2.1 = 0 := by
  unfold m_gd; split <;> simp [*]
theorem m_gd_01 (c : c_Cu) : m_gd c = 0 ∨ m_gd c = 1 := by unfold m_gd; split <;> simp
def m_ok (ln : Nat) (c : c_Cu) : Prop := c.1 ≤ ln ∧ c.2.1 ≤ 14
theorem m_ok.fl {ln r s : Nat} {c : c_Cu} (h : m_ok ln c) (hr : r ≤ 14) : m_ok ln (c_fl r s c) := by
  unfold c_fl; split
  · exact ⟨h.1, hr⟩
  · exact h
def m_ov (ln n : Nat) (c : c_Cu) : c_Cu := if c.1 + n ≤ ln then (c.1 + n, c.2) else c_fl 2 ln c
theorem m_ok.ov {ln n : Nat} {c : c_Cu} (h : m_ok ln c) : m_ok ln (m_ov ln n c) := by
  unfold m_ov; split
  · rename_i q; exact ⟨q, h.2⟩
  · exact h.fl (by decide)
def m_c1 (B : Nat → Nat) (ln lo hi : Nat) (c : c_Cu) : c_Cu := if (m_ov ln 1 c).2.1 = 0 ∧ (B c.1 < lo ∨ hi < B c.1) then c_fl 3 c.1 (m_ov ln 1 c) else m_ov ln 1 c
def m_cv (B : Nat → Nat) (ln lo hi : Nat) (c : c_Cu) : Nat := if (m_c1 B ln lo hi c).2.1 = 0 then B c.1 else 0
theorem m_ok.c1 {B : Nat → Nat} {ln lo hi : Nat} {c : c_Cu} (h : m_ok ln c) : m_ok ln (m_c1 B ln lo hi c) := by
  unfold m_c1; split
  · exact h.ov.fl (by decide)
  · exact h.ov
/-- overType: sevens; the kind -/
def m_sv (B : Nat → Nat) (ln : Nat) : Nat → Nat → c_Cu → Nat × c_Cu
  | 0, p, c => (p, c)
  | n + 1, p, c => if c.2.1 = 0 ∧ B p = 7 then m_sv B ln n c.1 (m_ov ln 1 c) else (p, c)
def m_tk (B : Nat → Nat) (ln : Nat) (p : Nat) (c : c_Cu) : c_Cu := if ¬ c.2.1 = 0 then c else if B p < 1 ∨ 6 < B p then c_fl 4 p c else if B p = 6 then m_ov ln 1 c else c
def m_t2 (B : Nat → Nat) (ln : Nat) (p : Nat) (c : c_Cu) : c_Cu := m_tk B ln (m_sv B ln 4 p c).1 (m_sv B ln 4 p c).2
def m_ty (B : Nat → Nat) (ln : Nat) (rf : Bool) (c : c_Cu) : c_Cu :=
  if ¬ (m_ov ln 1 c).2.1 = 0 then m_ov ln 1 c else if rf = true ∧ (B c.1 = 8 ∨ B c.1 = 9) then m_t2 B ln (m_ov ln 1 c).1 (m_ov ln 1 (m_ov ln 1 c)) else m_t2 B ln c.1 (m_ov ln 1 c)
theorem m_ok.sv {B : Nat → Nat} {ln : Nat} : ∀ (n p : Nat) {c : c_Cu}, m_ok ln c → p ≤ ln → m_ok ln (m_sv B ln n p c).2 ∧ (m_sv B ln n p c).1 ≤ ln
  | 0, _, _, h, q => ⟨h, q⟩
  | n + 1, p, c, h, q => by
    unfold m_sv; split
    · exact m_ok.sv n _ h.ov h.1
    · exact ⟨h, q⟩
theorem m_ok.tk {B : Nat → Nat} {ln p : Nat} {c : c_Cu} (h : m_ok ln c) : m_ok ln (m_tk B ln p c) := by
  unfold m_tk; split
  · exact h
  · split
    · exact h.fl (by decide)
    · split
      · exact h.ov
      · exact h
theorem m_ok.t2 {B : Nat → Nat} {ln p : Nat} {c : c_Cu} (h : m_ok ln c) (hp : p ≤ ln) : m_ok ln (m_t2 B ln p c) := (m_ok.sv 4 p h hp).1.tk
theorem m_ok.ty {B : Nat → Nat} {ln : Nat} {rf : Bool} {c : c_Cu} (h : m_ok ln c) : m_ok ln (m_ty B ln rf c) := by
  unfold m_ty; split
  · exact h.ov
  · split
    · exact h.ov.ov.t2 h.ov.1
    · exact h.ov.t2 h.1
def m_li (B : Nat → Nat) (ln : Nat) (rf : Bool) : Nat → c_Cu → c_Cu
  | 0, c => c
  | n + 1, c => if c.2.1 = 0 then m_li B ln rf n (m_ty B ln rf c) else c
def m_ls (B : Nat → Nat) (ln most : Nat) (rf : Bool) (c : c_Cu) : c_Cu := m_li B ln rf (m_cv B ln 0 most c) (m_c1 B ln 0 most c)
theorem m_ok.li {B : Nat → Nat} {ln : Nat} {rf : Bool} : ∀ (n : Nat) {c : c_Cu}, m_ok ln c → m_ok ln (m_li B ln rf n c)
  | 0, _, h => h
  | n + 1, c, h => by
    unfold m_li; split
    · exact m_ok.li n h.ty
    · exact h
theorem m_ok.ls {B : Nat → Nat} {ln most : Nat} {rf : Bool} {c : c_Cu} (h : m_ok ln c) : m_ok ln (m_ls B ln most rf c) := m_ok.li _ h.c1
set_option maxHeartbeats 800000 in
set_option maxRecDepth 100000 in
theorem sp_M_fail (l : ct_Lx) (I : Nat → Nat → Int32) (L : Nat → Nat → Int64) (b : Bool) (c : c_Cu) (hc : c.2.1 ≤ 14) (r s : Nat) : ct_Me l M_M_fail 1 0 0 [.ref 29, .int (nI r), .int (nI s)] (c_g (d_sc I c) L b) (fun v g => v = none ∧ g = c_g (d_sc I (c_fl r s c)) L b) := by
  refine ct_Me.of (by decide) (Nat.le_of_ble_eq_true rfl) (fun v g h => by rw [h.1]; first | rfl | exact Or.inl rfl) ?_
  refine ct_Wp.go (A_M_fail l) (by decide) [] 80 (fun K hK => ?_)
  simp only [ct_run_s, ct_nx_s, ct_hp, ct_lg, ct_s1, ct_d1, ct_s2, ct_d2, lv_args, Value.category, ct_u2_get, Option.toList, List.cons_append, List.nil_append, Nat.reduceAdd, Nat.reduceSub, Nat.reduceMul, Nat.reduceEqDiff, Nat.reduceLeDiff, Nat.reduceLT, true_and, and_true, and_self, if_true, if_false, reduceCtorEq, Prod.mk.injEq, List.length_cons, List.length_nil, false_and, and_false, not_false_eq_true, not_true_eq_false, true_implies, false_implies, implies_true, Bool.false_eq_true, ite_true, ite_false, reduceIte, or_true, true_or, or_false, false_or, c_sh_10, c_sh_11, c_sh_12, c_sh_13, c_sh_14, c_sh_15, c_sh_16, c_sh_17, c_sh_18, c_sh_19, c_sh_20, c_sh_21, c_sh_22, c_sh_23, c_sh_24, c_sh_25, c_sh_26, c_sh_27, c_sh_28, c_sh_29, c_sh_30, c_sh_31, c_sh_32, c_sh_33, c_sh_34, c_sh_35, c_sh_36, c_sh_37, c_sh_38, c_sh_39, c_R_10_0, c_R_10_4, c_R_10_5, c_R_10_6, c_R_12_0, c_R_12_1, c_R_12_2, c_R_12_3, c_R_12_4, c_R_12_5, c_R_12_6, c_R_12_7, c_R_12_8, c_R_12_9, c_R_23_0, c_R_23_1, c_R_23_2, c_R_27_0, c_R_27_1, c_R_29_0, c_R_29_2, c_R_29_15, c_R_29_16, c_R_29_17, c_R_29_18, c_R_29_19, c_R_29_20, c_R_29_21, c_R_29_23, c_R_23_3, o_aload, o_getI, o_if, o_iload, o_putI, e_M_fail_0, e_M_fail_1, e_M_fail_4, e_M_fail_8, e_M_fail_9, e_M_fail_10, e_M_fail_13, e_M_fail_14, e_M_fail_15, z_M_fail_7, z_M_fail_18, d_sc_5, d_sc_6, d_sc_7, d_sc_1, d_sc_3, d_sc_4, d_sc_8, d_sc_9, d_sc_10, d_sc_11, d_sc_12, d_sc_13, d_sc_14, d_sc_22, d_sc_ne, m_gd_0, Decidable.not_not]
  have hz := c_nI0 (n := c.2.1) (by omega)
  refine ⟨fun h => hK _ (ct_Wp.ret none rfl d_M_fail_18 ⟨rfl, ?_⟩), fun h => hK _ (ct_Wp.ret none rfl d_M_fail_7 ⟨rfl, ?_⟩)⟩
  · rw [c_fl, if_pos (hz.mp h), d_sc_fl]
  · rw [c_fl, if_neg (fun q => h (hz.mpr q))]
set_option maxHeartbeats 800000 in
set_option maxRecDepth 100000 in
theorem sp_M_isGood (l : ct_Lx) (I : Nat → Nat → Int32) (L : Nat → Nat → Int64) (b : Bool) (c : c_Cu) (hc : c.2.1 ≤ 14) : ct_Me l M_M_isGood 1 0 0 [.ref 29] (c_g (d_sc I c) L b) (fun v g => v = some (.int (m_gd c)) ∧ g = c_g (d_sc I c) L b) := by
  refine ct_Me.of (by decide) (Nat.le_of_ble_eq_true rfl) (fun v g h => by rw [h.1]; exact Or.inr ⟨rfl, m_gd_01 c⟩) ?_
  refine ct_Wp.go (A_M_isGood l) (by decide) [] 80 (fun K hK => ?_)
  simp only [ct_run_s, ct_nx_s, ct_hp, ct_lg, ct_s1, ct_d1, ct_s2, ct_d2, lv_args, Value.category, ct_u2_get, Option.toList, List.cons_append, List.nil_append, Nat.reduceAdd, Nat.reduceSub, Nat.reduceMul, Nat.reduceEqDiff, Nat.reduceLeDiff, Nat.reduceLT, true_and, and_true, and_self, if_true, if_false, reduceCtorEq, Prod.mk.injEq, List.length_cons, List.length_nil, false_and, and_false, not_false_eq_true, not_true_eq_false, true_implies, false_implies, implies_true, Bool.false_eq_true, ite_true, ite_false, reduceIte, or_true, true_or, or_false, false_or, c_sh_10, c_sh_11, c_sh_12, c_sh_13, c_sh_14, c_sh_15, c_sh_16, c_sh_17, c_sh_18, c_sh_19, c_sh_20, c_sh_21, c_sh_22, c_sh_23, c_sh_24, c_sh_25, c_sh_26, c_sh_27, c_sh_28, c_sh_29, c_sh_30, c_sh_31, c_sh_32, c_sh_33, c_sh_34, c_sh_35, c_sh_36, c_sh_37, c_sh_38, c_sh_39, c_R_10_0, c_R_10_4, c_R_10_5, c_R_10_6, c_R_12_0, c_R_12_1, c_R_12_2, c_R_12_3, c_R_12_4, c_R_12_5, c_R_12_6, c_R_12_7, c_R_12_8, c_R_12_9, c_R_23_0, c_R_23_1, c_R_23_2, c_R_27_0, c_R_27_1, c_R_29_0, c_R_29_2, c_R_29_15, c_R_29_16, c_R_29_17, c_R_29_18, c_R_29_19, c_R_29_20, c_R_29_21, c_R_29_23, c_R_23_3, o_aload, o_getI, o_goto, o_if, o_push, e_M_isGood_0, e_M_isGood_1, e_M_isGood_4, e_M_isGood_7, e_M_isGood_8, e_M_isGood_11, z_M_isGood_12, d_sc_5, d_sc_6, d_sc_7, d_sc_1, d_sc_3, d_sc_4, d_sc_8, d_sc_9, d_sc_10, d_sc_11, d_sc_12, d_sc_13, d_sc_14, d_sc_22, d_sc_ne, m_gd_0, Decidable.not_not]
  have hz := c_nI0 (n := c.2.1) (by omega)
  refine ⟨fun h => hK _ (ct_Wp.ret (some (.int _)) rfl d_M_isGood_12 ⟨?_, rfl⟩), fun h => hK _ (ct_Wp.ret (some (.int _)) rfl d_M_isGood_12 ⟨?_, rfl⟩)⟩
  · rw [m_gd, if_neg (fun q => h (hz.mpr q))]
  · rw [m_gd, if_pos (hz.mp h)]
set_option maxHeartbeats 800000 in
set_option maxRecDepth 100000 in
theorem sp_M_byteAt (l : ct_Lx) (I : Nat → Nat → Int32) (L : Nat → Nat → Int64) (b : Bool) {B : Nat → Nat} {ln : Nat} (hln : ln ≤ 4096) (hE : m_E B ln I) {p : Nat} (hp : p < 2 ^ 31) : ct_Me l M_M_byteAt 1 0 0 [.ref 29, .int (nI p)] (c_g I L b) (fun v g => v = some (.int (nI (B p))) ∧ g = c_g I L b) := by
  refine ct_Me.of (by decide) (Nat.le_of_ble_eq_true rfl) (fun v g h => by rw [h.1]; first | rfl | exact Or.inl rfl) ?_
  refine ct_Wp.go (A_M_byteAt l) (by decide) [] 80 (fun K hK => ?_)
  simp only [ct_run_s, ct_nx_s, ct_hp, ct_lg, ct_s1, ct_d1, ct_s2, ct_d2, lv_args, Value.category, ct_u2_get, Option.toList, List.cons_append, List.nil_append, Nat.reduceAdd, Nat.reduceSub, Nat.reduceMul, Nat.reduceEqDiff, Nat.reduceLeDiff, Nat.reduceLT, true_and, and_true, and_self, if_true, if_false, reduceCtorEq, Prod.mk.injEq, List.length_cons, List.length_nil, false_and, and_false, not_false_eq_true, not_true_eq_false, true_implies, false_implies, implies_true, Bool.false_eq_true, ite_true, ite_false, reduceIte, or_true, true_or, or_false, false_or, c_sh_10, c_sh_11, c_sh_12, c_sh_13, c_sh_14, c_sh_15, c_sh_16, c_sh_17, c_sh_18, c_sh_19, c_sh_20, c_sh_21, c_sh_22, c_sh_23, c_sh_24, c_sh_25, c_sh_26, c_sh_27, c_sh_28, c_sh_29, c_sh_30, c_sh_31, c_sh_32, c_sh_33, c_sh_34, c_sh_35, c_sh_36, c_sh_37, c_sh_38, c_sh_39, c_R_10_0, c_R_10_4, c_R_10_5, c_R_10_6, c_R_12_0, c_R_12_1, c_R_12_2, c_R_12_3, c_R_12_4, c_R_12_5, c_R_12_6, c_R_12_7, c_R_12_8, c_R_12_9, c_R_23_0, c_R_23_1, c_R_23_2, c_R_27_0, c_R_27_1, c_R_29_0, c_R_29_2, c_R_29_15, c_R_29_16, c_R_29_17, c_R_29_18, c_R_29_19, c_R_29_20, c_R_29_21, c_R_29_23, c_R_23_3, o_aload, o_bald, o_getI, o_getR, o_goto, o_ic, o_ii, o_iload, o_push, e_M_byteAt_0, e_M_byteAt_1, e_M_byteAt_2, e_M_byteAt_5, e_M_byteAt_8, e_M_byteAt_9, e_M_byteAt_12, e_M_byteAt_13, e_M_byteAt_14, e_M_byteAt_17, e_M_byteAt_18, e_M_byteAt_21, z_M_byteAt_22, d_sc_5, d_sc_6, d_sc_7, d_sc_1, d_sc_3, d_sc_4, d_sc_8, d_sc_9, d_sc_10, d_sc_11, d_sc_12, d_sc_13, d_sc_14, d_sc_22, d_sc_ne, m_gd_0, Decidable.not_not, hE.2]
  rw [nI_leI (by omega) (by omega)]
  refine ⟨fun h => hK _ (ct_Wp.ret (some (.int _)) rfl d_M_byteAt_22 ⟨?_, rfl⟩), fun h => ⟨vp_in_nI (by omega) (by decide), hK _ (ct_Wp.ret (some (.int _)) rfl d_M_byteAt_22 ⟨?_, rfl⟩)⟩⟩
  · rw [← hE.1, m_B, if_neg (by omega)]; rfl
  · rw [nI_clamp (by omega), ← hE.1, m_B, if_pos (by omega)]
    exact congrArg (fun z => some (Value.int z)) (pk_and (I 31 p) 8 rfl)
set_option maxHeartbeats 800000 in
set_option maxRecDepth 100000 in
theorem m_E.sc {B : Nat → Nat} {ln : Nat} {I : Nat → Nat → Int32} (hE : m_E B ln I) (c : c_Cu) : m_E B ln (d_sc I c) := by
  unfold d_sc
  exact ((hE.u2 (by decide) (by decide)).u2 (by decide) (by decide)).u2 (by decide) (by decide)
theorem sp_M_byteAtc (l : ct_Lx) (I : Nat → Nat → Int32) (L : Nat → Nat → Int64) (b : Bool) {B : Nat → Nat} {ln : Nat} (hln : ln ≤ 4096) (hE : m_E B ln I) (c : c_Cu) {p : Nat} (hp : p < 2 ^ 31) : ct_Me l M_M_byteAt 1 0 0 [.ref 29, .int (nI p)] (c_g (d_sc I c) L b) (fun v g => v = some (.int (nI (B p))) ∧ g = c_g (d_sc I c) L b) := sp_M_byteAt l _ L b hln (hE.sc c) hp
set_option maxHeartbeats 800000 in
set_option maxRecDepth 100000 in
theorem sp_M_shortAt (l : ct_Lx) (I : Nat → Nat → Int32) (L : Nat → Nat → Int64) (b : Bool) {B : Nat → Nat} {ln : Nat} (hln : ln ≤ 4096) (hE : m_E B ln I) {p : Nat} (hp : p + 1 < 2 ^ 31) : ct_Me l M_M_shortAt 2 0 0 [.ref 29, .int (nI p)] (c_g I L b) (fun v g => v = some (.int (nI (256 * B p + B (p + 1)))) ∧ g = c_g I L b) := by
  refine ct_Me.of (by decide) (Nat.le_of_ble_eq_true rfl) (fun v g h => by rw [h.1]; first | rfl | exact Or.inl rfl) ?_
  refine ct_Wp.go (A_M_shortAt l) (by decide) [] 80 (fun K hK => ?_)
  simp only [ct_run_s, ct_nx_s, ct_hp, ct_lg, ct_s1, ct_d1, ct_s2, ct_d2, lv_args, Value.category, ct_u2_get, Option.toList, List.cons_append, List.nil_append, Nat.reduceAdd, Nat.reduceSub, Nat.reduceMul, Nat.reduceEqDiff, Nat.reduceLeDiff, Nat.reduceLT, true_and, and_true, and_self, if_true, if_false, reduceCtorEq, Prod.mk.injEq, List.length_cons, List.length_nil, false_and, and_false, not_false_eq_true, not_true_eq_false, true_implies, false_implies, implies_true, Bool.false_eq_true, ite_true, ite_false, reduceIte, or_true, true_or, or_false, false_or, c_sh_10, c_sh_11, c_sh_12, c_sh_13, c_sh_14, c_sh_15, c_sh_16, c_sh_17, c_sh_18, c_sh_19, c_sh_20, c_sh_21, c_sh_22, c_sh_23, c_sh_24, c_sh_25, c_sh_26, c_sh_27, c_sh_28, c_sh_29, c_sh_30, c_sh_31, c_sh_32, c_sh_33, c_sh_34, c_sh_35, c_sh_36, c_sh_37, c_sh_38, c_sh_39, c_R_10_0, c_R_10_4, c_R_10_5, c_R_10_6, c_R_12_0, c_R_12_1, c_R_12_2, c_R_12_3, c_R_12_4, c_R_12_5, c_R_12_6, c_R_12_7, c_R_12_8, c_R_12_9, c_R_23_0, c_R_23_1, c_R_23_2, c_R_27_0, c_R_27_1, c_R_29_0, c_R_29_2, c_R_29_15, c_R_29_16, c_R_29_17, c_R_29_18, c_R_29_19, c_R_29_20, c_R_29_21, c_R_29_23, c_R_23_3, o_aload, o_ii, o_iload, o_push, e_M_shortAt_0, e_M_shortAt_3, e_M_shortAt_4, e_M_shortAt_8, e_M_shortAt_9, e_M_shortAt_10, e_M_shortAt_11, e_M_shortAt_12, e_M_shortAt_16, z_M_shortAt_5, z_M_shortAt_13, z_M_shortAt_17, d_sc_5, d_sc_6, d_sc_7, d_sc_1, d_sc_3, d_sc_4, d_sc_8, d_sc_9, d_sc_10, d_sc_11, d_sc_12, d_sc_13, d_sc_14, d_sc_22, d_sc_ne, m_gd_0, Decidable.not_not]
  refine hK _ (cl_M_shortAt_5 rfl (sp_M_byteAt l I L b hln hE (p := p) (by omega)) (by decide) (Nat.le_of_ble_eq_true rfl) (Nat.le_refl _) (Nat.le_refl _) ?_)
  rintro w g ⟨rfl, rfl⟩
  refine ct_Wp.go (A_M_shortAt l) (by decide) [] 80 (fun K hK => ?_)
  simp only [ct_run_s, ct_nx_s, ct_hp, ct_lg, ct_s1, ct_d1, ct_s2, ct_d2, lv_args, Value.category, ct_u2_get, Option.toList, List.cons_append, List.nil_append, Nat.reduceAdd, Nat.reduceSub, Nat.reduceMul, Nat.reduceEqDiff, Nat.reduceLeDiff, Nat.reduceLT, true_and, and_true, and_self, if_true, if_false, reduceCtorEq, Prod.mk.injEq, List.length_cons, List.length_nil, false_and, and_false, not_false_eq_true, not_true_eq_false, true_implies, false_implies, implies_true, Bool.false_eq_true, ite_true, ite_false, reduceIte, or_true, true_or, or_false, false_or, c_sh_10, c_sh_11, c_sh_12, c_sh_13, c_sh_14, c_sh_15, c_sh_16, c_sh_17, c_sh_18, c_sh_19, c_sh_20, c_sh_21, c_sh_22, c_sh_23, c_sh_24, c_sh_25, c_sh_26, c_sh_27, c_sh_28, c_sh_29, c_sh_30, c_sh_31, c_sh_32, c_sh_33, c_sh_34, c_sh_35, c_sh_36, c_sh_37, c_sh_38, c_sh_39, c_R_10_0, c_R_10_4, c_R_10_5, c_R_10_6, c_R_12_0, c_R_12_1, c_R_12_2, c_R_12_3, c_R_12_4, c_R_12_5, c_R_12_6, c_R_12_7, c_R_12_8, c_R_12_9, c_R_23_0, c_R_23_1, c_R_23_2, c_R_27_0, c_R_27_1, c_R_29_0, c_R_29_2, c_R_29_15, c_R_29_16, c_R_29_17, c_R_29_18, c_R_29_19, c_R_29_20, c_R_29_21, c_R_29_23, c_R_23_3, o_aload, o_ii, o_iload, o_push, e_M_shortAt_0, e_M_shortAt_3, e_M_shortAt_4, e_M_shortAt_8, e_M_shortAt_9, e_M_shortAt_10, e_M_shortAt_11, e_M_shortAt_12, e_M_shortAt_16, z_M_shortAt_5, z_M_shortAt_13, z_M_shortAt_17, d_sc_5, d_sc_6, d_sc_7, d_sc_1, d_sc_3, d_sc_4, d_sc_8, d_sc_9, d_sc_10, d_sc_11, d_sc_12, d_sc_13, d_sc_14, d_sc_22, d_sc_ne, m_gd_0, Decidable.not_not, nI_1]
  refine hK _ (cl_M_shortAt_13 rfl (sp_M_byteAt l I L b hln hE (p := p + 1) hp) (by decide) (Nat.le_of_ble_eq_true rfl) (Nat.le_refl _) (Nat.le_refl _) ?_)
  rintro w g ⟨rfl, rfl⟩
  refine ct_Wp.go (A_M_shortAt l) (by decide) [] 80 (fun K hK => ?_)
  simp only [ct_run_s, ct_nx_s, ct_hp, ct_lg, ct_s1, ct_d1, ct_s2, ct_d2, lv_args, Value.category, ct_u2_get, Option.toList, List.cons_append, List.nil_append, Nat.reduceAdd, Nat.reduceSub, Nat.reduceMul, Nat.reduceEqDiff, Nat.reduceLeDiff, Nat.reduceLT, true_and, and_true, and_self, if_true, if_false, reduceCtorEq, Prod.mk.injEq, List.length_cons, List.length_nil, false_and, and_false, not_false_eq_true, not_true_eq_false, true_implies, false_implies, implies_true, Bool.false_eq_true, ite_true, ite_false, reduceIte, or_true, true_or, or_false, false_or, c_sh_10, c_sh_11, c_sh_12, c_sh_13, c_sh_14, c_sh_15, c_sh_16, c_sh_17, c_sh_18, c_sh_19, c_sh_20, c_sh_21, c_sh_22, c_sh_23, c_sh_24, c_sh_25, c_sh_26, c_sh_27, c_sh_28, c_sh_29, c_sh_30, c_sh_31, c_sh_32, c_sh_33, c_sh_34, c_sh_35, c_sh_36, c_sh_37, c_sh_38, c_sh_39, c_R_10_0, c_R_10_4, c_R_10_5, c_R_10_6, c_R_12_0, c_R_12_1, c_R_12_2, c_R_12_3, c_R_12_4, c_R_12_5, c_R_12_6, c_R_12_7, c_R_12_8, c_R_12_9, c_R_23_0, c_R_23_1, c_R_23_2, c_R_27_0, c_R_27_1, c_R_29_0, c_R_29_2, c_R_29_15, c_R_29_16, c_R_29_17, c_R_29_18, c_R_29_19, c_R_29_20, c_R_29_21, c_R_29_23, c_R_23_3, o_aload, o_ii, o_iload, o_push, e_M_shortAt_0, e_M_shortAt_3, e_M_shortAt_4, e_M_shortAt_8, e_M_shortAt_9, e_M_shortAt_10, e_M_shortAt_11, e_M_shortAt_12, e_M_shortAt_16, z_M_shortAt_5, z_M_shortAt_13, z_M_shortAt_17, d_sc_5, d_sc_6, d_sc_7, d_sc_1, d_sc_3, d_sc_4, d_sc_8, d_sc_9, d_sc_10, d_sc_11, d_sc_12, d_sc_13, d_sc_14, d_sc_22, d_sc_ne, m_gd_0, Decidable.not_not]
  refine hK _ (ct_Wp.ret (some (.int _)) rfl d_M_shortAt_17 ⟨?_, rfl⟩)
  rw [show (256 : Int32) = nI 256 from rfl, pk_mul, nI_add]
set_option maxHeartbeats 800000 in
set_option maxRecDepth 100000 in
theorem sp_M_over (l : ct_Lx) (I : Nat → Nat → Int32) (L : Nat → Nat → Int64) (b : Bool) {B : Nat → Nat} {ln : Nat} (hln : ln ≤ 4096) (hE : m_E B ln I) (c : c_Cu) (hc : m_ok ln c) {n : Nat} (hn : n ≤ 16) : ct_Me l M_M_over 2 0 0 [.ref 29, .int (nI n)] (c_g (d_sc I c) L b) (fun v g => v = some (.int (nI c.1)) ∧ g = c_g (d_sc I (m_ov ln n c)) L b) := by
  have h1 := hc.1
  refine ct_Me.of (by decide) (Nat.le_of_ble_eq_true rfl) (fun v g h => by rw [h.1]; first | rfl | exact Or.inl rfl) ?_
  refine ct_Wp.go (A_M_over l) (by decide) [] 80 (fun K hK => ?_)
  simp only [ct_run_s, ct_nx_s, ct_hp, ct_lg, ct_s1, ct_d1, ct_s2, ct_d2, lv_args, Value.category, ct_u2_get, Option.toList, List.cons_append, List.nil_append, Nat.reduceAdd, Nat.reduceSub, Nat.reduceMul, Nat.reduceEqDiff, Nat.reduceLeDiff, Nat.reduceLT, true_and, and_true, and_self, if_true, if_false, reduceCtorEq, Prod.mk.injEq, List.length_cons, List.length_nil, false_and, and_false, not_false_eq_true, not_true_eq_false, true_implies, false_implies, implies_true, Bool.false_eq_true, ite_true, ite_false, reduceIte, or_true, true_or, or_false, false_or, c_sh_10, c_sh_11, c_sh_12, c_sh_13, c_sh_14, c_sh_15, c_sh_16, c_sh_17, c_sh_18, c_sh_19, c_sh_20, c_sh_21, c_sh_22, c_sh_23, c_sh_24, c_sh_25, c_sh_26, c_sh_27, c_sh_28, c_sh_29, c_sh_30, c_sh_31, c_sh_32, c_sh_33, c_sh_34, c_sh_35, c_sh_36, c_sh_37, c_sh_38, c_sh_39, c_R_10_0, c_R_10_4, c_R_10_5, c_R_10_6, c_R_12_0, c_R_12_1, c_R_12_2, c_R_12_3, c_R_12_4, c_R_12_5, c_R_12_6, c_R_12_7, c_R_12_8, c_R_12_9, c_R_23_0, c_R_23_1, c_R_23_2, c_R_27_0, c_R_27_1, c_R_29_0, c_R_29_2, c_R_29_15, c_R_29_16, c_R_29_17, c_R_29_18, c_R_29_19, c_R_29_20, c_R_29_21, c_R_29_23, c_R_23_3, o_aload, o_dup, o_getI, o_goto, o_ic, o_ii, o_iload, o_istore, o_push, o_putI, e_M_over_0, e_M_over_1, e_M_over_4, e_M_over_5, e_M_over_6, e_M_over_9, e_M_over_10, e_M_over_11, e_M_over_12, e_M_over_15, e_M_over_18, e_M_over_19, e_M_over_20, e_M_over_21, e_M_over_27, e_M_over_30, e_M_over_31, e_M_over_32, e_M_over_35, e_M_over_36, e_M_over_37, e_M_over_40, z_M_over_24, z_M_over_41, d_sc_5, d_sc_6, d_sc_7, d_sc_1, d_sc_3, d_sc_4, d_sc_8, d_sc_9, d_sc_10, d_sc_11, d_sc_12, d_sc_13, d_sc_14, d_sc_22, d_sc_ne, m_gd_0, Decidable.not_not, hE.2, nI_add]
  rw [nI_leI (by omega) (by omega)]
  refine ⟨fun h => hK _ (ct_Wp.ret (some (.int _)) rfl d_M_over_41 ⟨rfl, ?_⟩), fun h => ?_⟩
  · rw [m_ov, if_pos h, d_sc_at]
  · refine hK _ (cl_M_over_24 rfl (sp_M_fail l I L b c hc.2 2 ln) (by decide) (Nat.le_of_ble_eq_true rfl) (Nat.le_refl _) (Nat.le_refl _) ?_)
    rintro w g ⟨rfl, rfl⟩
    refine ct_Wp.go (A_M_over l) (by decide) [] 80 (fun K hK => ?_)
    simp only [ct_run_s, ct_nx_s, ct_hp, ct_lg, ct_s1, ct_d1, ct_s2, ct_d2, lv_args, Value.category, ct_u2_get, Option.toList, List.cons_append, List.nil_append, Nat.reduceAdd, Nat.reduceSub, Nat.reduceMul, Nat.reduceEqDiff, Nat.reduceLeDiff, Nat.reduceLT, true_and, and_true, and_self, if_true, if_false, reduceCtorEq, Prod.mk.injEq, List.length_cons, List.length_nil, false_and, and_false, not_false_eq_true, not_true_eq_false, true_implies, false_implies, implies_true, Bool.false_eq_true, ite_true, ite_false, reduceIte, or_true, true_or, or_false, false_or, c_sh_10, c_sh_11, c_sh_12, c_sh_13, c_sh_14, c_sh_15, c_sh_16, c_sh_17, c_sh_18, c_sh_19, c_sh_20, c_sh_21, c_sh_22, c_sh_23, c_sh_24, c_sh_25, c_sh_26, c_sh_27, c_sh_28, c_sh_29, c_sh_30, c_sh_31, c_sh_32, c_sh_33, c_sh_34, c_sh_35, c_sh_36, c_sh_37, c_sh_38, c_sh_39, c_R_10_0, c_R_10_4, c_R_10_5, c_R_10_6, c_R_12_0, c_R_12_1, c_R_12_2, c_R_12_3, c_R_12_4, c_R_12_5, c_R_12_6, c_R_12_7, c_R_12_8, c_R_12_9, c_R_23_0, c_R_23_1, c_R_23_2, c_R_27_0, c_R_27_1, c_R_29_0, c_R_29_2, c_R_29_15, c_R_29_16, c_R_29_17, c_R_29_18, c_R_29_19, c_R_29_20, c_R_29_21, c_R_29_23, c_R_23_3, o_aload, o_dup, o_getI, o_goto, o_ic, o_ii, o_iload, o_istore, o_push, o_putI, e_M_over_0, e_M_over_1, e_M_over_4, e_M_over_5, e_M_over_6, e_M_over_9, e_M_over_10, e_M_over_11, e_M_over_12, e_M_over_15, e_M_over_18, e_M_over_19, e_M_over_20, e_M_over_21, e_M_over_27, e_M_over_30, e_M_over_31, e_M_over_32, e_M_over_35, e_M_over_36, e_M_over_37, e_M_over_40, z_M_over_24, z_M_over_41, d_sc_5, d_sc_6, d_sc_7, d_sc_1, d_sc_3, d_sc_4, d_sc_8, d_sc_9, d_sc_10, d_sc_11, d_sc_12, d_sc_13, d_sc_14, d_sc_22, d_sc_ne, m_gd_0, Decidable.not_not]
    refine hK _ (ct_Wp.ret (some (.int _)) rfl d_M_over_41 ⟨rfl, ?_⟩)
    rw [m_ov, if_neg h]
set_option maxHeartbeats 800000 in
set_option maxRecDepth 100000 in
theorem sp_M_count (l : ct_Lx) (I : Nat → Nat → Int32) (L : Nat → Nat → Int64) (b : Bool) {B : Nat → Nat} {ln : Nat} (hln : ln ≤ 4096) (hE : m_E B ln I) (c : c_Cu) (hc : m_ok ln c) {lo hi : Nat} (hlo : lo < 256) (hhi : hi < 256) : ct_Me l M_M_count 3 0 0 [.ref 29, .int (nI lo), .int (nI hi)] (c_g (d_sc I c) L b) (fun v g => v = some (.int (nI (m_cv B ln lo hi c))) ∧ g = c_g (d_sc I (m_c1 B ln lo hi c)) L b) := by
  have h1 := hc.1
  have hlt := hE.lt c.1
  refine ct_Me.of (by decide) (Nat.le_of_ble_eq_true rfl) (fun v g h => by rw [h.1]; first | rfl | exact Or.inl rfl) ?_
  refine ct_Wp.go (A_M_count l) (by decide) [] 80 (fun K hK => ?_)
  simp only [ct_run_s, ct_nx_s, ct_hp, ct_lg, ct_s1, ct_d1, ct_s2, ct_d2, lv_args, Value.category, ct_u2_get, Option.toList, List.cons_append, List.nil_append, Nat.reduceAdd, Nat.reduceSub, Nat.reduceMul, Nat.reduceEqDiff, Nat.reduceLeDiff, Nat.reduceLT, true_and, and_true, and_self, if_true, if_false, reduceCtorEq, Prod.mk.injEq, List.length_cons, List.length_nil, false_and, and_false, not_false_eq_true, not_true_eq_false, true_implies, false_implies, implies_true, Bool.false_eq_true, ite_true, ite_false, reduceIte, or_true, true_or, or_false, false_or, c_sh_10, c_sh_11, c_sh_12, c_sh_13, c_sh_14, c_sh_15, c_sh_16, c_sh_17, c_sh_18, c_sh_19, c_sh_20, c_sh_21, c_sh_22, c_sh_23, c_sh_24, c_sh_25, c_sh_26, c_sh_27, c_sh_28, c_sh_29, c_sh_30, c_sh_31, c_sh_32, c_sh_33, c_sh_34, c_sh_35, c_sh_36, c_sh_37, c_sh_38, c_sh_39, c_R_10_0, c_R_10_4, c_R_10_5, c_R_10_6, c_R_12_0, c_R_12_1, c_R_12_2, c_R_12_3, c_R_12_4, c_R_12_5, c_R_12_6, c_R_12_7, c_R_12_8, c_R_12_9, c_R_23_0, c_R_23_1, c_R_23_2, c_R_27_0, c_R_27_1, c_R_29_0, c_R_29_2, c_R_29_15, c_R_29_16, c_R_29_17, c_R_29_18, c_R_29_19, c_R_29_20, c_R_29_21, c_R_29_23, c_R_23_3, o_aload, o_goto, o_ic, o_if, o_iload, o_istore, o_push, e_M_count_0, e_M_count_1, e_M_count_5, e_M_count_6, e_M_count_10, e_M_count_13, e_M_count_14, e_M_count_18, e_M_count_19, e_M_count_22, e_M_count_23, e_M_count_27, e_M_count_28, e_M_count_31, e_M_count_32, e_M_count_33, e_M_count_37, e_M_count_41, e_M_count_44, e_M_count_45, e_M_count_49, e_M_count_52, z_M_count_2, z_M_count_7, z_M_count_15, z_M_count_24, z_M_count_34, z_M_count_38, z_M_count_46, z_M_count_53, d_sc_5, d_sc_6, d_sc_7, d_sc_1, d_sc_3, d_sc_4, d_sc_8, d_sc_9, d_sc_10, d_sc_11, d_sc_12, d_sc_13, d_sc_14, d_sc_22, d_sc_ne, m_gd_0, Decidable.not_not]
  refine hK _ (cl_M_count_2 rfl (sp_M_over l I L b hln hE c hc (n := 1) (by decide)) (by decide) (Nat.le_of_ble_eq_true rfl) (Nat.le_refl _) (Nat.le_refl _) ?_)
  rintro w g ⟨rfl, rfl⟩
  refine ct_Wp.go (A_M_count l) (by decide) [] 80 (fun K hK => ?_)
  simp only [ct_run_s, ct_nx_s, ct_hp, ct_lg, ct_s1, ct_d1, ct_s2, ct_d2, lv_args, Value.category, ct_u2_get, Option.toList, List.cons_append, List.nil_append, Nat.reduceAdd, Nat.reduceSub, Nat.reduceMul, Nat.reduceEqDiff, Nat.reduceLeDiff, Nat.reduceLT, true_and, and_true, and_self, if_true, if_false, reduceCtorEq, Prod.mk.injEq, List.length_cons, List.length_nil, false_and, and_false, not_false_eq_true, not_true_eq_false, true_implies, false_implies, implies_true, Bool.false_eq_true, ite_true, ite_false, reduceIte, or_true, true_or, or_false, false_or, c_sh_10, c_sh_11, c_sh_12, c_sh_13, c_sh_14, c_sh_15, c_sh_16, c_sh_17, c_sh_18, c_sh_19, c_sh_20, c_sh_21, c_sh_22, c_sh_23, c_sh_24, c_sh_25, c_sh_26, c_sh_27, c_sh_28, c_sh_29, c_sh_30, c_sh_31, c_sh_32, c_sh_33, c_sh_34, c_sh_35, c_sh_36, c_sh_37, c_sh_38, c_sh_39, c_R_10_0, c_R_10_4, c_R_10_5, c_R_10_6, c_R_12_0, c_R_12_1, c_R_12_2, c_R_12_3, c_R_12_4, c_R_12_5, c_R_12_6, c_R_12_7, c_R_12_8, c_R_12_9, c_R_23_0, c_R_23_1, c_R_23_2, c_R_27_0, c_R_27_1, c_R_29_0, c_R_29_2, c_R_29_15, c_R_29_16, c_R_29_17, c_R_29_18, c_R_29_19, c_R_29_20, c_R_29_21, c_R_29_23, c_R_23_3, o_aload, o_goto, o_ic, o_if, o_iload, o_istore, o_push, e_M_count_0, e_M_count_1, e_M_count_5, e_M_count_6, e_M_count_10, e_M_count_13, e_M_count_14, e_M_count_18, e_M_count_19, e_M_count_22, e_M_count_23, e_M_count_27, e_M_count_28, e_M_count_31, e_M_count_32, e_M_count_33, e_M_count_37, e_M_count_41, e_M_count_44, e_M_count_45, e_M_count_49, e_M_count_52, z_M_count_2, z_M_count_7, z_M_count_15, z_M_count_24, z_M_count_34, z_M_count_38, z_M_count_46, z_M_count_53, d_sc_5, d_sc_6, d_sc_7, d_sc_1, d_sc_3, d_sc_4, d_sc_8, d_sc_9, d_sc_10, d_sc_11, d_sc_12, d_sc_13, d_sc_14, d_sc_22, d_sc_ne, m_gd_0, Decidable.not_not]
  refine hK _ (cl_M_count_7 rfl (sp_M_isGood l I L b (m_ov ln 1 c) hc.ov.2) (by decide) (Nat.le_of_ble_eq_true rfl) (Nat.le_refl _) (Nat.le_refl _) ?_)
  rintro w g ⟨rfl, rfl⟩
  have fin : ∀ (c2 : c_Cu) (lv : ct_Lv), m_ok ln c2 → m_c1 B ln lo hi c = c2 → ct_lg lv 3 = some (.int (nI c.1)) → ct_lg lv 0 = some (.ref 29) → ct_Wp l M_M_count 3 (fun v g => v = some (.int (nI (m_cv B ln lo hi c))) ∧ g = c_g (d_sc I (m_c1 B ln lo hi c)) L b) (37, lv, [], c_g (d_sc I c2) L b, 0, 0) := by
    intro c2 lv k2 e q3 q0
    refine ct_Wp.go (A_M_count l) (by decide) [] 80 (fun K hK => ?_)
    simp only [ct_run_s, ct_nx_s, ct_hp, ct_lg, ct_s1, ct_d1, ct_s2, ct_d2, lv_args, Value.category, ct_u2_get, Option.toList, List.cons_append, List.nil_append, Nat.reduceAdd, Nat.reduceSub, Nat.reduceMul, Nat.reduceEqDiff, Nat.reduceLeDiff, Nat.reduceLT, true_and, and_true, and_self, if_true, if_false, reduceCtorEq, Prod.mk.injEq, List.length_cons, List.length_nil, false_and, and_false, not_false_eq_true, not_true_eq_false, true_implies, false_implies, implies_true, Bool.false_eq_true, ite_true, ite_false, reduceIte, or_true, true_or, or_false, false_or, c_sh_10, c_sh_11, c_sh_12, c_sh_13, c_sh_14, c_sh_15, c_sh_16, c_sh_17, c_sh_18, c_sh_19, c_sh_20, c_sh_21, c_sh_22, c_sh_23, c_sh_24, c_sh_25, c_sh_26, c_sh_27, c_sh_28, c_sh_29, c_sh_30, c_sh_31, c_sh_32, c_sh_33, c_sh_34, c_sh_35, c_sh_36, c_sh_37, c_sh_38, c_sh_39, c_R_10_0, c_R_10_4, c_R_10_5, c_R_10_6, c_R_12_0, c_R_12_1, c_R_12_2, c_R_12_3, c_R_12_4, c_R_12_5, c_R_12_6, c_R_12_7, c_R_12_8, c_R_12_9, c_R_23_0, c_R_23_1, c_R_23_2, c_R_27_0, c_R_27_1, c_R_29_0, c_R_29_2, c_R_29_15, c_R_29_16, c_R_29_17, c_R_29_18, c_R_29_19, c_R_29_20, c_R_29_21, c_R_29_23, c_R_23_3, o_aload, o_goto, o_ic, o_if, o_iload, o_istore, o_push, e_M_count_0, e_M_count_1, e_M_count_5, e_M_count_6, e_M_count_10, e_M_count_13, e_M_count_14, e_M_count_18, e_M_count_19, e_M_count_22, e_M_count_23, e_M_count_27, e_M_count_28, e_M_count_31, e_M_count_32, e_M_count_33, e_M_count_37, e_M_count_41, e_M_count_44, e_M_count_45, e_M_count_49, e_M_count_52, z_M_count_2, z_M_count_7, z_M_count_15, z_M_count_24, z_M_count_34, z_M_count_38, z_M_count_46, z_M_count_53, d_sc_5, d_sc_6, d_sc_7, d_sc_1, d_sc_3, d_sc_4, d_sc_8, d_sc_9, d_sc_10, d_sc_11, d_sc_12, d_sc_13, d_sc_14, d_sc_22, d_sc_ne, m_gd_0, Decidable.not_not, q3, q0]
    refine hK _ (cl_M_count_38 rfl (sp_M_isGood l I L b c2 k2.2) (by decide) (Nat.le_of_ble_eq_true rfl) (Nat.le_refl _) (Nat.le_refl _) ?_)
    rintro w g ⟨rfl, rfl⟩
    refine ct_Wp.go (A_M_count l) (by decide) [] 80 (fun K hK => ?_)
    simp only [ct_run_s, ct_nx_s, ct_hp, ct_lg, ct_s1, ct_d1, ct_s2, ct_d2, lv_args, Value.category, ct_u2_get, Option.toList, List.cons_append, List.nil_append, Nat.reduceAdd, Nat.reduceSub, Nat.reduceMul, Nat.reduceEqDiff, Nat.reduceLeDiff, Nat.reduceLT, true_and, and_true, and_self, if_true, if_false, reduceCtorEq, Prod.mk.injEq, List.length_cons, List.length_nil, false_and, and_false, not_false_eq_true, not_true_eq_false, true_implies, false_implies, implies_true, Bool.false_eq_true, ite_true, ite_false, reduceIte, or_true, true_or, or_false, false_or, c_sh_10, c_sh_11, c_sh_12, c_sh_13, c_sh_14, c_sh_15, c_sh_16, c_sh_17, c_sh_18, c_sh_19, c_sh_20, c_sh_21, c_sh_22, c_sh_23, c_sh_24, c_sh_25, c_sh_26, c_sh_27, c_sh_28, c_sh_29, c_sh_30, c_sh_31, c_sh_32, c_sh_33, c_sh_34, c_sh_35, c_sh_36, c_sh_37, c_sh_38, c_sh_39, c_R_10_0, c_R_10_4, c_R_10_5, c_R_10_6, c_R_12_0, c_R_12_1, c_R_12_2, c_R_12_3, c_R_12_4, c_R_12_5, c_R_12_6, c_R_12_7, c_R_12_8, c_R_12_9, c_R_23_0, c_R_23_1, c_R_23_2, c_R_27_0, c_R_27_1, c_R_29_0, c_R_29_2, c_R_29_15, c_R_29_16, c_R_29_17, c_R_29_18, c_R_29_19, c_R_29_20, c_R_29_21, c_R_29_23, c_R_23_3, o_aload, o_goto, o_ic, o_if, o_iload, o_istore, o_push, e_M_count_0, e_M_count_1, e_M_count_5, e_M_count_6, e_M_count_10, e_M_count_13, e_M_count_14, e_M_count_18, e_M_count_19, e_M_count_22, e_M_count_23, e_M_count_27, e_M_count_28, e_M_count_31, e_M_count_32, e_M_count_33, e_M_count_37, e_M_count_41, e_M_count_44, e_M_count_45, e_M_count_49, e_M_count_52, z_M_count_2, z_M_count_7, z_M_count_15, z_M_count_24, z_M_count_34, z_M_count_38, z_M_count_46, z_M_count_53, d_sc_5, d_sc_6, d_sc_7, d_sc_1, d_sc_3, d_sc_4, d_sc_8, d_sc_9, d_sc_10, d_sc_11, d_sc_12, d_sc_13, d_sc_14, d_sc_22, d_sc_ne, m_gd_0, Decidable.not_not, q3, q0]
    refine ⟨fun h => hK _ (ct_Wp.ret (some (.int _)) rfl d_M_count_53 ⟨?_, by rw [e]⟩), fun h => ?_⟩
    · rw [m_cv, e, if_neg h]; rfl
    · refine hK _ (cl_M_count_46 rfl (sp_M_byteAtc l I L b hln hE c2 (p := c.1) (by omega)) (by decide) (Nat.le_of_ble_eq_true rfl) (Nat.le_refl _) (Nat.le_refl _) ?_)
      rintro w g ⟨rfl, rfl⟩
      refine ct_Wp.go (A_M_count l) (by decide) [] 80 (fun K hK => ?_)
      simp only [ct_run_s, ct_nx_s, ct_hp, ct_lg, ct_s1, ct_d1, ct_s2, ct_d2, lv_args, Value.category, ct_u2_get, Option.toList, List.cons_append, List.nil_append, Nat.reduceAdd, Nat.reduceSub, Nat.reduceMul, Nat.reduceEqDiff, Nat.reduceLeDiff, Nat.reduceLT, true_and, and_true, and_self, if_true, if_false, reduceCtorEq, Prod.mk.injEq, List.length_cons, List.length_nil, false_and, and_false, not_false_eq_true, not_true_eq_false, true_implies, false_implies, implies_true, Bool.false_eq_true, ite_true, ite_false, reduceIte, or_true, true_or, or_false, false_or, c_sh_10, c_sh_11, c_sh_12, c_sh_13, c_sh_14, c_sh_15, c_sh_16, c_sh_17, c_sh_18, c_sh_19, c_sh_20, c_sh_21, c_sh_22, c_sh_23, c_sh_24, c_sh_25, c_sh_26, c_sh_27, c_sh_28, c_sh_29, c_sh_30, c_sh_31, c_sh_32, c_sh_33, c_sh_34, c_sh_35, c_sh_36, c_sh_37, c_sh_38, c_sh_39, c_R_10_0, c_R_10_4, c_R_10_5, c_R_10_6, c_R_12_0, c_R_12_1, c_R_12_2, c_R_12_3, c_R_12_4, c_R_12_5, c_R_12_6, c_R_12_7, c_R_12_8, c_R_12_9, c_R_23_0, c_R_23_1, c_R_23_2, c_R_27_0, c_R_27_1, c_R_29_0, c_R_29_2, c_R_29_15, c_R_29_16, c_R_29_17, c_R_29_18, c_R_29_19, c_R_29_20, c_R_29_21, c_R_29_23, c_R_23_3, o_aload, o_goto, o_ic, o_if, o_iload, o_istore, o_push, e_M_count_0, e_M_count_1, e_M_count_5, e_M_count_6, e_M_count_10, e_M_count_13, e_M_count_14, e_M_count_18, e_M_count_19, e_M_count_22, e_M_count_23, e_M_count_27, e_M_count_28, e_M_count_31, e_M_count_32, e_M_count_33, e_M_count_37, e_M_count_41, e_M_count_44, e_M_count_45, e_M_count_49, e_M_count_52, z_M_count_2, z_M_count_7, z_M_count_15, z_M_count_24, z_M_count_34, z_M_count_38, z_M_count_46, z_M_count_53, d_sc_5, d_sc_6, d_sc_7, d_sc_1, d_sc_3, d_sc_4, d_sc_8, d_sc_9, d_sc_10, d_sc_11, d_sc_12, d_sc_13, d_sc_14, d_sc_22, d_sc_ne, m_gd_0, Decidable.not_not]
      refine hK _ (ct_Wp.ret (some (.int _)) rfl d_M_count_53 ⟨?_, by rw [e]⟩)
      rw [m_cv, e, if_pos h]
  refine ct_Wp.go (A_M_count l) (by decide) [31, 37] 80 (fun K hK => ?_)
  simp only [ct_run_s, ct_nx_s, ct_hp, ct_lg, ct_s1, ct_d1, ct_s2, ct_d2, lv_args, Value.category, ct_u2_get, Option.toList, List.cons_append, List.nil_append, Nat.reduceAdd, Nat.reduceSub, Nat.reduceMul, Nat.reduceEqDiff, Nat.reduceLeDiff, Nat.reduceLT, true_and, and_true, and_self, if_true, if_false, reduceCtorEq, Prod.mk.injEq, List.length_cons, List.length_nil, false_and, and_false, not_false_eq_true, not_true_eq_false, true_implies, false_implies, implies_true, Bool.false_eq_true, ite_true, ite_false, reduceIte, or_true, true_or, or_false, false_or, c_sh_10, c_sh_11, c_sh_12, c_sh_13, c_sh_14, c_sh_15, c_sh_16, c_sh_17, c_sh_18, c_sh_19, c_sh_20, c_sh_21, c_sh_22, c_sh_23, c_sh_24, c_sh_25, c_sh_26, c_sh_27, c_sh_28, c_sh_29, c_sh_30, c_sh_31, c_sh_32, c_sh_33, c_sh_34, c_sh_35, c_sh_36, c_sh_37, c_sh_38, c_sh_39, c_R_10_0, c_R_10_4, c_R_10_5, c_R_10_6, c_R_12_0, c_R_12_1, c_R_12_2, c_R_12_3, c_R_12_4, c_R_12_5, c_R_12_6, c_R_12_7, c_R_12_8, c_R_12_9, c_R_23_0, c_R_23_1, c_R_23_2, c_R_27_0, c_R_27_1, c_R_29_0, c_R_29_2, c_R_29_15, c_R_29_16, c_R_29_17, c_R_29_18, c_R_29_19, c_R_29_20, c_R_29_21, c_R_29_23, c_R_23_3, o_aload, o_goto, o_ic, o_if, o_iload, o_istore, o_push, e_M_count_0, e_M_count_1, e_M_count_5, e_M_count_6, e_M_count_10, e_M_count_13, e_M_count_14, e_M_count_18, e_M_count_19, e_M_count_22, e_M_count_23, e_M_count_27, e_M_count_28, e_M_count_31, e_M_count_32, e_M_count_33, e_M_count_37, e_M_count_41, e_M_count_44, e_M_count_45, e_M_count_49, e_M_count_52, z_M_count_2, z_M_count_7, z_M_count_15, z_M_count_24, z_M_count_34, z_M_count_38, z_M_count_46, z_M_count_53, d_sc_5, d_sc_6, d_sc_7, d_sc_1, d_sc_3, d_sc_4, d_sc_8, d_sc_9, d_sc_10, d_sc_11, d_sc_12, d_sc_13, d_sc_14, d_sc_22, d_sc_ne, m_gd_0, Decidable.not_not]
  refine ⟨fun h => hK _ (fin _ _ hc.ov ?_ rfl rfl), fun h => ?_⟩
  · rw [m_c1, if_neg (fun z => h z.1)]
  · refine hK _ (cl_M_count_15 rfl (sp_M_byteAtc l I L b hln hE (m_ov ln 1 c) (p := c.1) (by omega)) (by decide) (Nat.le_of_ble_eq_true rfl) (Nat.le_refl _) (Nat.le_refl _) ?_)
    rintro w g ⟨rfl, rfl⟩
    refine ct_Wp.go (A_M_count l) (by decide) [31, 37] 80 (fun K hK => ?_)
    simp only [ct_run_s, ct_nx_s, ct_hp, ct_lg, ct_s1, ct_d1, ct_s2, ct_d2, lv_args, Value.category, ct_u2_get, Option.toList, List.cons_append, List.nil_append, Nat.reduceAdd, Nat.reduceSub, Nat.reduceMul, Nat.reduceEqDiff, Nat.reduceLeDiff, Nat.reduceLT, true_and, and_true, and_self, if_true, if_false, reduceCtorEq, Prod.mk.injEq, List.length_cons, List.length_nil, false_and, and_false, not_false_eq_true, not_true_eq_false, true_implies, false_implies, implies_true, Bool.false_eq_true, ite_true, ite_false, reduceIte, or_true, true_or, or_false, false_or, c_sh_10, c_sh_11, c_sh_12, c_sh_13, c_sh_14, c_sh_15, c_sh_16, c_sh_17, c_sh_18, c_sh_19, c_sh_20, c_sh_21, c_sh_22, c_sh_23, c_sh_24, c_sh_25, c_sh_26, c_sh_27, c_sh_28, c_sh_29, c_sh_30, c_sh_31, c_sh_32, c_sh_33, c_sh_34, c_sh_35, c_sh_36, c_sh_37, c_sh_38, c_sh_39, c_R_10_0, c_R_10_4, c_R_10_5, c_R_10_6, c_R_12_0, c_R_12_1, c_R_12_2, c_R_12_3, c_R_12_4, c_R_12_5, c_R_12_6, c_R_12_7, c_R_12_8, c_R_12_9, c_R_23_0, c_R_23_1, c_R_23_2, c_R_27_0, c_R_27_1, c_R_29_0, c_R_29_2, c_R_29_15, c_R_29_16, c_R_29_17, c_R_29_18, c_R_29_19, c_R_29_20, c_R_29_21, c_R_29_23, c_R_23_3, o_aload, o_goto, o_ic, o_if, o_iload, o_istore, o_push, e_M_count_0, e_M_count_1, e_M_count_5, e_M_count_6, e_M_count_10, e_M_count_13, e_M_count_14, e_M_count_18, e_M_count_19, e_M_count_22, e_M_count_23, e_M_count_27, e_M_count_28, e_M_count_31, e_M_count_32, e_M_count_33, e_M_count_37, e_M_count_41, e_M_count_44, e_M_count_45, e_M_count_49, e_M_count_52, z_M_count_2, z_M_count_7, z_M_count_15, z_M_count_24, z_M_count_34, z_M_count_38, z_M_count_46, z_M_count_53, d_sc_5, d_sc_6, d_sc_7, d_sc_1, d_sc_3, d_sc_4, d_sc_8, d_sc_9, d_sc_10, d_sc_11, d_sc_12, d_sc_13, d_sc_14, d_sc_22, d_sc_ne, m_gd_0, Decidable.not_not]
    rw [nI_ltI (by omega) (by omega)]
    have bad : ∀ lv, ct_lg lv 3 = some (.int (nI c.1)) → ct_lg lv 0 = some (.ref 29) → (B c.1 < lo ∨ hi < B c.1) → ct_Wp l M_M_count 3 (fun v g => v = some (.int (nI (m_cv B ln lo hi c))) ∧ g = c_g (d_sc I (m_c1 B ln lo hi c)) L b) (31, lv, [], c_g (d_sc I (m_ov ln 1 c)) L b, 0, 0) := by
      intro lv q3 q0 hor
      refine ct_Wp.go (A_M_count l) (by decide) [37] 80 (fun K hK => ?_)
      simp only [ct_run_s, ct_nx_s, ct_hp, ct_lg, ct_s1, ct_d1, ct_s2, ct_d2, lv_args, Value.category, ct_u2_get, Option.toList, List.cons_append, List.nil_append, Nat.reduceAdd, Nat.reduceSub, Nat.reduceMul, Nat.reduceEqDiff, Nat.reduceLeDiff, Nat.reduceLT, true_and, and_true, and_self, if_true, if_false, reduceCtorEq, Prod.mk.injEq, List.length_cons, List.length_nil, false_and, and_false, not_false_eq_true, not_true_eq_false, true_implies, false_implies, implies_true, Bool.false_eq_true, ite_true, ite_false, reduceIte, or_true, true_or, or_false, false_or, c_sh_10, c_sh_11, c_sh_12, c_sh_13, c_sh_14, c_sh_15, c_sh_16, c_sh_17, c_sh_18, c_sh_19, c_sh_20, c_sh_21, c_sh_22, c_sh_23, c_sh_24, c_sh_25, c_sh_26, c_sh_27, c_sh_28, c_sh_29, c_sh_30, c_sh_31, c_sh_32, c_sh_33, c_sh_34, c_sh_35, c_sh_36, c_sh_37, c_sh_38, c_sh_39, c_R_10_0, c_R_10_4, c_R_10_5, c_R_10_6, c_R_12_0, c_R_12_1, c_R_12_2, c_R_12_3, c_R_12_4, c_R_12_5, c_R_12_6, c_R_12_7, c_R_12_8, c_R_12_9, c_R_23_0, c_R_23_1, c_R_23_2, c_R_27_0, c_R_27_1, c_R_29_0, c_R_29_2, c_R_29_15, c_R_29_16, c_R_29_17, c_R_29_18, c_R_29_19, c_R_29_20, c_R_29_21, c_R_29_23, c_R_23_3, o_aload, o_goto, o_ic, o_if, o_iload, o_istore, o_push, e_M_count_0, e_M_count_1, e_M_count_5, e_M_count_6, e_M_count_10, e_M_count_13, e_M_count_14, e_M_count_18, e_M_count_19, e_M_count_22, e_M_count_23, e_M_count_27, e_M_count_28, e_M_count_31, e_M_count_32, e_M_count_33, e_M_count_37, e_M_count_41, e_M_count_44, e_M_count_45, e_M_count_49, e_M_count_52, z_M_count_2, z_M_count_7, z_M_count_15, z_M_count_24, z_M_count_34, z_M_count_38, z_M_count_46, z_M_count_53, d_sc_5, d_sc_6, d_sc_7, d_sc_1, d_sc_3, d_sc_4, d_sc_8, d_sc_9, d_sc_10, d_sc_11, d_sc_12, d_sc_13, d_sc_14, d_sc_22, d_sc_ne, m_gd_0, Decidable.not_not, q3, q0]
      refine hK _ (cl_M_count_34 rfl (sp_M_fail l I L b (m_ov ln 1 c) hc.ov.2 3 c.1) (by decide) (Nat.le_of_ble_eq_true rfl) (Nat.le_refl _) (Nat.le_refl _) ?_)
      rintro w g ⟨rfl, rfl⟩
      exact fin _ lv (hc.ov.fl (by decide)) (by rw [m_c1, if_pos ⟨h, hor⟩]) q3 q0
    refine ⟨fun q => hK _ (bad _ rfl rfl (Or.inl q)), fun q => ?_⟩
    refine hK _ (cl_M_count_24 rfl (sp_M_byteAtc l I L b hln hE (m_ov ln 1 c) (p := c.1) (by omega)) (by decide) (Nat.le_of_ble_eq_true rfl) (Nat.le_refl _) (Nat.le_refl _) ?_)
    rintro w g ⟨rfl, rfl⟩
    refine ct_Wp.go (A_M_count l) (by decide) [31, 37] 80 (fun K hK => ?_)
    simp only [ct_run_s, ct_nx_s, ct_hp, ct_lg, ct_s1, ct_d1, ct_s2, ct_d2, lv_args, Value.category, ct_u2_get, Option.toList, List.cons_append, List.nil_append, Nat.reduceAdd, Nat.reduceSub, Nat.reduceMul, Nat.reduceEqDiff, Nat.reduceLeDiff, Nat.reduceLT, true_and, and_true, and_self, if_true, if_false, reduceCtorEq, Prod.mk.injEq, List.length_cons, List.length_nil, false_and, and_false, not_false_eq_true, not_true_eq_false, true_implies, false_implies, implies_true, Bool.false_eq_true, ite_true, ite_false, reduceIte, or_true, true_or, or_false, false_or, c_sh_10, c_sh_11, c_sh_12, c_sh_13, c_sh_14, c_sh_15, c_sh_16, c_sh_17, c_sh_18, c_sh_19, c_sh_20, c_sh_21, c_sh_22, c_sh_23, c_sh_24, c_sh_25, c_sh_26, c_sh_27, c_sh_28, c_sh_29, c_sh_30, c_sh_31, c_sh_32, c_sh_33, c_sh_34, c_sh_35, c_sh_36, c_sh_37, c_sh_38, c_sh_39, c_R_10_0, c_R_10_4, c_R_10_5, c_R_10_6, c_R_12_0, c_R_12_1, c_R_12_2, c_R_12_3, c_R_12_4, c_R_12_5, c_R_12_6, c_R_12_7, c_R_12_8, c_R_12_9, c_R_23_0, c_R_23_1, c_R_23_2, c_R_27_0, c_R_27_1, c_R_29_0, c_R_29_2, c_R_29_15, c_R_29_16, c_R_29_17, c_R_29_18, c_R_29_19, c_R_29_20, c_R_29_21, c_R_29_23, c_R_23_3, o_aload, o_goto, o_ic, o_if, o_iload, o_istore, o_push, e_M_count_0, e_M_count_1, e_M_count_5, e_M_count_6, e_M_count_10, e_M_count_13, e_M_count_14, e_M_count_18, e_M_count_19, e_M_count_22, e_M_count_23, e_M_count_27, e_M_count_28, e_M_count_31, e_M_count_32, e_M_count_33, e_M_count_37, e_M_count_41, e_M_count_44, e_M_count_45, e_M_count_49, e_M_count_52, z_M_count_2, z_M_count_7, z_M_count_15, z_M_count_24, z_M_count_34, z_M_count_38, z_M_count_46, z_M_count_53, d_sc_5, d_sc_6, d_sc_7, d_sc_1, d_sc_3, d_sc_4, d_sc_8, d_sc_9, d_sc_10, d_sc_11, d_sc_12, d_sc_13, d_sc_14, d_sc_22, d_sc_ne, m_gd_0, Decidable.not_not]
    rw [nI_leI (by omega) (by omega)]
    refine ⟨fun z => hK _ (fin _ _ hc.ov ?_ rfl rfl), fun z => hK _ (bad _ rfl rfl (Or.inr (by omega)))⟩
    rw [m_c1, if_neg (fun y => by omega)]
