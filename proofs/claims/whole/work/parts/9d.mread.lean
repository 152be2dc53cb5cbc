/-! THE REFERENCE'S read -/
def z_B (ln : Nat) (I : Nat → Nat → Int32) (p : Nat) : Nat := if p < ln then (I 30 p).toBitVec.toNat % 256 else 0
theorem z_B_ok (ln : Nat) (I : Nat → Nat → Int32) : v_B (z_B ln I) ln := by
  refine ⟨fun j => ?_, fun j hj => ?_⟩
  · unfold z_B; split
    · exact Nat.mod_lt _ (by decide)
    · decide
  · unfold z_B; rw [if_neg (by omega)]
/-- the rows as the walk begins -/
def z_J (ln : Nat) (I J : Nat → Nat → Int32) : Prop := (∀ h, ¬ h = 29 → ¬ h = 31 → J h = I h) ∧ (∀ k, ¬ k = 1 → ¬ k = 3 → ¬ k = 5 → ¬ k = 6 → ¬ k = 14 → J 29 k = I 29 k) ∧ J 29 1 = 0 ∧ J 29 14 = nI 0 ∧ m_E (z_B ln I) ln J
theorem d_sc_self {J : Nat → Nat → Int32} {c : c_Cu} (h5 : J 29 5 = nI c.1) (h6 : J 29 6 = nI c.2.1) (h7 : J 29 7 = nI c.2.2) : d_sc J c = J := by
  unfold d_sc
  rw [← h5, c_u2_same, ← h6, c_u2_same, ← h7, c_u2_same]
def z_fin (J : Nat → Nat → Int32) (f : Nat → Int32) (ln : Nat) (c : c_Cu) : Nat → Nat → Int32 := ct_u2 (ct_u2 (m_r39 (d_sc J c) f) 29 4 (m_gd c)) 29 8 (if c.2.1 = 0 then nI ln else nI c.2.2)
def z_ci (B : Nat → Nat) (ln n1 : Nat) (SA : Nat → Nat) (k : Nat) (c : c_Cu) : c_Cu := if m_rd B ln n1 SA k = true then c_fl 14 (SA k) c else c
theorem m_ok.ci {B : Nat → Nat} {ln n1 k : Nat} {SA : Nat → Nat} {c : c_Cu} (h : m_ok ln c) : m_ok ln (z_ci B ln n1 SA k c) := by
  unfold z_ci; split
  · exact h.fl (by decide)
  · exact h
set_option maxHeartbeats 800000 in
set_option maxRecDepth 100000 in
theorem sp_M_read_copy (l : ct_Lx) (J : Nat → Nat → Int32) (L : Nat → Nat → Int64) (b : Bool) {Post : Option Value → ct_Sg → Prop} {ln : Nat} (hln : ln ≤ 4096) (h3 : J 29 3 = nI ln) (kk : ∀ I, m_CP 31 30 J I ln → ct_Wp l M_M_read 8 Post (41, [(0, .ref 29)], [], c_g I L b, 0, 0)) : ∀ (n k : Nat) (I : Nat → Nat → Int32), k + n = ln → m_CP 31 30 J I k → ct_Wp l M_M_read 8 Post (15, [(1, .int (nI k)), (0, .ref 29)], [], c_g I L b, 0, 0) := by
  intro n
  induction n with
  | zero =>
    intro k I hi hC
    have e : k = ln := by omega
    subst e
    have h3' : I 29 3 = nI k := by rw [hC.1 29 (by decide)]; exact h3
    refine ct_Wp.go (A_M_read l) (by decide) [15, 41] 60 (fun K hK => ?_)
    simp only [ct_run_s, ct_nx_s, ct_hp, ct_lg, ct_s1, ct_d1, ct_s2, ct_d2, lv_args, Value.category, ct_u2_get, Option.toList, List.cons_append, List.nil_append, Nat.reduceAdd, Nat.reduceSub, Nat.reduceMul, Nat.reduceEqDiff, Nat.reduceLeDiff, Nat.reduceLT, true_and, and_true, and_self, if_true, if_false, reduceCtorEq, Prod.mk.injEq, List.length_cons, List.length_nil, false_and, and_false, not_false_eq_true, not_true_eq_false, true_implies, false_implies, implies_true, Bool.false_eq_true, ite_true, ite_false, reduceIte, or_true, true_or, or_false, false_or, c_sh_10, c_sh_11, c_sh_12, c_sh_13, c_sh_14, c_sh_15, c_sh_16, c_sh_17, c_sh_18, c_sh_19, c_sh_20, c_sh_21, c_sh_22, c_sh_23, c_sh_24, c_sh_25, c_sh_26, c_sh_27, c_sh_28, c_sh_29, c_sh_30, c_sh_31, c_sh_32, c_sh_33, c_sh_34, c_sh_35, c_sh_36, c_sh_37, c_sh_38, c_sh_39, c_R_10_0, c_R_10_4, c_R_10_5, c_R_10_6, c_R_12_0, c_R_12_1, c_R_12_2, c_R_12_3, c_R_12_4, c_R_12_5, c_R_12_6, c_R_12_7, c_R_12_8, c_R_12_9, c_R_23_0, c_R_23_1, c_R_23_2, c_R_27_0, c_R_27_1, c_R_29_0, c_R_29_2, c_R_29_15, c_R_29_16, c_R_29_17, c_R_29_18, c_R_29_19, c_R_29_20, c_R_29_21, c_R_29_23, c_R_23_3, o_aload, o_bald, o_bast, o_getI, o_getR, o_goto, o_i1, o_iald, o_ic, o_if, o_iinc, o_iload, o_istore, o_push, o_putI, o_putZ, e_M_read_15, e_M_read_16, e_M_read_17, e_M_read_20, e_M_read_23, e_M_read_24, e_M_read_27, e_M_read_28, e_M_read_29, e_M_read_32, e_M_read_33, e_M_read_34, e_M_read_35, e_M_read_38, d_sc_5, d_sc_6, d_sc_7, d_sc_1, d_sc_3, d_sc_4, d_sc_8, d_sc_9, d_sc_10, d_sc_11, d_sc_12, d_sc_13, d_sc_14, d_sc_22, d_sc_ne, m_gd_0, Decidable.not_not, h3']
    exact ⟨fun _ => hK _ (ct_Wp.pick [1] rfl (kk I hC)), fun h => absurd (nI_le (Nat.le_refl _) (by omega)) h⟩
  | succ n ih =>
    intro k I hi hC
    have h3' : I 29 3 = nI ln := by rw [hC.1 29 (by decide)]; exact h3
    have va : vp_in (nI k) 65536 := vp_in_nI (by omega) (by decide)
    have qa : (nI k).toNatClampNeg = k := nI_clamp (by omega)
    refine ct_Wp.go (A_M_read l) (by decide) [15, 41] 60 (fun K hK => ?_)
    simp only [ct_run_s, ct_nx_s, ct_hp, ct_lg, ct_s1, ct_d1, ct_s2, ct_d2, lv_args, Value.category, ct_u2_get, Option.toList, List.cons_append, List.nil_append, Nat.reduceAdd, Nat.reduceSub, Nat.reduceMul, Nat.reduceEqDiff, Nat.reduceLeDiff, Nat.reduceLT, true_and, and_true, and_self, if_true, if_false, reduceCtorEq, Prod.mk.injEq, List.length_cons, List.length_nil, false_and, and_false, not_false_eq_true, not_true_eq_false, true_implies, false_implies, implies_true, Bool.false_eq_true, ite_true, ite_false, reduceIte, or_true, true_or, or_false, false_or, c_sh_10, c_sh_11, c_sh_12, c_sh_13, c_sh_14, c_sh_15, c_sh_16, c_sh_17, c_sh_18, c_sh_19, c_sh_20, c_sh_21, c_sh_22, c_sh_23, c_sh_24, c_sh_25, c_sh_26, c_sh_27, c_sh_28, c_sh_29, c_sh_30, c_sh_31, c_sh_32, c_sh_33, c_sh_34, c_sh_35, c_sh_36, c_sh_37, c_sh_38, c_sh_39, c_R_10_0, c_R_10_4, c_R_10_5, c_R_10_6, c_R_12_0, c_R_12_1, c_R_12_2, c_R_12_3, c_R_12_4, c_R_12_5, c_R_12_6, c_R_12_7, c_R_12_8, c_R_12_9, c_R_23_0, c_R_23_1, c_R_23_2, c_R_27_0, c_R_27_1, c_R_29_0, c_R_29_2, c_R_29_15, c_R_29_16, c_R_29_17, c_R_29_18, c_R_29_19, c_R_29_20, c_R_29_21, c_R_29_23, c_R_23_3, o_aload, o_bald, o_bast, o_getI, o_getR, o_goto, o_i1, o_iald, o_ic, o_if, o_iinc, o_iload, o_istore, o_push, o_putI, o_putZ, e_M_read_15, e_M_read_16, e_M_read_17, e_M_read_20, e_M_read_23, e_M_read_24, e_M_read_27, e_M_read_28, e_M_read_29, e_M_read_32, e_M_read_33, e_M_read_34, e_M_read_35, e_M_read_38, d_sc_5, d_sc_6, d_sc_7, d_sc_1, d_sc_3, d_sc_4, d_sc_8, d_sc_9, d_sc_10, d_sc_11, d_sc_12, d_sc_13, d_sc_14, d_sc_22, d_sc_ne, m_gd_0, Decidable.not_not, h3', va, qa, nI_1]
    exact ⟨fun h => absurd h (nI_ge (by omega) (by omega)), fun _ => hK _ (ih (k + 1) _ (by omega) (hC.step (by decide)))⟩
set_option maxHeartbeats 800000 in
set_option maxRecDepth 100000 in
theorem sp_M_read_end (l : ct_Lx) (J : Nat → Nat → Int32) (L : Nat → Nat → Int64) (b : Bool) (f : Nat → Int32) {ln : Nat} (h3 : J 29 3 = nI ln) (c : c_Cu) (hc : c.2.1 ≤ 14) : ct_Wp l M_M_read 8 (fun v g => v = some (.int (-(nI c.2.1))) ∧ g = c_g (z_fin J f ln c) L b) (114, [(0, .ref 29)], [], c_g (d_sc (m_r39 J f) c) L b, 0, 0) := by
  have h3f : m_r39 J f 29 3 = nI ln := h3
  have nz : vp_nar .boolean (m_gd c) = m_gd c := by rcases m_gd_01 c with q | q <;> rw [q] <;> decide
  refine ct_Wp.go (A_M_read l) (by decide) [] 60 (fun K hK => ?_)
  simp only [ct_run_s, ct_nx_s, ct_hp, ct_lg, ct_s1, ct_d1, ct_s2, ct_d2, lv_args, Value.category, ct_u2_get, Option.toList, List.cons_append, List.nil_append, Nat.reduceAdd, Nat.reduceSub, Nat.reduceMul, Nat.reduceEqDiff, Nat.reduceLeDiff, Nat.reduceLT, true_and, and_true, and_self, if_true, if_false, reduceCtorEq, Prod.mk.injEq, List.length_cons, List.length_nil, false_and, and_false, not_false_eq_true, not_true_eq_false, true_implies, false_implies, implies_true, Bool.false_eq_true, ite_true, ite_false, reduceIte, or_true, true_or, or_false, false_or, c_sh_10, c_sh_11, c_sh_12, c_sh_13, c_sh_14, c_sh_15, c_sh_16, c_sh_17, c_sh_18, c_sh_19, c_sh_20, c_sh_21, c_sh_22, c_sh_23, c_sh_24, c_sh_25, c_sh_26, c_sh_27, c_sh_28, c_sh_29, c_sh_30, c_sh_31, c_sh_32, c_sh_33, c_sh_34, c_sh_35, c_sh_36, c_sh_37, c_sh_38, c_sh_39, c_R_10_0, c_R_10_4, c_R_10_5, c_R_10_6, c_R_12_0, c_R_12_1, c_R_12_2, c_R_12_3, c_R_12_4, c_R_12_5, c_R_12_6, c_R_12_7, c_R_12_8, c_R_12_9, c_R_23_0, c_R_23_1, c_R_23_2, c_R_27_0, c_R_27_1, c_R_29_0, c_R_29_2, c_R_29_15, c_R_29_16, c_R_29_17, c_R_29_18, c_R_29_19, c_R_29_20, c_R_29_21, c_R_29_23, c_R_23_3, o_aload, o_bald, o_bast, o_getI, o_getR, o_goto, o_i1, o_iald, o_ic, o_if, o_iinc, o_iload, o_istore, o_push, o_putI, o_putZ, e_M_read_114, e_M_read_115, e_M_read_119, e_M_read_122, e_M_read_123, e_M_read_124, e_M_read_127, e_M_read_130, e_M_read_131, e_M_read_134, e_M_read_137, e_M_read_138, e_M_read_141, e_M_read_144, e_M_read_145, e_M_read_148, z_M_read_116, z_M_read_149, d_sc_5, d_sc_6, d_sc_7, d_sc_1, d_sc_3, d_sc_4, d_sc_8, d_sc_9, d_sc_10, d_sc_11, d_sc_12, d_sc_13, d_sc_14, d_sc_22, d_sc_ne, m_gd_0, Decidable.not_not]
  refine hK _ (cl_M_read_116 rfl (sp_M_isGood l (m_r39 J f) L b c hc) (by decide) (Nat.le_of_ble_eq_true rfl) (Nat.le_refl _) (Nat.le_refl _) ?_)
  rintro w g ⟨rfl, rfl⟩
  refine ct_Wp.go (A_M_read l) (by decide) [] 60 (fun K hK => ?_)
  simp only [ct_run_s, ct_nx_s, ct_hp, ct_lg, ct_s1, ct_d1, ct_s2, ct_d2, lv_args, Value.category, ct_u2_get, Option.toList, List.cons_append, List.nil_append, Nat.reduceAdd, Nat.reduceSub, Nat.reduceMul, Nat.reduceEqDiff, Nat.reduceLeDiff, Nat.reduceLT, true_and, and_true, and_self, if_true, if_false, reduceCtorEq, Prod.mk.injEq, List.length_cons, List.length_nil, false_and, and_false, not_false_eq_true, not_true_eq_false, true_implies, false_implies, implies_true, Bool.false_eq_true, ite_true, ite_false, reduceIte, or_true, true_or, or_false, false_or, c_sh_10, c_sh_11, c_sh_12, c_sh_13, c_sh_14, c_sh_15, c_sh_16, c_sh_17, c_sh_18, c_sh_19, c_sh_20, c_sh_21, c_sh_22, c_sh_23, c_sh_24, c_sh_25, c_sh_26, c_sh_27, c_sh_28, c_sh_29, c_sh_30, c_sh_31, c_sh_32, c_sh_33, c_sh_34, c_sh_35, c_sh_36, c_sh_37, c_sh_38, c_sh_39, c_R_10_0, c_R_10_4, c_R_10_5, c_R_10_6, c_R_12_0, c_R_12_1, c_R_12_2, c_R_12_3, c_R_12_4, c_R_12_5, c_R_12_6, c_R_12_7, c_R_12_8, c_R_12_9, c_R_23_0, c_R_23_1, c_R_23_2, c_R_27_0, c_R_27_1, c_R_29_0, c_R_29_2, c_R_29_15, c_R_29_16, c_R_29_17, c_R_29_18, c_R_29_19, c_R_29_20, c_R_29_21, c_R_29_23, c_R_23_3, o_aload, o_bald, o_bast, o_getI, o_getR, o_goto, o_i1, o_iald, o_ic, o_if, o_iinc, o_iload, o_istore, o_push, o_putI, o_putZ, e_M_read_114, e_M_read_115, e_M_read_119, e_M_read_122, e_M_read_123, e_M_read_124, e_M_read_127, e_M_read_130, e_M_read_131, e_M_read_134, e_M_read_137, e_M_read_138, e_M_read_141, e_M_read_144, e_M_read_145, e_M_read_148, z_M_read_116, z_M_read_149, d_sc_5, d_sc_6, d_sc_7, d_sc_1, d_sc_3, d_sc_4, d_sc_8, d_sc_9, d_sc_10, d_sc_11, d_sc_12, d_sc_13, d_sc_14, d_sc_22, d_sc_ne, m_gd_0, Decidable.not_not, nz, h3f]
  have h01 : ¬ c.2.1 = 0 ∨ m_gd c = 1 := by
    by_cases h : c.2.1 = 0
    · exact Or.inr (by rw [m_gd, if_pos h])
    · exact Or.inl h
  refine ⟨h01, fun h => hK _ (ct_Wp.ret (some (.int _)) rfl d_M_read_149 ⟨rfl, ?_⟩), fun h => hK _ (ct_Wp.ret (some (.int _)) rfl d_M_read_149 ⟨rfl, ?_⟩)⟩
  · rw [z_fin, if_neg h, m_r39_sc]
  · rw [z_fin, if_pos h, m_r39_sc]
set_option maxHeartbeats 800000 in
set_option maxRecDepth 100000 in
theorem sp_M_read_loop (l : ct_Lx) (J : Nat → Nat → Int32) (L : Nat → Nat → Int64) (b : Bool) {B : Nat → Nat} {ln : Nat} (hln : ln ≤ 4096) (hE : m_E B ln J) {N : Nat → Nat} (hN : m_N J N) {SA : Nat → Nat} (hS : m_P J 32 (N 9 + N 10) SA) {c9 : c_Cu} : ∀ (n k : Nat) (c : c_Cu) (f : Nat → Int32), k + n = N 9 → m_ok ln c → m_cl (z_ci B ln (N 9) SA) n k c = c9 → ct_Wp l M_M_read 8 (fun v g => v = some (.int (-(nI c9.2.1))) ∧ ∃ f, g = c_g (z_fin J f ln c9) L b) (73, [(1, .int (nI k)), (0, .ref 29)], [], c_g (d_sc (m_r39 J f) c) L b, 0, 0) := by
  have h9 := hN.1 9 (by decide) (by decide)
  have b9 := hN.2.1
  have fin : ∀ (f : Nat → Int32) (c : c_Cu), m_ok ln c → c = c9 → ct_Wp l M_M_read 8 (fun v g => v = some (.int (-(nI c9.2.1))) ∧ ∃ f, g = c_g (z_fin J f ln c9) L b) (114, [(0, .ref 29)], [], c_g (d_sc (m_r39 J f) c) L b, 0, 0) := by
    intro f c hc e
    subst e
    refine (sp_M_read_end l J L b f hE.2 c hc.2).mono ?_
    rintro v g ⟨rfl, rfl⟩
    exact ⟨rfl, f, rfl⟩
  intro n
  induction n with
  | zero =>
    intro k c f hi hc e
    have e1 : k = N 9 := by omega
    subst e1
    have h9f : m_r39 J f 29 9 = nI (N 9) := h9
    refine ct_Wp.go (A_M_read l) (by decide) [73, 114] 60 (fun K hK => ?_)
    simp only [ct_run_s, ct_nx_s, ct_hp, ct_lg, ct_s1, ct_d1, ct_s2, ct_d2, lv_args, Value.category, ct_u2_get, Option.toList, List.cons_append, List.nil_append, Nat.reduceAdd, Nat.reduceSub, Nat.reduceMul, Nat.reduceEqDiff, Nat.reduceLeDiff, Nat.reduceLT, true_and, and_true, and_self, if_true, if_false, reduceCtorEq, Prod.mk.injEq, List.length_cons, List.length_nil, false_and, and_false, not_false_eq_true, not_true_eq_false, true_implies, false_implies, implies_true, Bool.false_eq_true, ite_true, ite_false, reduceIte, or_true, true_or, or_false, false_or, c_sh_10, c_sh_11, c_sh_12, c_sh_13, c_sh_14, c_sh_15, c_sh_16, c_sh_17, c_sh_18, c_sh_19, c_sh_20, c_sh_21, c_sh_22, c_sh_23, c_sh_24, c_sh_25, c_sh_26, c_sh_27, c_sh_28, c_sh_29, c_sh_30, c_sh_31, c_sh_32, c_sh_33, c_sh_34, c_sh_35, c_sh_36, c_sh_37, c_sh_38, c_sh_39, c_R_10_0, c_R_10_4, c_R_10_5, c_R_10_6, c_R_12_0, c_R_12_1, c_R_12_2, c_R_12_3, c_R_12_4, c_R_12_5, c_R_12_6, c_R_12_7, c_R_12_8, c_R_12_9, c_R_23_0, c_R_23_1, c_R_23_2, c_R_27_0, c_R_27_1, c_R_29_0, c_R_29_2, c_R_29_15, c_R_29_16, c_R_29_17, c_R_29_18, c_R_29_19, c_R_29_20, c_R_29_21, c_R_29_23, c_R_23_3, o_aload, o_bald, o_bast, o_getI, o_getR, o_goto, o_i1, o_iald, o_ic, o_if, o_iinc, o_iload, o_istore, o_push, o_putI, o_putZ, e_M_read_73, e_M_read_74, e_M_read_75, e_M_read_78, e_M_read_81, e_M_read_85, e_M_read_88, e_M_read_89, e_M_read_93, e_M_read_96, e_M_read_97, e_M_read_99, e_M_read_100, e_M_read_103, e_M_read_104, e_M_read_108, e_M_read_111, z_M_read_82, z_M_read_90, z_M_read_105, d_sc_5, d_sc_6, d_sc_7, d_sc_1, d_sc_3, d_sc_4, d_sc_8, d_sc_9, d_sc_10, d_sc_11, d_sc_12, d_sc_13, d_sc_14, d_sc_22, d_sc_ne, m_gd_0, Decidable.not_not, h9f]
    exact ⟨fun _ => hK _ (ct_Wp.pick [1] rfl (fin f c hc e)), fun h => absurd (nI_le (Nat.le_refl _) (by omega)) h⟩
  | succ n ih =>
    intro k c f hi hc e
    have h9f : m_r39 J f 29 9 = nI (N 9) := h9
    have hq := (hS k (by omega)).1
    have va : vp_in (nI k) 64 := vp_in_nI (by omega) (by decide)
    have qa : (nI k).toNatClampNeg = k := nI_clamp (by omega)
    refine ct_Wp.go (A_M_read l) (by decide) [73, 114] 60 (fun K hK => ?_)
    simp only [ct_run_s, ct_nx_s, ct_hp, ct_lg, ct_s1, ct_d1, ct_s2, ct_d2, lv_args, Value.category, ct_u2_get, Option.toList, List.cons_append, List.nil_append, Nat.reduceAdd, Nat.reduceSub, Nat.reduceMul, Nat.reduceEqDiff, Nat.reduceLeDiff, Nat.reduceLT, true_and, and_true, and_self, if_true, if_false, reduceCtorEq, Prod.mk.injEq, List.length_cons, List.length_nil, false_and, and_false, not_false_eq_true, not_true_eq_false, true_implies, false_implies, implies_true, Bool.false_eq_true, ite_true, ite_false, reduceIte, or_true, true_or, or_false, false_or, c_sh_10, c_sh_11, c_sh_12, c_sh_13, c_sh_14, c_sh_15, c_sh_16, c_sh_17, c_sh_18, c_sh_19, c_sh_20, c_sh_21, c_sh_22, c_sh_23, c_sh_24, c_sh_25, c_sh_26, c_sh_27, c_sh_28, c_sh_29, c_sh_30, c_sh_31, c_sh_32, c_sh_33, c_sh_34, c_sh_35, c_sh_36, c_sh_37, c_sh_38, c_sh_39, c_R_10_0, c_R_10_4, c_R_10_5, c_R_10_6, c_R_12_0, c_R_12_1, c_R_12_2, c_R_12_3, c_R_12_4, c_R_12_5, c_R_12_6, c_R_12_7, c_R_12_8, c_R_12_9, c_R_23_0, c_R_23_1, c_R_23_2, c_R_27_0, c_R_27_1, c_R_29_0, c_R_29_2, c_R_29_15, c_R_29_16, c_R_29_17, c_R_29_18, c_R_29_19, c_R_29_20, c_R_29_21, c_R_29_23, c_R_23_3, o_aload, o_bald, o_bast, o_getI, o_getR, o_goto, o_i1, o_iald, o_ic, o_if, o_iinc, o_iload, o_istore, o_push, o_putI, o_putZ, e_M_read_73, e_M_read_74, e_M_read_75, e_M_read_78, e_M_read_81, e_M_read_85, e_M_read_88, e_M_read_89, e_M_read_93, e_M_read_96, e_M_read_97, e_M_read_99, e_M_read_100, e_M_read_103, e_M_read_104, e_M_read_108, e_M_read_111, z_M_read_82, z_M_read_90, z_M_read_105, d_sc_5, d_sc_6, d_sc_7, d_sc_1, d_sc_3, d_sc_4, d_sc_8, d_sc_9, d_sc_10, d_sc_11, d_sc_12, d_sc_13, d_sc_14, d_sc_22, d_sc_ne, m_gd_0, Decidable.not_not, h9f]
    refine ⟨fun h => absurd h (nI_ge (by omega) (by omega)), fun _ => ?_⟩
    refine hK _ (cl_M_read_82 rfl (sp_M_isGood l (m_r39 J f) L b c hc.2) (by decide) (Nat.le_of_ble_eq_true rfl) (Nat.le_refl _) (Nat.le_refl _) ?_)
    rintro w g ⟨rfl, rfl⟩
    refine ct_Wp.go (A_M_read l) (by decide) [73, 114] 60 (fun K hK => ?_)
    simp only [ct_run_s, ct_nx_s, ct_hp, ct_lg, ct_s1, ct_d1, ct_s2, ct_d2, lv_args, Value.category, ct_u2_get, Option.toList, List.cons_append, List.nil_append, Nat.reduceAdd, Nat.reduceSub, Nat.reduceMul, Nat.reduceEqDiff, Nat.reduceLeDiff, Nat.reduceLT, true_and, and_true, and_self, if_true, if_false, reduceCtorEq, Prod.mk.injEq, List.length_cons, List.length_nil, false_and, and_false, not_false_eq_true, not_true_eq_false, true_implies, false_implies, implies_true, Bool.false_eq_true, ite_true, ite_false, reduceIte, or_true, true_or, or_false, false_or, c_sh_10, c_sh_11, c_sh_12, c_sh_13, c_sh_14, c_sh_15, c_sh_16, c_sh_17, c_sh_18, c_sh_19, c_sh_20, c_sh_21, c_sh_22, c_sh_23, c_sh_24, c_sh_25, c_sh_26, c_sh_27, c_sh_28, c_sh_29, c_sh_30, c_sh_31, c_sh_32, c_sh_33, c_sh_34, c_sh_35, c_sh_36, c_sh_37, c_sh_38, c_sh_39, c_R_10_0, c_R_10_4, c_R_10_5, c_R_10_6, c_R_12_0, c_R_12_1, c_R_12_2, c_R_12_3, c_R_12_4, c_R_12_5, c_R_12_6, c_R_12_7, c_R_12_8, c_R_12_9, c_R_23_0, c_R_23_1, c_R_23_2, c_R_27_0, c_R_27_1, c_R_29_0, c_R_29_2, c_R_29_15, c_R_29_16, c_R_29_17, c_R_29_18, c_R_29_19, c_R_29_20, c_R_29_21, c_R_29_23, c_R_23_3, o_aload, o_bald, o_bast, o_getI, o_getR, o_goto, o_i1, o_iald, o_ic, o_if, o_iinc, o_iload, o_istore, o_push, o_putI, o_putZ, e_M_read_73, e_M_read_74, e_M_read_75, e_M_read_78, e_M_read_81, e_M_read_85, e_M_read_88, e_M_read_89, e_M_read_93, e_M_read_96, e_M_read_97, e_M_read_99, e_M_read_100, e_M_read_103, e_M_read_104, e_M_read_108, e_M_read_111, z_M_read_82, z_M_read_90, z_M_read_105, d_sc_5, d_sc_6, d_sc_7, d_sc_1, d_sc_3, d_sc_4, d_sc_8, d_sc_9, d_sc_10, d_sc_11, d_sc_12, d_sc_13, d_sc_14, d_sc_22, d_sc_ne, m_gd_0, Decidable.not_not]
    refine ⟨fun h => hK _ (ct_Wp.pick [1] rfl (fin f c hc (by rw [m_cl_bad h] at e; exact e))), fun h => ?_⟩
    rw [m_cl, if_pos h] at e
    rw [m_r39_sc]
    refine hK _ (cl_M_read_90 rfl (sp_M_isRound l (d_sc J c) L b hln (hE.sc c) (N := N) ⟨fun k h1 h2 => by
      have hk : k = 9 ∨ k = 10 ∨ k = 11 ∨ k = 12 ∨ k = 13 := by omega
      rcases hk with q | q | q | q | q <;> subst q <;> exact hN.1 _ h1 h2, hN.2⟩ (SA := SA) hS (k := k) (by omega) f) (by decide) (Nat.le_of_ble_eq_true rfl) (Nat.le_refl _) (Nat.le_refl _) ?_)
    rintro w g ⟨rfl, f2, rfl⟩
    rw [← m_r39_sc]
    have hqf : m_r39 J f2 32 k = nI (SA k) := hq
    refine ct_Wp.go (A_M_read l) (by decide) [73, 114] 60 (fun K hK => ?_)
    simp only [ct_run_s, ct_nx_s, ct_hp, ct_lg, ct_s1, ct_d1, ct_s2, ct_d2, lv_args, Value.category, ct_u2_get, Option.toList, List.cons_append, List.nil_append, Nat.reduceAdd, Nat.reduceSub, Nat.reduceMul, Nat.reduceEqDiff, Nat.reduceLeDiff, Nat.reduceLT, true_and, and_true, and_self, if_true, if_false, reduceCtorEq, Prod.mk.injEq, List.length_cons, List.length_nil, false_and, and_false, not_false_eq_true, not_true_eq_false, true_implies, false_implies, implies_true, Bool.false_eq_true, ite_true, ite_false, reduceIte, or_true, true_or, or_false, false_or, c_sh_10, c_sh_11, c_sh_12, c_sh_13, c_sh_14, c_sh_15, c_sh_16, c_sh_17, c_sh_18, c_sh_19, c_sh_20, c_sh_21, c_sh_22, c_sh_23, c_sh_24, c_sh_25, c_sh_26, c_sh_27, c_sh_28, c_sh_29, c_sh_30, c_sh_31, c_sh_32, c_sh_33, c_sh_34, c_sh_35, c_sh_36, c_sh_37, c_sh_38, c_sh_39, c_R_10_0, c_R_10_4, c_R_10_5, c_R_10_6, c_R_12_0, c_R_12_1, c_R_12_2, c_R_12_3, c_R_12_4, c_R_12_5, c_R_12_6, c_R_12_7, c_R_12_8, c_R_12_9, c_R_23_0, c_R_23_1, c_R_23_2, c_R_27_0, c_R_27_1, c_R_29_0, c_R_29_2, c_R_29_15, c_R_29_16, c_R_29_17, c_R_29_18, c_R_29_19, c_R_29_20, c_R_29_21, c_R_29_23, c_R_23_3, o_aload, o_bald, o_bast, o_getI, o_getR, o_goto, o_i1, o_iald, o_ic, o_if, o_iinc, o_iload, o_istore, o_push, o_putI, o_putZ, e_M_read_73, e_M_read_74, e_M_read_75, e_M_read_78, e_M_read_81, e_M_read_85, e_M_read_88, e_M_read_89, e_M_read_93, e_M_read_96, e_M_read_97, e_M_read_99, e_M_read_100, e_M_read_103, e_M_read_104, e_M_read_108, e_M_read_111, z_M_read_82, z_M_read_90, z_M_read_105, d_sc_5, d_sc_6, d_sc_7, d_sc_1, d_sc_3, d_sc_4, d_sc_8, d_sc_9, d_sc_10, d_sc_11, d_sc_12, d_sc_13, d_sc_14, d_sc_22, d_sc_ne, m_gd_0, Decidable.not_not, m_tb_0, va, qa, hqf, nI_1]
    refine ⟨fun z => hK _ (ih (k + 1) c f2 (by omega) hc ?_), fun z => ?_⟩
    · rw [z_ci, if_neg (by rw [z]; decide)] at e; exact e
    · refine hK _ (cl_M_read_105 rfl (sp_M_fail l (m_r39 J f2) L b c hc.2 14 (SA k)) (by decide) (Nat.le_of_ble_eq_true rfl) (Nat.le_refl _) (Nat.le_refl _) ?_)
      rintro w g ⟨rfl, rfl⟩
      refine ct_Wp.go (A_M_read l) (by decide) [73, 114] 60 (fun K hK => ?_)
      simp only [ct_run_s, ct_nx_s, ct_hp, ct_lg, ct_s1, ct_d1, ct_s2, ct_d2, lv_args, Value.category, ct_u2_get, Option.toList, List.cons_append, List.nil_append, Nat.reduceAdd, Nat.reduceSub, Nat.reduceMul, Nat.reduceEqDiff, Nat.reduceLeDiff, Nat.reduceLT, true_and, and_true, and_self, if_true, if_false, reduceCtorEq, Prod.mk.injEq, List.length_cons, List.length_nil, false_and, and_false, not_false_eq_true, not_true_eq_false, true_implies, false_implies, implies_true, Bool.false_eq_true, ite_true, ite_false, reduceIte, or_true, true_or, or_false, false_or, c_sh_10, c_sh_11, c_sh_12, c_sh_13, c_sh_14, c_sh_15, c_sh_16, c_sh_17, c_sh_18, c_sh_19, c_sh_20, c_sh_21, c_sh_22, c_sh_23, c_sh_24, c_sh_25, c_sh_26, c_sh_27, c_sh_28, c_sh_29, c_sh_30, c_sh_31, c_sh_32, c_sh_33, c_sh_34, c_sh_35, c_sh_36, c_sh_37, c_sh_38, c_sh_39, c_R_10_0, c_R_10_4, c_R_10_5, c_R_10_6, c_R_12_0, c_R_12_1, c_R_12_2, c_R_12_3, c_R_12_4, c_R_12_5, c_R_12_6, c_R_12_7, c_R_12_8, c_R_12_9, c_R_23_0, c_R_23_1, c_R_23_2, c_R_27_0, c_R_27_1, c_R_29_0, c_R_29_2, c_R_29_15, c_R_29_16, c_R_29_17, c_R_29_18, c_R_29_19, c_R_29_20, c_R_29_21, c_R_29_23, c_R_23_3, o_aload, o_bald, o_bast, o_getI, o_getR, o_goto, o_i1, o_iald, o_ic, o_if, o_iinc, o_iload, o_istore, o_push, o_putI, o_putZ, e_M_read_73, e_M_read_74, e_M_read_75, e_M_read_78, e_M_read_81, e_M_read_85, e_M_read_88, e_M_read_89, e_M_read_93, e_M_read_96, e_M_read_97, e_M_read_99, e_M_read_100, e_M_read_103, e_M_read_104, e_M_read_108, e_M_read_111, z_M_read_82, z_M_read_90, z_M_read_105, d_sc_5, d_sc_6, d_sc_7, d_sc_1, d_sc_3, d_sc_4, d_sc_8, d_sc_9, d_sc_10, d_sc_11, d_sc_12, d_sc_13, d_sc_14, d_sc_22, d_sc_ne, m_gd_0, Decidable.not_not, nI_1]
      refine hK _ (ih (k + 1) _ f2 (by omega) (hc.fl (by decide)) ?_)
      rw [z_ci, if_pos (by cases q : m_rd B ln (N 9) SA k; exact absurd q z; rfl)] at e; exact e
set_option maxHeartbeats 800000 in
set_option maxRecDepth 100000 in
theorem sp_M_read_60 (l : ct_Lx) (I : Nat → Nat → Int32) (L : Nat → Nat → Int64) (b : Bool) {Post : Option Value → ct_Sg → Prop} {ln : Nat} (hln : ln ≤ 4096) (h1 : I 29 1 = nI ln) (kk : ∀ J w, z_J ln I J → ct_Wp l M_M_read 8 Post (60, [(0, .ref 29)], [], m_w (m_oA (z_B ln I) ln ((0, 0, w), J)) L b, 0, 0)) : ct_Wp l M_M_read 8 Post (0, [(0, .ref 29)], [], c_g I L b, 0, 0) := by
  refine ct_Wp.go (A_M_read l) (by decide) [15] 60 (fun K hK => ?_)
  simp only [ct_run_s, ct_nx_s, ct_hp, ct_lg, ct_s1, ct_d1, ct_s2, ct_d2, lv_args, Value.category, ct_u2_get, Option.toList, List.cons_append, List.nil_append, Nat.reduceAdd, Nat.reduceSub, Nat.reduceMul, Nat.reduceEqDiff, Nat.reduceLeDiff, Nat.reduceLT, true_and, and_true, and_self, if_true, if_false, reduceCtorEq, Prod.mk.injEq, List.length_cons, List.length_nil, false_and, and_false, not_false_eq_true, not_true_eq_false, true_implies, false_implies, implies_true, Bool.false_eq_true, ite_true, ite_false, reduceIte, or_true, true_or, or_false, false_or, c_sh_10, c_sh_11, c_sh_12, c_sh_13, c_sh_14, c_sh_15, c_sh_16, c_sh_17, c_sh_18, c_sh_19, c_sh_20, c_sh_21, c_sh_22, c_sh_23, c_sh_24, c_sh_25, c_sh_26, c_sh_27, c_sh_28, c_sh_29, c_sh_30, c_sh_31, c_sh_32, c_sh_33, c_sh_34, c_sh_35, c_sh_36, c_sh_37, c_sh_38, c_sh_39, c_R_10_0, c_R_10_4, c_R_10_5, c_R_10_6, c_R_12_0, c_R_12_1, c_R_12_2, c_R_12_3, c_R_12_4, c_R_12_5, c_R_12_6, c_R_12_7, c_R_12_8, c_R_12_9, c_R_23_0, c_R_23_1, c_R_23_2, c_R_27_0, c_R_27_1, c_R_29_0, c_R_29_2, c_R_29_15, c_R_29_16, c_R_29_17, c_R_29_18, c_R_29_19, c_R_29_20, c_R_29_21, c_R_29_23, c_R_23_3, o_aload, o_bald, o_bast, o_getI, o_getR, o_goto, o_i1, o_iald, o_ic, o_if, o_iinc, o_iload, o_istore, o_push, o_putI, o_putZ, e_M_read_0, e_M_read_1, e_M_read_2, e_M_read_5, e_M_read_8, e_M_read_9, e_M_read_10, e_M_read_13, e_M_read_14, d_sc_5, d_sc_6, d_sc_7, d_sc_1, d_sc_3, d_sc_4, d_sc_8, d_sc_9, d_sc_10, d_sc_11, d_sc_12, d_sc_13, d_sc_14, d_sc_22, d_sc_ne, m_gd_0, Decidable.not_not, h1]
  generalize hJ0 : ct_u2 (ct_u2 I 29 3 (nI ln)) 29 1 0 = J0
  have j3 : J0 29 3 = nI ln := by rw [← hJ0]; rfl
  refine hK _ (sp_M_read_copy l J0 L b hln j3 ?_ ln 0 J0 (Nat.zero_add _) ⟨fun _ _ => rfl, fun j hj => absurd hj (Nat.not_lt_zero _)⟩)
  intro I2 hC
  refine ct_Wp.go (A_M_read l) (by decide) [] 60 (fun K hK => ?_)
  simp only [ct_run_s, ct_nx_s, ct_hp, ct_lg, ct_s1, ct_d1, ct_s2, ct_d2, lv_args, Value.category, ct_u2_get, Option.toList, List.cons_append, List.nil_append, Nat.reduceAdd, Nat.reduceSub, Nat.reduceMul, Nat.reduceEqDiff, Nat.reduceLeDiff, Nat.reduceLT, true_and, and_true, and_self, if_true, if_false, reduceCtorEq, Prod.mk.injEq, List.length_cons, List.length_nil, false_and, and_false, not_false_eq_true, not_true_eq_false, true_implies, false_implies, implies_true, Bool.false_eq_true, ite_true, ite_false, reduceIte, or_true, true_or, or_false, false_or, c_sh_10, c_sh_11, c_sh_12, c_sh_13, c_sh_14, c_sh_15, c_sh_16, c_sh_17, c_sh_18, c_sh_19, c_sh_20, c_sh_21, c_sh_22, c_sh_23, c_sh_24, c_sh_25, c_sh_26, c_sh_27, c_sh_28, c_sh_29, c_sh_30, c_sh_31, c_sh_32, c_sh_33, c_sh_34, c_sh_35, c_sh_36, c_sh_37, c_sh_38, c_sh_39, c_R_10_0, c_R_10_4, c_R_10_5, c_R_10_6, c_R_12_0, c_R_12_1, c_R_12_2, c_R_12_3, c_R_12_4, c_R_12_5, c_R_12_6, c_R_12_7, c_R_12_8, c_R_12_9, c_R_23_0, c_R_23_1, c_R_23_2, c_R_27_0, c_R_27_1, c_R_29_0, c_R_29_2, c_R_29_15, c_R_29_16, c_R_29_17, c_R_29_18, c_R_29_19, c_R_29_20, c_R_29_21, c_R_29_23, c_R_23_3, o_aload, o_bald, o_bast, o_getI, o_getR, o_goto, o_i1, o_iald, o_ic, o_if, o_iinc, o_iload, o_istore, o_push, o_putI, o_putZ, e_M_read_41, e_M_read_42, e_M_read_43, e_M_read_46, e_M_read_47, e_M_read_48, e_M_read_51, e_M_read_52, e_M_read_53, e_M_read_56, z_M_read_57, d_sc_5, d_sc_6, d_sc_7, d_sc_1, d_sc_3, d_sc_4, d_sc_8, d_sc_9, d_sc_10, d_sc_11, d_sc_12, d_sc_13, d_sc_14, d_sc_22, d_sc_ne, m_gd_0, Decidable.not_not]
  generalize hJ : ct_u2 (ct_u2 (ct_u2 I2 29 5 0) 29 6 0) 29 14 0 = J
  have j29 : ∀ k, J 29 k = if k = 14 then 0 else if k = 6 then 0 else if k = 5 then 0 else J0 29 k := by
    intro k
    rw [← hJ, ct_u2_get, ct_u2_get, ct_u2_get, hC.1 29 (by decide)]
    simp only [true_and]
  have jo : ∀ h, ¬ h = 29 → J h = I2 h := fun h hh => by
    funext x; rw [← hJ, ct_u2_get, if_neg (by omega), ct_u2_get, if_neg (by omega), ct_u2_get, if_neg (by omega)]
  have i029 : ∀ k, J0 29 k = if k = 1 then 0 else if k = 3 then nI ln else I 29 k := by
    intro k; rw [← hJ0, ct_u2_get, ct_u2_get]; simp only [true_and]
  have i0o : ∀ h, ¬ h = 29 → J0 h = I h := fun h hh => by
    funext x; rw [← hJ0, ct_u2_get, if_neg (by omega), ct_u2_get, if_neg (by omega)]
  have hE : m_E (z_B ln I) ln J := by
    refine ⟨?_, ?_⟩
    · funext p
      unfold m_B z_B
      by_cases q : p < ln
      · rw [if_pos q, if_pos q, jo 31 (by decide), hC.2 p q, m_nar_mod, i0o 30 (by decide)]
      · rw [if_neg q, if_neg q]
    · rw [j29 3, i029 3]; rfl
  have hz : z_J ln I J := by
    refine ⟨fun h a1 a2 => ?_, fun k a1 a2 a3 a4 a5 => ?_, ?_, ?_, hE⟩
    · rw [jo h a1, hC.1 h a2, i0o h a1]
    · rw [j29 k, if_neg a5, if_neg a4, if_neg a3, i029 k, if_neg a1, if_neg a2]
    · rw [j29 1, i029 1]; rfl
    · rw [j29 14]; rfl
  obtain ⟨w, hw, e7⟩ := wb_of32 (J 29 7)
  have eself : d_sc J (0, 0, w) = J := d_sc_self (c := (0, 0, w)) (by rw [j29 5]; rfl) (by rw [j29 6]; rfl) e7
  have eG : c_g J L b = m_w ((0, 0, w), J) L b := by show c_g J L b = c_g (d_sc J (0, 0, w)) L b; rw [eself]
  have hal : m_A J := ⟨by unfold m_al; rw [hz.2.2.2.1]; rfl, by unfold m_al; rw [hz.2.2.2.1]; decide⟩
  show K (57, [(0, .ref 29)], [.ref 29], c_g J L b, 0, 0)
  rw [eG]
  refine hK _ (cl_M_read_57 rfl (sp_M_overAll l L b (B := z_B ln I) hln ((0, 0, w), J) (m_G.mk hE ⟨Nat.zero_le _, Nat.zero_le _⟩ hal)) (by decide) (Nat.le_of_ble_eq_true rfl) (Nat.le_refl _) (Nat.le_refl _) ?_)
  rintro v g ⟨rfl, rfl⟩
  exact kk J w hz
theorem z_oA_G {ln : Nat} {I J : Nat → Nat → Int32} {w : Nat} (h : z_J ln I J) : m_G (z_B ln I) ln (m_oA (z_B ln I) ln ((0, 0, w), J)) :=
  m_G.oA (m_G.mk h.2.2.2.2 ⟨Nat.zero_le _, Nat.zero_le _⟩ ⟨by unfold m_al; rw [h.2.2.2.1]; rfl, by unfold m_al; rw [h.2.2.2.1]; decide⟩)
set_option maxHeartbeats 800000 in
set_option maxRecDepth 100000 in
theorem sp_M_read_bad (l : ct_Lx) (I : Nat → Nat → Int32) (L : Nat → Nat → Int64) (b : Bool) {ln : Nat} (hln : ln ≤ 4096) (h1 : I 29 1 = nI ln) (hM : ¬ v_Mod (z_B ln I) ln) : ct_Me l M_M_read 8 0 0 [.ref 29] (c_g I L b) (fun v g => ∃ J w c f, z_J ln I J ∧ c = (m_oA (z_B ln I) ln ((0, 0, w), J)).1 ∧ v = some (.int (-(nI c.2.1))) ∧ g = c_g (z_fin (m_oA (z_B ln I) ln ((0, 0, w), J)).2 f ln c) L b) := by
  refine ct_Me.of (by decide) (Nat.le_of_ble_eq_true rfl) (fun v g h => by obtain ⟨J, w, c, f, -, -, e, -⟩ := h; rw [e]; exact Or.inl rfl) ?_
  refine sp_M_read_60 l I L b hln h1 ?_
  intro J w hJ
  have hG := z_oA_G (w := w) hJ
  have hb := (w1_bad (z_B_ok ln I) (w := 0) (w' := w) hM (fun _ _ => 0) (fun _ _ => 0) J hJ.2.2.2.1).d
  have key : ∀ Z : m_S, m_G (z_B ln I) ln Z → ¬ Z.1.2.1 = 0 → ct_Wp l M_M_read 8 (fun v g => ∃ f, v = some (.int (-(nI Z.1.2.1))) ∧ g = c_g (z_fin Z.2 f ln Z.1) L b) (60, [(0, .ref 29)], [], m_w Z L b, 0, 0) := by
    intro Z hZ hzb
    have h3 : Z.2 29 3 = nI ln := hZ.1.2
    have hc := hZ.2.1
    have en : ∀ lv, ct_lg lv 0 = some (.ref 29) → ct_Wp l M_M_read 8 (fun v g => ∃ f, v = some (.int (-(nI Z.1.2.1))) ∧ g = c_g (z_fin Z.2 f ln Z.1) L b) (114, [(0, .ref 29)], [], c_g (d_sc Z.2 Z.1) L b, 0, 0) := by
      intro _ _
      have e := sp_M_read_end l Z.2 L b (Z.2 39) h3 Z.1 hc.2
      rw [m_r39_self] at e
      refine e.mono ?_
      rintro v g ⟨rfl, rfl⟩
      exact ⟨_, rfl, rfl⟩
    refine ct_Wp.go (A_M_read l) (by decide) [73, 114] 60 (fun K hK => ?_)
    simp only [ct_run_s, ct_nx_s, ct_hp, ct_lg, ct_s1, ct_d1, ct_s2, ct_d2, lv_args, Value.category, ct_u2_get, Option.toList, List.cons_append, List.nil_append, Nat.reduceAdd, Nat.reduceSub, Nat.reduceMul, Nat.reduceEqDiff, Nat.reduceLeDiff, Nat.reduceLT, true_and, and_true, and_self, if_true, if_false, reduceCtorEq, Prod.mk.injEq, List.length_cons, List.length_nil, false_and, and_false, not_false_eq_true, not_true_eq_false, true_implies, false_implies, implies_true, Bool.false_eq_true, ite_true, ite_false, reduceIte, or_true, true_or, or_false, false_or, c_sh_10, c_sh_11, c_sh_12, c_sh_13, c_sh_14, c_sh_15, c_sh_16, c_sh_17, c_sh_18, c_sh_19, c_sh_20, c_sh_21, c_sh_22, c_sh_23, c_sh_24, c_sh_25, c_sh_26, c_sh_27, c_sh_28, c_sh_29, c_sh_30, c_sh_31, c_sh_32, c_sh_33, c_sh_34, c_sh_35, c_sh_36, c_sh_37, c_sh_38, c_sh_39, c_R_10_0, c_R_10_4, c_R_10_5, c_R_10_6, c_R_12_0, c_R_12_1, c_R_12_2, c_R_12_3, c_R_12_4, c_R_12_5, c_R_12_6, c_R_12_7, c_R_12_8, c_R_12_9, c_R_23_0, c_R_23_1, c_R_23_2, c_R_27_0, c_R_27_1, c_R_29_0, c_R_29_2, c_R_29_15, c_R_29_16, c_R_29_17, c_R_29_18, c_R_29_19, c_R_29_20, c_R_29_21, c_R_29_23, c_R_23_3, o_aload, o_bald, o_bast, o_getI, o_getR, o_goto, o_i1, o_iald, o_ic, o_if, o_iinc, o_iload, o_istore, o_push, o_putI, o_putZ, e_M_read_60, e_M_read_64, e_M_read_67, e_M_read_71, e_M_read_72, e_M_read_73, e_M_read_74, e_M_read_75, e_M_read_78, e_M_read_81, e_M_read_85, e_M_read_88, e_M_read_89, e_M_read_93, e_M_read_96, e_M_read_97, e_M_read_99, e_M_read_100, e_M_read_103, e_M_read_104, e_M_read_108, e_M_read_111, e_M_read_114, z_M_read_61, z_M_read_68, z_M_read_82, z_M_read_90, z_M_read_105, d_sc_5, d_sc_6, d_sc_7, d_sc_1, d_sc_3, d_sc_4, d_sc_8, d_sc_9, d_sc_10, d_sc_11, d_sc_12, d_sc_13, d_sc_14, d_sc_22, d_sc_ne, m_gd_0, Decidable.not_not]
    refine hK _ (cl_M_read_61 rfl (sp_M_isGood l Z.2 L b Z.1 hc.2) (by decide) (Nat.le_of_ble_eq_true rfl) (Nat.le_refl _) (Nat.le_refl _) ?_)
    rintro w g ⟨rfl, rfl⟩
    refine ct_Wp.go (A_M_read l) (by decide) [73, 114] 60 (fun K hK => ?_)
    simp only [ct_run_s, ct_nx_s, ct_hp, ct_lg, ct_s1, ct_d1, ct_s2, ct_d2, lv_args, Value.category, ct_u2_get, Option.toList, List.cons_append, List.nil_append, Nat.reduceAdd, Nat.reduceSub, Nat.reduceMul, Nat.reduceEqDiff, Nat.reduceLeDiff, Nat.reduceLT, true_and, and_true, and_self, if_true, if_false, reduceCtorEq, Prod.mk.injEq, List.length_cons, List.length_nil, false_and, and_false, not_false_eq_true, not_true_eq_false, true_implies, false_implies, implies_true, Bool.false_eq_true, ite_true, ite_false, reduceIte, or_true, true_or, or_false, false_or, c_sh_10, c_sh_11, c_sh_12, c_sh_13, c_sh_14, c_sh_15, c_sh_16, c_sh_17, c_sh_18, c_sh_19, c_sh_20, c_sh_21, c_sh_22, c_sh_23, c_sh_24, c_sh_25, c_sh_26, c_sh_27, c_sh_28, c_sh_29, c_sh_30, c_sh_31, c_sh_32, c_sh_33, c_sh_34, c_sh_35, c_sh_36, c_sh_37, c_sh_38, c_sh_39, c_R_10_0, c_R_10_4, c_R_10_5, c_R_10_6, c_R_12_0, c_R_12_1, c_R_12_2, c_R_12_3, c_R_12_4, c_R_12_5, c_R_12_6, c_R_12_7, c_R_12_8, c_R_12_9, c_R_23_0, c_R_23_1, c_R_23_2, c_R_27_0, c_R_27_1, c_R_29_0, c_R_29_2, c_R_29_15, c_R_29_16, c_R_29_17, c_R_29_18, c_R_29_19, c_R_29_20, c_R_29_21, c_R_29_23, c_R_23_3, o_aload, o_bald, o_bast, o_getI, o_getR, o_goto, o_i1, o_iald, o_ic, o_if, o_iinc, o_iload, o_istore, o_push, o_putI, o_putZ, e_M_read_60, e_M_read_64, e_M_read_67, e_M_read_71, e_M_read_72, e_M_read_73, e_M_read_74, e_M_read_75, e_M_read_78, e_M_read_81, e_M_read_85, e_M_read_88, e_M_read_89, e_M_read_93, e_M_read_96, e_M_read_97, e_M_read_99, e_M_read_100, e_M_read_103, e_M_read_104, e_M_read_108, e_M_read_111, e_M_read_114, z_M_read_61, z_M_read_68, z_M_read_82, z_M_read_90, z_M_read_105, d_sc_5, d_sc_6, d_sc_7, d_sc_1, d_sc_3, d_sc_4, d_sc_8, d_sc_9, d_sc_10, d_sc_11, d_sc_12, d_sc_13, d_sc_14, d_sc_22, d_sc_ne, m_gd_0, Decidable.not_not]
    refine ⟨fun _ => hK _ ?_, fun q => absurd q hzb⟩
    refine ct_Wp.go (A_M_read l) (by decide) [73, 114] 60 (fun K hK => ?_)
    simp only [ct_run_s, ct_nx_s, ct_hp, ct_lg, ct_s1, ct_d1, ct_s2, ct_d2, lv_args, Value.category, ct_u2_get, Option.toList, List.cons_append, List.nil_append, Nat.reduceAdd, Nat.reduceSub, Nat.reduceMul, Nat.reduceEqDiff, Nat.reduceLeDiff, Nat.reduceLT, true_and, and_true, and_self, if_true, if_false, reduceCtorEq, Prod.mk.injEq, List.length_cons, List.length_nil, false_and, and_false, not_false_eq_true, not_true_eq_false, true_implies, false_implies, implies_true, Bool.false_eq_true, ite_true, ite_false, reduceIte, or_true, true_or, or_false, false_or, c_sh_10, c_sh_11, c_sh_12, c_sh_13, c_sh_14, c_sh_15, c_sh_16, c_sh_17, c_sh_18, c_sh_19, c_sh_20, c_sh_21, c_sh_22, c_sh_23, c_sh_24, c_sh_25, c_sh_26, c_sh_27, c_sh_28, c_sh_29, c_sh_30, c_sh_31, c_sh_32, c_sh_33, c_sh_34, c_sh_35, c_sh_36, c_sh_37, c_sh_38, c_sh_39, c_R_10_0, c_R_10_4, c_R_10_5, c_R_10_6, c_R_12_0, c_R_12_1, c_R_12_2, c_R_12_3, c_R_12_4, c_R_12_5, c_R_12_6, c_R_12_7, c_R_12_8, c_R_12_9, c_R_23_0, c_R_23_1, c_R_23_2, c_R_27_0, c_R_27_1, c_R_29_0, c_R_29_2, c_R_29_15, c_R_29_16, c_R_29_17, c_R_29_18, c_R_29_19, c_R_29_20, c_R_29_21, c_R_29_23, c_R_23_3, o_aload, o_bald, o_bast, o_getI, o_getR, o_goto, o_i1, o_iald, o_ic, o_if, o_iinc, o_iload, o_istore, o_push, o_putI, o_putZ, e_M_read_60, e_M_read_64, e_M_read_67, e_M_read_71, e_M_read_72, e_M_read_73, e_M_read_74, e_M_read_75, e_M_read_78, e_M_read_81, e_M_read_85, e_M_read_88, e_M_read_89, e_M_read_93, e_M_read_96, e_M_read_97, e_M_read_99, e_M_read_100, e_M_read_103, e_M_read_104, e_M_read_108, e_M_read_111, e_M_read_114, z_M_read_61, z_M_read_68, z_M_read_82, z_M_read_90, z_M_read_105, d_sc_5, d_sc_6, d_sc_7, d_sc_1, d_sc_3, d_sc_4, d_sc_8, d_sc_9, d_sc_10, d_sc_11, d_sc_12, d_sc_13, d_sc_14, d_sc_22, d_sc_ne, m_gd_0, Decidable.not_not]
    refine ⟨fun _ => hK _ (ct_Wp.pick [1] rfl (en [(0, .ref 29)] rfl)), fun _ => ?_⟩
    refine hK _ (cl_M_read_82 rfl (sp_M_isGood l Z.2 L b Z.1 hc.2) (by decide) (Nat.le_of_ble_eq_true rfl) (Nat.le_refl _) (Nat.le_refl _) ?_)
    rintro w g ⟨rfl, rfl⟩
    refine ct_Wp.go (A_M_read l) (by decide) [73, 114] 60 (fun K hK => ?_)
    simp only [ct_run_s, ct_nx_s, ct_hp, ct_lg, ct_s1, ct_d1, ct_s2, ct_d2, lv_args, Value.category, ct_u2_get, Option.toList, List.cons_append, List.nil_append, Nat.reduceAdd, Nat.reduceSub, Nat.reduceMul, Nat.reduceEqDiff, Nat.reduceLeDiff, Nat.reduceLT, true_and, and_true, and_self, if_true, if_false, reduceCtorEq, Prod.mk.injEq, List.length_cons, List.length_nil, false_and, and_false, not_false_eq_true, not_true_eq_false, true_implies, false_implies, implies_true, Bool.false_eq_true, ite_true, ite_false, reduceIte, or_true, true_or, or_false, false_or, c_sh_10, c_sh_11, c_sh_12, c_sh_13, c_sh_14, c_sh_15, c_sh_16, c_sh_17, c_sh_18, c_sh_19, c_sh_20, c_sh_21, c_sh_22, c_sh_23, c_sh_24, c_sh_25, c_sh_26, c_sh_27, c_sh_28, c_sh_29, c_sh_30, c_sh_31, c_sh_32, c_sh_33, c_sh_34, c_sh_35, c_sh_36, c_sh_37, c_sh_38, c_sh_39, c_R_10_0, c_R_10_4, c_R_10_5, c_R_10_6, c_R_12_0, c_R_12_1, c_R_12_2, c_R_12_3, c_R_12_4, c_R_12_5, c_R_12_6, c_R_12_7, c_R_12_8, c_R_12_9, c_R_23_0, c_R_23_1, c_R_23_2, c_R_27_0, c_R_27_1, c_R_29_0, c_R_29_2, c_R_29_15, c_R_29_16, c_R_29_17, c_R_29_18, c_R_29_19, c_R_29_20, c_R_29_21, c_R_29_23, c_R_23_3, o_aload, o_bald, o_bast, o_getI, o_getR, o_goto, o_i1, o_iald, o_ic, o_if, o_iinc, o_iload, o_istore, o_push, o_putI, o_putZ, e_M_read_60, e_M_read_64, e_M_read_67, e_M_read_71, e_M_read_72, e_M_read_73, e_M_read_74, e_M_read_75, e_M_read_78, e_M_read_81, e_M_read_85, e_M_read_88, e_M_read_89, e_M_read_93, e_M_read_96, e_M_read_97, e_M_read_99, e_M_read_100, e_M_read_103, e_M_read_104, e_M_read_108, e_M_read_111, e_M_read_114, z_M_read_61, z_M_read_68, z_M_read_82, z_M_read_90, z_M_read_105, d_sc_5, d_sc_6, d_sc_7, d_sc_1, d_sc_3, d_sc_4, d_sc_8, d_sc_9, d_sc_10, d_sc_11, d_sc_12, d_sc_13, d_sc_14, d_sc_22, d_sc_ne, m_gd_0, Decidable.not_not]
    exact ⟨fun _ => hK _ (ct_Wp.pick [1] rfl (en [(0, .ref 29)] rfl)), fun q => absurd q hzb⟩
  refine (key _ hG hb).mono ?_
  rintro v g ⟨f, h1, h2⟩
  exact ⟨J, w, _, f, hJ, rfl, h1, h2⟩
set_option maxHeartbeats 800000 in
set_option maxRecDepth 100000 in
theorem sp_M_read_ok (l : ct_Lx) (I : Nat → Nat → Int32) (L : Nat → Nat → Int64) (b : Bool) {ln : Nat} (hln : ln ≤ 4096) (h1 : I 29 1 = nI ln) (hM : v_Mod (z_B ln I) ln) : ct_Me l M_M_read 8 0 0 [.ref 29] (c_g I L b) (fun v g => ∃ J w c f, z_J ln I J ∧ c = m_cl (z_ci (z_B ln I) ln (z_B ln I 6) (v_SA (z_B ln I) ln)) (z_B ln I 6) 0 (v_lA (z_B ln I) ln (ln, 0, w)) ∧ v = some (.int (-(nI c.2.1))) ∧ g = c_g (z_fin (m_oA (z_B ln I) ln ((0, 0, w), J)).2 f ln c) L b) := by
  refine ct_Me.of (by decide) (Nat.le_of_ble_eq_true rfl) (fun v g h => by obtain ⟨J, w, c, f, -, -, e, -⟩ := h; rw [e]; exact Or.inl rfl) ?_
  refine sp_M_read_60 l I L b hln h1 ?_
  intro J w hJ
  have hG := z_oA_G (w := w) hJ
  obtain ⟨e1, hW, -, -⟩ := z_oA_ok (z_B_ok ln I) hln (w := w) hM J hJ.2.2.2.1
  have key : ∀ Z : m_S, m_G (z_B ln I) ln Z → Z.1 = (ln, 0, w) → w_M (z_B ln I) ln Z.2 → ct_Wp l M_M_read 8 (fun v g => v = some (.int (-(nI (m_cl (z_ci (z_B ln I) ln (z_B ln I 6) (v_SA (z_B ln I) ln)) (z_B ln I 6) 0 (v_lA (z_B ln I) ln (ln, 0, w))).2.1))) ∧ ∃ f, g = c_g (z_fin Z.2 f ln (m_cl (z_ci (z_B ln I) ln (z_B ln I 6) (v_SA (z_B ln I) ln)) (z_B ln I 6) 0 (v_lA (z_B ln I) ln (ln, 0, w)))) L b) (60, [(0, .ref 29)], [], m_w Z L b, 0, 0) := by
    intro Z hZ e hWZ
    have hc : m_ok ln Z.1 := hZ.2.1
    have hE : m_E (z_B ln I) ln Z.2 := hZ.1
    have hzg : Z.1.2.1 = 0 := by rw [e]
    have e2 := m_lA_eq hWZ Z.1
    obtain ⟨w1, w2, w3, w4, w5, w6, w7, w8⟩ := hWZ
    refine ct_Wp.go (A_M_read l) (by decide) [73] 60 (fun K hK => ?_)
    simp only [ct_run_s, ct_nx_s, ct_hp, ct_lg, ct_s1, ct_d1, ct_s2, ct_d2, lv_args, Value.category, ct_u2_get, Option.toList, List.cons_append, List.nil_append, Nat.reduceAdd, Nat.reduceSub, Nat.reduceMul, Nat.reduceEqDiff, Nat.reduceLeDiff, Nat.reduceLT, true_and, and_true, and_self, if_true, if_false, reduceCtorEq, Prod.mk.injEq, List.length_cons, List.length_nil, false_and, and_false, not_false_eq_true, not_true_eq_false, true_implies, false_implies, implies_true, Bool.false_eq_true, ite_true, ite_false, reduceIte, or_true, true_or, or_false, false_or, c_sh_10, c_sh_11, c_sh_12, c_sh_13, c_sh_14, c_sh_15, c_sh_16, c_sh_17, c_sh_18, c_sh_19, c_sh_20, c_sh_21, c_sh_22, c_sh_23, c_sh_24, c_sh_25, c_sh_26, c_sh_27, c_sh_28, c_sh_29, c_sh_30, c_sh_31, c_sh_32, c_sh_33, c_sh_34, c_sh_35, c_sh_36, c_sh_37, c_sh_38, c_sh_39, c_R_10_0, c_R_10_4, c_R_10_5, c_R_10_6, c_R_12_0, c_R_12_1, c_R_12_2, c_R_12_3, c_R_12_4, c_R_12_5, c_R_12_6, c_R_12_7, c_R_12_8, c_R_12_9, c_R_23_0, c_R_23_1, c_R_23_2, c_R_27_0, c_R_27_1, c_R_29_0, c_R_29_2, c_R_29_15, c_R_29_16, c_R_29_17, c_R_29_18, c_R_29_19, c_R_29_20, c_R_29_21, c_R_29_23, c_R_23_3, o_aload, o_bald, o_bast, o_getI, o_getR, o_goto, o_i1, o_iald, o_ic, o_if, o_iinc, o_iload, o_istore, o_push, o_putI, o_putZ, e_M_read_60, e_M_read_64, e_M_read_67, e_M_read_71, e_M_read_72, z_M_read_61, z_M_read_68, d_sc_5, d_sc_6, d_sc_7, d_sc_1, d_sc_3, d_sc_4, d_sc_8, d_sc_9, d_sc_10, d_sc_11, d_sc_12, d_sc_13, d_sc_14, d_sc_22, d_sc_ne, m_gd_0, Decidable.not_not]
    refine hK _ (cl_M_read_61 rfl (sp_M_isGood l Z.2 L b Z.1 hc.2) (by decide) (Nat.le_of_ble_eq_true rfl) (Nat.le_refl _) (Nat.le_refl _) ?_)
    rintro w g ⟨rfl, rfl⟩
    refine ct_Wp.go (A_M_read l) (by decide) [73] 60 (fun K hK => ?_)
    simp only [ct_run_s, ct_nx_s, ct_hp, ct_lg, ct_s1, ct_d1, ct_s2, ct_d2, lv_args, Value.category, ct_u2_get, Option.toList, List.cons_append, List.nil_append, Nat.reduceAdd, Nat.reduceSub, Nat.reduceMul, Nat.reduceEqDiff, Nat.reduceLeDiff, Nat.reduceLT, true_and, and_true, and_self, if_true, if_false, reduceCtorEq, Prod.mk.injEq, List.length_cons, List.length_nil, false_and, and_false, not_false_eq_true, not_true_eq_false, true_implies, false_implies, implies_true, Bool.false_eq_true, ite_true, ite_false, reduceIte, or_true, true_or, or_false, false_or, c_sh_10, c_sh_11, c_sh_12, c_sh_13, c_sh_14, c_sh_15, c_sh_16, c_sh_17, c_sh_18, c_sh_19, c_sh_20, c_sh_21, c_sh_22, c_sh_23, c_sh_24, c_sh_25, c_sh_26, c_sh_27, c_sh_28, c_sh_29, c_sh_30, c_sh_31, c_sh_32, c_sh_33, c_sh_34, c_sh_35, c_sh_36, c_sh_37, c_sh_38, c_sh_39, c_R_10_0, c_R_10_4, c_R_10_5, c_R_10_6, c_R_12_0, c_R_12_1, c_R_12_2, c_R_12_3, c_R_12_4, c_R_12_5, c_R_12_6, c_R_12_7, c_R_12_8, c_R_12_9, c_R_23_0, c_R_23_1, c_R_23_2, c_R_27_0, c_R_27_1, c_R_29_0, c_R_29_2, c_R_29_15, c_R_29_16, c_R_29_17, c_R_29_18, c_R_29_19, c_R_29_20, c_R_29_21, c_R_29_23, c_R_23_3, o_aload, o_bald, o_bast, o_getI, o_getR, o_goto, o_i1, o_iald, o_ic, o_if, o_iinc, o_iload, o_istore, o_push, o_putI, o_putZ, e_M_read_60, e_M_read_64, e_M_read_67, e_M_read_71, e_M_read_72, z_M_read_61, z_M_read_68, d_sc_5, d_sc_6, d_sc_7, d_sc_1, d_sc_3, d_sc_4, d_sc_8, d_sc_9, d_sc_10, d_sc_11, d_sc_12, d_sc_13, d_sc_14, d_sc_22, d_sc_ne, m_gd_0, Decidable.not_not]
    refine ⟨fun q => absurd hzg q, fun q => ?_⟩
    refine hK _ (cl_M_read_68 rfl (sp_M_lookAll l Z.2 L b hln hE w1 w2 w3 w4 w5 w6 Z.1 hc) (by decide) (Nat.le_of_ble_eq_true rfl) (Nat.le_refl _) (Nat.le_refl _) ?_)
    rintro v g ⟨rfl, rfl⟩
    rw [e2]
    have hc2 : m_ok ln (v_lA (z_B ln I) ln Z.1) := by rw [← e2]; exact hc.lA
    rw [e] at hc2 ⊢
    refine ct_Wp.go (A_M_read l) (by decide) [73] 60 (fun K hK => ?_)
    simp only [ct_run_s, ct_nx_s, ct_hp, ct_lg, ct_s1, ct_d1, ct_s2, ct_d2, lv_args, Value.category, ct_u2_get, Option.toList, List.cons_append, List.nil_append, Nat.reduceAdd, Nat.reduceSub, Nat.reduceMul, Nat.reduceEqDiff, Nat.reduceLeDiff, Nat.reduceLT, true_and, and_true, and_self, if_true, if_false, reduceCtorEq, Prod.mk.injEq, List.length_cons, List.length_nil, false_and, and_false, not_false_eq_true, not_true_eq_false, true_implies, false_implies, implies_true, Bool.false_eq_true, ite_true, ite_false, reduceIte, or_true, true_or, or_false, false_or, c_sh_10, c_sh_11, c_sh_12, c_sh_13, c_sh_14, c_sh_15, c_sh_16, c_sh_17, c_sh_18, c_sh_19, c_sh_20, c_sh_21, c_sh_22, c_sh_23, c_sh_24, c_sh_25, c_sh_26, c_sh_27, c_sh_28, c_sh_29, c_sh_30, c_sh_31, c_sh_32, c_sh_33, c_sh_34, c_sh_35, c_sh_36, c_sh_37, c_sh_38, c_sh_39, c_R_10_0, c_R_10_4, c_R_10_5, c_R_10_6, c_R_12_0, c_R_12_1, c_R_12_2, c_R_12_3, c_R_12_4, c_R_12_5, c_R_12_6, c_R_12_7, c_R_12_8, c_R_12_9, c_R_23_0, c_R_23_1, c_R_23_2, c_R_27_0, c_R_27_1, c_R_29_0, c_R_29_2, c_R_29_15, c_R_29_16, c_R_29_17, c_R_29_18, c_R_29_19, c_R_29_20, c_R_29_21, c_R_29_23, c_R_23_3, o_aload, o_bald, o_bast, o_getI, o_getR, o_goto, o_i1, o_iald, o_ic, o_if, o_iinc, o_iload, o_istore, o_push, o_putI, o_putZ, e_M_read_60, e_M_read_64, e_M_read_67, e_M_read_71, e_M_read_72, e_M_read_73, z_M_read_61, z_M_read_68, d_sc_5, d_sc_6, d_sc_7, d_sc_1, d_sc_3, d_sc_4, d_sc_8, d_sc_9, d_sc_10, d_sc_11, d_sc_12, d_sc_13, d_sc_14, d_sc_22, d_sc_ne, m_gd_0, Decidable.not_not]
    rw [show d_sc Z.2 (v_lA (z_B ln I) ln (ln, 0, w)) = d_sc (m_r39 Z.2 (Z.2 39)) (v_lA (z_B ln I) ln (ln, 0, w)) from by rw [m_r39_self]]
    exact hK _ (sp_M_read_loop l Z.2 L b hln hE (N := v_n (z_B ln I) ln) w1 w2 (v_n (z_B ln I) ln 9) 0 _ (Z.2 39) (Nat.zero_add _) hc2 rfl)
  refine (key _ hG e1 hW).mono ?_
  rintro v g ⟨h1, f, h2⟩
  exact ⟨J, w, _, f, hJ, rfl, h1, h2⟩
