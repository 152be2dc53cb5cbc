/-! findCircle: the row 25 (what is contained) is set, closed, looked at -/
def c_25 (J : Nat → Nat → Int32) (f : Nat → Int32) : Nat → Nat → Int32 := fun h k => if h = 25 then f k else J h k
theorem c_25_25 (J : Nat → Nat → Int32) (f : Nat → Int32) (k : Nat) : c_25 J f 25 k = f k := rfl
theorem c_25_ne (J : Nat → Nat → Int32) (f : Nat → Int32) {h : Nat} (k : Nat) (hh : ¬ h = 25) : c_25 J f h k = J h k := if_neg hh
theorem c_25_u2 (J : Nat → Nat → Int32) (f : Nat → Int32) (s : Nat) (x : Int32) : ct_u2 (c_25 J f) 25 s x = c_25 J (fun k => if k = s then x else f k) := by
  funext h k
  unfold ct_u2 c_25
  by_cases e : h = 25
  · by_cases e1 : k = s <;> simp [e, e1]
  · simp [e]
theorem c_25_sc (J : Nat → Nat → Int32) (f : Nat → Int32) (c : c_Cu) : c_sc (c_25 J f) c = c_25 (c_sc J c) f := by
  funext h k
  unfold c_25
  simp only [c_sc_get]
  by_cases e : h = 25
  · simp [e]
  · simp [e]
theorem c_25_self (J : Nat → Nat → Int32) : c_25 J (J 25) = J := by
  funext h k
  unfold c_25
  split
  · rename_i e; rw [e]
  · rfl
theorem c_25_sf (J : Nat → Nat → Int32) (f : Nat → Int32) (n : Nat) (k w : Int32) : c_sf (c_25 J f) n k w = c_sf J n k w := rfl
theorem c_25_ft (J : Nat → Nat → Int32) (f : Nat → Int32) (L : Nat → Nat → Int64) (n : Nat) (k i : Int32) : c_ft (c_25 J f) L n k i = c_ft J L n k i := rfl
/-- one step of the closing, on the row alone -/
def c_v1 (w k : Nat) (f : Nat → Int32) : Nat → Int32 := if ((f k).toUInt32 >>> ((nI w).toUInt32 &&& Int32.toUInt32 31)).toInt32 &&& 1 = 0 then f else fun j => if j = k then f k ||| f w else f j
def c_vI (w : Nat) : Nat → Nat → (Nat → Int32) → (Nat → Int32)
  | 0, _, f => f
  | n + 1, k, f => c_vI w n (k + 1) (c_v1 w k f)
def c_vO (cnt : Nat) : Nat → Nat → (Nat → Int32) → (Nat → Int32)
  | 0, _, f => f
  | n + 1, w, f => c_vO cnt n (w + 1) (c_vI w cnt 0 f)
theorem c_w1_25 (w k : Nat) (J : Nat → Nat → Int32) (f : Nat → Int32) : c_w1 w k (c_25 J f) = c_25 J (c_v1 w k f) := by
  have e : c_25 J f 25 k = f k := rfl
  have e2 : c_25 J f 25 w = f w := rfl
  unfold c_w1 c_v1
  rw [e, e2]
  by_cases h : ((f k).toUInt32 >>> ((nI w).toUInt32 &&& Int32.toUInt32 31)).toInt32 &&& 1 = 0
  · rw [if_pos h, if_pos h]
  · rw [if_neg h, if_neg h, c_25_u2]
theorem c_wI_25 (w : Nat) (J : Nat → Nat → Int32) : ∀ (n k : Nat) (f : Nat → Int32), c_wI w n k (c_25 J f) = c_25 J (c_vI w n k f)
  | 0, _, _ => rfl
  | n + 1, k, f => by rw [c_wI, c_w1_25, c_wI_25 w J n (k + 1), c_vI]
theorem c_wO_25 (cnt : Nat) (J : Nat → Nat → Int32) : ∀ (n w : Nat) (f : Nat → Int32), c_wO cnt n w (c_25 J f) = c_25 J (c_vO cnt n w f)
  | 0, _, _ => rfl
  | n + 1, w, f => by rw [c_wO, c_wI_25, c_wO_25 cnt J n (w + 1), c_vO]
/-- the last look: the cursor behind it -/
def c_cc (f : Nat → Int32) (ab : Nat → Nat) : Nat → Nat → c_Cu → c_Cu
  | 0, _, c => c
  | n + 1, k, c => c_cc f ab n (k + 1) (if ((f k).toUInt32 >>> ((nI k).toUInt32 &&& Int32.toUInt32 31)).toInt32 &&& 1 = 0 then c else c_fl 14 (ab k) c)
set_option maxHeartbeats 800000 in
set_option maxRecDepth 100000 in
theorem sp_R_findCircle_first (l : ct_Lx) (J : Nat → Nat → Int32) (L : Nat → Nat → Int64) (b : Bool) {Post : Option Value → ct_Sg → Prop} {n1 n2 : Nat} (h1 : J 13 1 = nI n1) (h2 : J 13 2 = nI n2) (b1 : n1 ≤ 32) (b2 : n2 ≤ 32) (hf : ∀ j, j < n1 + n2 → ∃ m, J 14 (j * 4 + 1) = nI m ∧ m ≤ 16 ∧ (n1 ≤ j → m = 0)) {m : Nat → Nat} {T : Nat → Nat → Nat} (hT : ∀ k, k < n1 → m k ≤ 16 ∧ c_sf J (n1 + n2) (nI k) 1 = nI (m k) ∧ ∀ i, i < m k → c_ft J L (n1 + n2) (nI k) (nI i) = lN (T k i) ∧ T k i < 2 ^ 62) (kk : ∀ f, (∀ k, k < n1 → f k = c_sb (T k) n1 (m k)) → ct_Wp l M_R_findCircle 5 Post (43, [(1, .int (nI n1)), (0, .ref 23)], [], c_g (c_25 J f) L b, 0, 0)) : ∀ (n k : Nat) (f : Nat → Int32), k + n = n1 → (∀ j, j < k → f j = c_sb (T j) n1 (m j)) → ct_Wp l M_R_findCircle 5 Post (20, [(2, .int (nI k)), (1, .int (nI n1)), (0, .ref 23)], [], c_g (c_25 J f) L b, 0, 0) := by
  intro n
  induction n with
  | zero =>
    intro k f hi hf
    have e : k = n1 := by omega
    subst e
    refine ct_Wp.go (A_R_findCircle l) (by decide) [20, 43] 60 (fun K hK => ?_)
    simp only [ct_run_s, ct_nx_s, ct_hp, ct_lg, ct_s1, ct_d1, ct_s2, ct_d2, lv_args, Value.category, ct_u2_get, Option.toList, List.cons_append, List.nil_append, Nat.reduceAdd, Nat.reduceSub, Nat.reduceMul, Nat.reduceEqDiff, Nat.reduceLeDiff, Nat.reduceLT, true_and, and_true, and_self, if_true, if_false, reduceCtorEq, Prod.mk.injEq, List.length_cons, List.length_nil, false_and, and_false, not_false_eq_true, not_true_eq_false, true_implies, false_implies, implies_true, Bool.false_eq_true, ite_true, ite_false, reduceIte, or_true, true_or, or_false, false_or, c_sh_10, c_sh_11, c_sh_12, c_sh_13, c_sh_14, c_sh_15, c_sh_16, c_sh_17, c_sh_18, c_sh_19, c_sh_20, c_sh_21, c_sh_22, c_sh_23, c_sh_24, c_sh_25, c_sh_26, c_sh_27, c_sh_28, c_sh_29, c_sh_30, c_sh_31, c_sh_32, c_sh_33, c_sh_34, c_sh_35, c_sh_36, c_sh_37, c_sh_38, c_sh_39, c_R_10_0, c_R_10_4, c_R_10_5, c_R_10_6, c_R_12_0, c_R_12_1, c_R_12_2, c_R_12_3, c_R_12_4, c_R_12_5, c_R_12_6, c_R_12_7, c_R_12_8, c_R_12_9, c_R_23_0, c_R_23_1, c_R_23_2, c_R_27_0, c_R_27_1, c_R_29_0, c_R_29_2, c_R_29_15, c_R_29_16, c_R_29_17, c_R_29_18, c_R_29_19, c_R_29_20, c_R_29_21, c_R_29_23, c_R_23_3, o_aload, o_dup2, o_getI, o_getR, o_goto, o_iald, o_iast, o_ic, o_if, o_ii, o_iinc, o_iload, o_istore, o_push, e_R_findCircle_20, e_R_findCircle_21, e_R_findCircle_22, e_R_findCircle_25, e_R_findCircle_26, e_R_findCircle_29, e_R_findCircle_30, e_R_findCircle_31, e_R_findCircle_32, e_R_findCircle_36, e_R_findCircle_37, e_R_findCircle_40, z_R_findCircle_33, c_cl_0, c_cl_1, c_cl_2, c_cl_3, c_cl_4, c_cl_5, c_cl_6, c_cl_7, c_in7_0, c_in7_1, c_in7_2, c_in7_3, c_in7_4, c_in7_5, c_in7_6]
    exact ⟨fun _ => hK _ (ct_Wp.pick [1, 2] rfl (kk f hf)), fun h => absurd (nI_le (Nat.le_refl _) (by omega)) h⟩
  | succ n ih =>
    intro k f hi hff
    obtain ⟨t1, t2, t3⟩ := hT k (by omega)
    have va : vp_in (nI k) 32 := vp_in_nI (by omega) (by decide)
    have qa : (nI k).toNatClampNeg = k := nI_clamp (by omega)
    refine ct_Wp.go (A_R_findCircle l) (by decide) [20, 43] 60 (fun K hK => ?_)
    simp only [ct_run_s, ct_nx_s, ct_hp, ct_lg, ct_s1, ct_d1, ct_s2, ct_d2, lv_args, Value.category, ct_u2_get, Option.toList, List.cons_append, List.nil_append, Nat.reduceAdd, Nat.reduceSub, Nat.reduceMul, Nat.reduceEqDiff, Nat.reduceLeDiff, Nat.reduceLT, true_and, and_true, and_self, if_true, if_false, reduceCtorEq, Prod.mk.injEq, List.length_cons, List.length_nil, false_and, and_false, not_false_eq_true, not_true_eq_false, true_implies, false_implies, implies_true, Bool.false_eq_true, ite_true, ite_false, reduceIte, or_true, true_or, or_false, false_or, c_sh_10, c_sh_11, c_sh_12, c_sh_13, c_sh_14, c_sh_15, c_sh_16, c_sh_17, c_sh_18, c_sh_19, c_sh_20, c_sh_21, c_sh_22, c_sh_23, c_sh_24, c_sh_25, c_sh_26, c_sh_27, c_sh_28, c_sh_29, c_sh_30, c_sh_31, c_sh_32, c_sh_33, c_sh_34, c_sh_35, c_sh_36, c_sh_37, c_sh_38, c_sh_39, c_R_10_0, c_R_10_4, c_R_10_5, c_R_10_6, c_R_12_0, c_R_12_1, c_R_12_2, c_R_12_3, c_R_12_4, c_R_12_5, c_R_12_6, c_R_12_7, c_R_12_8, c_R_12_9, c_R_23_0, c_R_23_1, c_R_23_2, c_R_27_0, c_R_27_1, c_R_29_0, c_R_29_2, c_R_29_15, c_R_29_16, c_R_29_17, c_R_29_18, c_R_29_19, c_R_29_20, c_R_29_21, c_R_29_23, c_R_23_3, o_aload, o_dup2, o_getI, o_getR, o_goto, o_iald, o_iast, o_ic, o_if, o_ii, o_iinc, o_iload, o_istore, o_push, e_R_findCircle_20, e_R_findCircle_21, e_R_findCircle_22, e_R_findCircle_25, e_R_findCircle_26, e_R_findCircle_29, e_R_findCircle_30, e_R_findCircle_31, e_R_findCircle_32, e_R_findCircle_36, e_R_findCircle_37, e_R_findCircle_40, z_R_findCircle_33, c_cl_0, c_cl_1, c_cl_2, c_cl_3, c_cl_4, c_cl_5, c_cl_6, c_cl_7, c_in7_0, c_in7_1, c_in7_2, c_in7_3, c_in7_4, c_in7_5, c_in7_6]
    refine ⟨fun h => absurd h (nI_ge (by omega) (by omega)), fun _ => hK _ (cl_R_findCircle_33 rfl (sp_R_structuresInFields l (c_25 J f) L b (n1 := n1) (n2 := n2) h1 h2 b1 b2 hf (k := k) (m := m k) (own := n1) t1 (by omega) t2 (T := T k) t3) (by decide) (Nat.le_of_ble_eq_true rfl) (Nat.le_refl _) (Nat.le_refl _) ?_)⟩
    rintro w g ⟨rfl, rfl⟩
    refine ct_Wp.go (A_R_findCircle l) (by decide) [20, 43] 60 (fun K hK => ?_)
    simp only [ct_run_s, ct_nx_s, ct_hp, ct_lg, ct_s1, ct_d1, ct_s2, ct_d2, lv_args, Value.category, ct_u2_get, Option.toList, List.cons_append, List.nil_append, Nat.reduceAdd, Nat.reduceSub, Nat.reduceMul, Nat.reduceEqDiff, Nat.reduceLeDiff, Nat.reduceLT, true_and, and_true, and_self, if_true, if_false, reduceCtorEq, Prod.mk.injEq, List.length_cons, List.length_nil, false_and, and_false, not_false_eq_true, not_true_eq_false, true_implies, false_implies, implies_true, Bool.false_eq_true, ite_true, ite_false, reduceIte, or_true, true_or, or_false, false_or, c_sh_10, c_sh_11, c_sh_12, c_sh_13, c_sh_14, c_sh_15, c_sh_16, c_sh_17, c_sh_18, c_sh_19, c_sh_20, c_sh_21, c_sh_22, c_sh_23, c_sh_24, c_sh_25, c_sh_26, c_sh_27, c_sh_28, c_sh_29, c_sh_30, c_sh_31, c_sh_32, c_sh_33, c_sh_34, c_sh_35, c_sh_36, c_sh_37, c_sh_38, c_sh_39, c_R_10_0, c_R_10_4, c_R_10_5, c_R_10_6, c_R_12_0, c_R_12_1, c_R_12_2, c_R_12_3, c_R_12_4, c_R_12_5, c_R_12_6, c_R_12_7, c_R_12_8, c_R_12_9, c_R_23_0, c_R_23_1, c_R_23_2, c_R_27_0, c_R_27_1, c_R_29_0, c_R_29_2, c_R_29_15, c_R_29_16, c_R_29_17, c_R_29_18, c_R_29_19, c_R_29_20, c_R_29_21, c_R_29_23, c_R_23_3, o_aload, o_dup2, o_getI, o_getR, o_goto, o_iald, o_iast, o_ic, o_if, o_ii, o_iinc, o_iload, o_istore, o_push, e_R_findCircle_20, e_R_findCircle_21, e_R_findCircle_22, e_R_findCircle_25, e_R_findCircle_26, e_R_findCircle_29, e_R_findCircle_30, e_R_findCircle_31, e_R_findCircle_32, e_R_findCircle_36, e_R_findCircle_37, e_R_findCircle_40, z_R_findCircle_33, nI_1, va, qa, c_25_u2, c_cl_0, c_cl_1, c_cl_2, c_cl_3, c_cl_4, c_cl_5, c_cl_6, c_cl_7, c_in7_0, c_in7_1, c_in7_2, c_in7_3, c_in7_4, c_in7_5, c_in7_6]
    refine hK _ (ih (k + 1) _ (by omega) ?_)
    intro j hj
    show (if j = k then c_sb (T k) n1 (m k) else f j) = _
    by_cases z : j = k
    · rw [if_pos z, z]
    · rw [if_neg z]; exact hff j (by omega)
set_option maxHeartbeats 800000 in
set_option maxRecDepth 100000 in
theorem sp_R_findCircle_last (l : ct_Lx) (J : Nat → Nat → Int32) (L : Nat → Nat → Int64) (b : Bool) {n1 : Nat} (b1 : n1 ≤ 32) {ab : Nat → Nat} (hab : ∀ k, k < n1 → J 24 k = nI (ab k)) (f : Nat → Int32) : ∀ (n k : Nat) (c : c_Cu), k + n = n1 → c.2.1 ≤ 14 → ct_Wp l M_R_findCircle 5 (fun v g => v = none ∧ g = c_g (c_sc (c_25 J f) (c_cc f ab n k c)) L b) (99, [(2, .int (nI k)), (1, .int (nI n1)), (0, .ref 23)], [], c_g (c_sc (c_25 J f) c) L b, 0, 0) := by
  intro n
  induction n with
  | zero =>
    intro k c hi hc
    have e : k = n1 := by omega
    subst e
    refine ct_Wp.go (A_R_findCircle l) (by decide) [99] 60 (fun K hK => ?_)
    simp only [ct_run_s, ct_nx_s, ct_hp, ct_lg, ct_s1, ct_d1, ct_s2, ct_d2, lv_args, Value.category, ct_u2_get, Option.toList, List.cons_append, List.nil_append, Nat.reduceAdd, Nat.reduceSub, Nat.reduceMul, Nat.reduceEqDiff, Nat.reduceLeDiff, Nat.reduceLT, true_and, and_true, and_self, if_true, if_false, reduceCtorEq, Prod.mk.injEq, List.length_cons, List.length_nil, false_and, and_false, not_false_eq_true, not_true_eq_false, true_implies, false_implies, implies_true, Bool.false_eq_true, ite_true, ite_false, reduceIte, or_true, true_or, or_false, false_or, c_sh_10, c_sh_11, c_sh_12, c_sh_13, c_sh_14, c_sh_15, c_sh_16, c_sh_17, c_sh_18, c_sh_19, c_sh_20, c_sh_21, c_sh_22, c_sh_23, c_sh_24, c_sh_25, c_sh_26, c_sh_27, c_sh_28, c_sh_29, c_sh_30, c_sh_31, c_sh_32, c_sh_33, c_sh_34, c_sh_35, c_sh_36, c_sh_37, c_sh_38, c_sh_39, c_R_10_0, c_R_10_4, c_R_10_5, c_R_10_6, c_R_12_0, c_R_12_1, c_R_12_2, c_R_12_3, c_R_12_4, c_R_12_5, c_R_12_6, c_R_12_7, c_R_12_8, c_R_12_9, c_R_23_0, c_R_23_1, c_R_23_2, c_R_27_0, c_R_27_1, c_R_29_0, c_R_29_2, c_R_29_15, c_R_29_16, c_R_29_17, c_R_29_18, c_R_29_19, c_R_29_20, c_R_29_21, c_R_29_23, c_R_23_3, o_aload, o_dup2, o_getI, o_getR, o_goto, o_iald, o_iast, o_ic, o_if, o_ii, o_iinc, o_iload, o_istore, o_push, e_R_findCircle_99, e_R_findCircle_100, e_R_findCircle_101, e_R_findCircle_104, e_R_findCircle_105, e_R_findCircle_108, e_R_findCircle_109, e_R_findCircle_110, e_R_findCircle_111, e_R_findCircle_112, e_R_findCircle_113, e_R_findCircle_114, e_R_findCircle_117, e_R_findCircle_118, e_R_findCircle_120, e_R_findCircle_121, e_R_findCircle_124, e_R_findCircle_125, e_R_findCircle_129, e_R_findCircle_132, z_R_findCircle_126, z_R_findCircle_135, c_sc_5, c_sc_7, c_sc_8, c_sc_4, c_sc_6, c_sc_ne, c_cl_0, c_cl_1, c_cl_2, c_cl_3, c_cl_4, c_cl_5, c_cl_6, c_cl_7, c_in7_0, c_in7_1, c_in7_2, c_in7_3, c_in7_4, c_in7_5, c_in7_6]
    exact ⟨fun _ => hK _ (ct_Wp.ret none rfl d_R_findCircle_135 ⟨rfl, rfl⟩), fun h => absurd (nI_le (Nat.le_refl _) (by omega)) h⟩
  | succ n ih =>
    intro k c hi hc
    have va : vp_in (nI k) 32 := vp_in_nI (by omega) (by decide)
    have qa : (nI k).toNatClampNeg = k := nI_clamp (by omega)
    have a24 : c_25 J f 24 k = nI (ab k) := hab k (by omega)
    refine ct_Wp.go (A_R_findCircle l) (by decide) [99] 60 (fun K hK => ?_)
    simp only [ct_run_s, ct_nx_s, ct_hp, ct_lg, ct_s1, ct_d1, ct_s2, ct_d2, lv_args, Value.category, ct_u2_get, Option.toList, List.cons_append, List.nil_append, Nat.reduceAdd, Nat.reduceSub, Nat.reduceMul, Nat.reduceEqDiff, Nat.reduceLeDiff, Nat.reduceLT, true_and, and_true, and_self, if_true, if_false, reduceCtorEq, Prod.mk.injEq, List.length_cons, List.length_nil, false_and, and_false, not_false_eq_true, not_true_eq_false, true_implies, false_implies, implies_true, Bool.false_eq_true, ite_true, ite_false, reduceIte, or_true, true_or, or_false, false_or, c_sh_10, c_sh_11, c_sh_12, c_sh_13, c_sh_14, c_sh_15, c_sh_16, c_sh_17, c_sh_18, c_sh_19, c_sh_20, c_sh_21, c_sh_22, c_sh_23, c_sh_24, c_sh_25, c_sh_26, c_sh_27, c_sh_28, c_sh_29, c_sh_30, c_sh_31, c_sh_32, c_sh_33, c_sh_34, c_sh_35, c_sh_36, c_sh_37, c_sh_38, c_sh_39, c_R_10_0, c_R_10_4, c_R_10_5, c_R_10_6, c_R_12_0, c_R_12_1, c_R_12_2, c_R_12_3, c_R_12_4, c_R_12_5, c_R_12_6, c_R_12_7, c_R_12_8, c_R_12_9, c_R_23_0, c_R_23_1, c_R_23_2, c_R_27_0, c_R_27_1, c_R_29_0, c_R_29_2, c_R_29_15, c_R_29_16, c_R_29_17, c_R_29_18, c_R_29_19, c_R_29_20, c_R_29_21, c_R_29_23, c_R_23_3, o_aload, o_dup2, o_getI, o_getR, o_goto, o_iald, o_iast, o_ic, o_if, o_ii, o_iinc, o_iload, o_istore, o_push, e_R_findCircle_99, e_R_findCircle_100, e_R_findCircle_101, e_R_findCircle_104, e_R_findCircle_105, e_R_findCircle_108, e_R_findCircle_109, e_R_findCircle_110, e_R_findCircle_111, e_R_findCircle_112, e_R_findCircle_113, e_R_findCircle_114, e_R_findCircle_117, e_R_findCircle_118, e_R_findCircle_120, e_R_findCircle_121, e_R_findCircle_124, e_R_findCircle_125, e_R_findCircle_129, e_R_findCircle_132, z_R_findCircle_126, z_R_findCircle_135, c_sc_5, c_sc_7, c_sc_8, c_sc_4, c_sc_6, c_sc_ne, va, qa, nI_1, c_25_25, a24, c_cl_0, c_cl_1, c_cl_2, c_cl_3, c_cl_4, c_cl_5, c_cl_6, c_cl_7, c_in7_0, c_in7_1, c_in7_2, c_in7_3, c_in7_4, c_in7_5, c_in7_6]
    refine ⟨fun h => absurd h (nI_ge (by omega) (by omega)), fun _ => ⟨fun q => hK _ ?_, fun q => hK _ (cl_R_findCircle_126 rfl (sp_R_fail l (c_25 J f) L b c hc 14 (ab k)) (by decide) (Nat.le_of_ble_eq_true rfl) (Nat.le_refl _) (Nat.le_refl _) ?_)⟩⟩
    · rw [c_cc, if_pos q]
      exact ih (k + 1) c (by omega) hc
    · rintro w g ⟨rfl, rfl⟩
      refine ct_Wp.go (A_R_findCircle l) (by decide) [99] 60 (fun K hK => ?_)
      simp only [ct_run_s, ct_nx_s, ct_hp, ct_lg, ct_s1, ct_d1, ct_s2, ct_d2, lv_args, Value.category, ct_u2_get, Option.toList, List.cons_append, List.nil_append, Nat.reduceAdd, Nat.reduceSub, Nat.reduceMul, Nat.reduceEqDiff, Nat.reduceLeDiff, Nat.reduceLT, true_and, and_true, and_self, if_true, if_false, reduceCtorEq, Prod.mk.injEq, List.length_cons, List.length_nil, false_and, and_false, not_false_eq_true, not_true_eq_false, true_implies, false_implies, implies_true, Bool.false_eq_true, ite_true, ite_false, reduceIte, or_true, true_or, or_false, false_or, c_sh_10, c_sh_11, c_sh_12, c_sh_13, c_sh_14, c_sh_15, c_sh_16, c_sh_17, c_sh_18, c_sh_19, c_sh_20, c_sh_21, c_sh_22, c_sh_23, c_sh_24, c_sh_25, c_sh_26, c_sh_27, c_sh_28, c_sh_29, c_sh_30, c_sh_31, c_sh_32, c_sh_33, c_sh_34, c_sh_35, c_sh_36, c_sh_37, c_sh_38, c_sh_39, c_R_10_0, c_R_10_4, c_R_10_5, c_R_10_6, c_R_12_0, c_R_12_1, c_R_12_2, c_R_12_3, c_R_12_4, c_R_12_5, c_R_12_6, c_R_12_7, c_R_12_8, c_R_12_9, c_R_23_0, c_R_23_1, c_R_23_2, c_R_27_0, c_R_27_1, c_R_29_0, c_R_29_2, c_R_29_15, c_R_29_16, c_R_29_17, c_R_29_18, c_R_29_19, c_R_29_20, c_R_29_21, c_R_29_23, c_R_23_3, o_aload, o_dup2, o_getI, o_getR, o_goto, o_iald, o_iast, o_ic, o_if, o_ii, o_iinc, o_iload, o_istore, o_push, e_R_findCircle_99, e_R_findCircle_100, e_R_findCircle_101, e_R_findCircle_104, e_R_findCircle_105, e_R_findCircle_108, e_R_findCircle_109, e_R_findCircle_110, e_R_findCircle_111, e_R_findCircle_112, e_R_findCircle_113, e_R_findCircle_114, e_R_findCircle_117, e_R_findCircle_118, e_R_findCircle_120, e_R_findCircle_121, e_R_findCircle_124, e_R_findCircle_125, e_R_findCircle_129, e_R_findCircle_132, z_R_findCircle_126, z_R_findCircle_135, c_sc_5, c_sc_7, c_sc_8, c_sc_4, c_sc_6, c_sc_ne, nI_1, c_cl_0, c_cl_1, c_cl_2, c_cl_3, c_cl_4, c_cl_5, c_cl_6, c_cl_7, c_in7_0, c_in7_1, c_in7_2, c_in7_3, c_in7_4, c_in7_5, c_in7_6]
      refine hK _ ?_
      rw [c_cc, if_neg q]
      refine ih (k + 1) _ (by omega) ?_
      unfold c_fl; split
      · exact Nat.le_refl _
      · exact hc
set_option maxHeartbeats 800000 in
set_option maxRecDepth 100000 in
theorem sp_R_findCircle_bad (l : ct_Lx) (I : Nat → Nat → Int32) (L : Nat → Nat → Int64) (b : Bool) (h : ¬ I 23 7 = 0) : ct_Me l M_R_findCircle 5 0 0 [.ref 23] (c_g I L b) (fun v g => v = none ∧ g = c_g I L b) := by
  refine ct_Me.of (by decide) (Nat.le_of_ble_eq_true rfl) (fun v g h => by rw [h.1]; rfl) ?_
  refine ct_Wp.go (A_R_findCircle l) (by decide) [8] 60 (fun K hK => ?_)
  simp only [ct_run_s, ct_nx_s, ct_hp, ct_lg, ct_s1, ct_d1, ct_s2, ct_d2, lv_args, Value.category, ct_u2_get, Option.toList, List.cons_append, List.nil_append, Nat.reduceAdd, Nat.reduceSub, Nat.reduceMul, Nat.reduceEqDiff, Nat.reduceLeDiff, Nat.reduceLT, true_and, and_true, and_self, if_true, if_false, reduceCtorEq, Prod.mk.injEq, List.length_cons, List.length_nil, false_and, and_false, not_false_eq_true, not_true_eq_false, true_implies, false_implies, implies_true, Bool.false_eq_true, ite_true, ite_false, reduceIte, or_true, true_or, or_false, false_or, c_sh_10, c_sh_11, c_sh_12, c_sh_13, c_sh_14, c_sh_15, c_sh_16, c_sh_17, c_sh_18, c_sh_19, c_sh_20, c_sh_21, c_sh_22, c_sh_23, c_sh_24, c_sh_25, c_sh_26, c_sh_27, c_sh_28, c_sh_29, c_sh_30, c_sh_31, c_sh_32, c_sh_33, c_sh_34, c_sh_35, c_sh_36, c_sh_37, c_sh_38, c_sh_39, c_R_10_0, c_R_10_4, c_R_10_5, c_R_10_6, c_R_12_0, c_R_12_1, c_R_12_2, c_R_12_3, c_R_12_4, c_R_12_5, c_R_12_6, c_R_12_7, c_R_12_8, c_R_12_9, c_R_23_0, c_R_23_1, c_R_23_2, c_R_27_0, c_R_27_1, c_R_29_0, c_R_29_2, c_R_29_15, c_R_29_16, c_R_29_17, c_R_29_18, c_R_29_19, c_R_29_20, c_R_29_21, c_R_29_23, c_R_23_3, o_aload, o_dup2, o_getI, o_getR, o_goto, o_iald, o_iast, o_ic, o_if, o_ii, o_iinc, o_iload, o_istore, o_push, e_R_findCircle_0, e_R_findCircle_1, e_R_findCircle_4, e_R_findCircle_8, z_R_findCircle_7, c_cl_0, c_cl_1, c_cl_2, c_cl_3, c_cl_4, c_cl_5, c_cl_6, c_cl_7, c_in7_0, c_in7_1, c_in7_2, c_in7_3, c_in7_4, c_in7_5, c_in7_6]
  exact ⟨fun q => absurd q h, fun _ => hK _ (ct_Wp.ret none rfl d_R_findCircle_7 ⟨rfl, rfl⟩)⟩
set_option maxHeartbeats 800000 in
set_option maxRecDepth 100000 in
theorem sp_R_findCircle (l : ct_Lx) (J : Nat → Nat → Int32) (L : Nat → Nat → Int64) (b : Bool) {n1 n2 : Nat} (h1 : J 13 1 = nI n1) (h2 : J 13 2 = nI n2) (b1 : n1 ≤ 32) (b2 : n2 ≤ 32) (hf : ∀ j, j < n1 + n2 → ∃ m, J 14 (j * 4 + 1) = nI m ∧ m ≤ 16 ∧ (n1 ≤ j → m = 0)) {m : Nat → Nat} {T : Nat → Nat → Nat} (hT : ∀ k, k < n1 → m k ≤ 16 ∧ c_sf J (n1 + n2) (nI k) 1 = nI (m k) ∧ ∀ i, i < m k → c_ft J L (n1 + n2) (nI k) (nI i) = lN (T k i) ∧ T k i < 2 ^ 62) {ab : Nat → Nat} (hab : ∀ k, k < n1 → J 24 k = nI (ab k)) (c : c_Cu) (hc : c.2.1 = 0) : ct_Me l M_R_findCircle 5 0 0 [.ref 23] (c_g (c_sc J c) L b) (fun v g => v = none ∧ ∃ f, (∀ k, k < n1 → f k = c_sb (T k) n1 (m k)) ∧ g = c_g (c_sc (c_25 J (c_vO n1 n1 0 f)) (c_cc (c_vO n1 n1 0 f) ab n1 0 c)) L b) := by
  refine ct_Me.of (by decide) (Nat.le_of_ble_eq_true rfl) (fun v g h => by rw [h.1]; rfl) ?_
  have e7 : nI c.2.1 = 0 := by rw [hc]; rfl
  have e00 : ((0 : Int32) = 0) = True := by decide
  refine ct_Wp.go (A_R_findCircle l) (by decide) [20] 60 (fun K hK => ?_)
  simp only [ct_run_s, ct_nx_s, ct_hp, ct_lg, ct_s1, ct_d1, ct_s2, ct_d2, lv_args, Value.category, ct_u2_get, Option.toList, List.cons_append, List.nil_append, Nat.reduceAdd, Nat.reduceSub, Nat.reduceMul, Nat.reduceEqDiff, Nat.reduceLeDiff, Nat.reduceLT, true_and, and_true, and_self, if_true, if_false, reduceCtorEq, Prod.mk.injEq, List.length_cons, List.length_nil, false_and, and_false, not_false_eq_true, not_true_eq_false, true_implies, false_implies, implies_true, Bool.false_eq_true, ite_true, ite_false, reduceIte, or_true, true_or, or_false, false_or, c_sh_10, c_sh_11, c_sh_12, c_sh_13, c_sh_14, c_sh_15, c_sh_16, c_sh_17, c_sh_18, c_sh_19, c_sh_20, c_sh_21, c_sh_22, c_sh_23, c_sh_24, c_sh_25, c_sh_26, c_sh_27, c_sh_28, c_sh_29, c_sh_30, c_sh_31, c_sh_32, c_sh_33, c_sh_34, c_sh_35, c_sh_36, c_sh_37, c_sh_38, c_sh_39, c_R_10_0, c_R_10_4, c_R_10_5, c_R_10_6, c_R_12_0, c_R_12_1, c_R_12_2, c_R_12_3, c_R_12_4, c_R_12_5, c_R_12_6, c_R_12_7, c_R_12_8, c_R_12_9, c_R_23_0, c_R_23_1, c_R_23_2, c_R_27_0, c_R_27_1, c_R_29_0, c_R_29_2, c_R_29_15, c_R_29_16, c_R_29_17, c_R_29_18, c_R_29_19, c_R_29_20, c_R_29_21, c_R_29_23, c_R_23_3, o_aload, o_dup2, o_getI, o_getR, o_goto, o_iald, o_iast, o_ic, o_if, o_ii, o_iinc, o_iload, o_istore, o_push, e_R_findCircle_0, e_R_findCircle_1, e_R_findCircle_4, e_R_findCircle_8, e_R_findCircle_9, e_R_findCircle_12, e_R_findCircle_15, e_R_findCircle_16, e_R_findCircle_17, e_R_findCircle_18, e_R_findCircle_19, e_R_findCircle_20, z_R_findCircle_7, c_sc_5, c_sc_7, c_sc_8, c_sc_4, c_sc_6, c_sc_ne, e7, e00, h1, c_cl_0, c_cl_1, c_cl_2, c_cl_3, c_cl_4, c_cl_5, c_cl_6, c_cl_7, c_in7_0, c_in7_1, c_in7_2, c_in7_3, c_in7_4, c_in7_5, c_in7_6]
  rw [show c_sc J c = c_25 (c_sc J c) ((c_sc J c) 25) from (c_25_self _).symm]
  refine hK _ (sp_R_findCircle_first l (c_sc J c) L b (n1 := n1) (n2 := n2) h1 h2 b1 b2 hf (m := m) (T := T) hT ?_ n1 0 _ (Nat.zero_add _) (fun j hj => absurd hj (Nat.not_lt_zero _)))
  intro f hff
  refine ct_Wp.go (A_R_findCircle l) (by decide) [45] 60 (fun K hK => ?_)
  simp only [ct_run_s, ct_nx_s, ct_hp, ct_lg, ct_s1, ct_d1, ct_s2, ct_d2, lv_args, Value.category, ct_u2_get, Option.toList, List.cons_append, List.nil_append, Nat.reduceAdd, Nat.reduceSub, Nat.reduceMul, Nat.reduceEqDiff, Nat.reduceLeDiff, Nat.reduceLT, true_and, and_true, and_self, if_true, if_false, reduceCtorEq, Prod.mk.injEq, List.length_cons, List.length_nil, false_and, and_false, not_false_eq_true, not_true_eq_false, true_implies, false_implies, implies_true, Bool.false_eq_true, ite_true, ite_false, reduceIte, or_true, true_or, or_false, false_or, c_sh_10, c_sh_11, c_sh_12, c_sh_13, c_sh_14, c_sh_15, c_sh_16, c_sh_17, c_sh_18, c_sh_19, c_sh_20, c_sh_21, c_sh_22, c_sh_23, c_sh_24, c_sh_25, c_sh_26, c_sh_27, c_sh_28, c_sh_29, c_sh_30, c_sh_31, c_sh_32, c_sh_33, c_sh_34, c_sh_35, c_sh_36, c_sh_37, c_sh_38, c_sh_39, c_R_10_0, c_R_10_4, c_R_10_5, c_R_10_6, c_R_12_0, c_R_12_1, c_R_12_2, c_R_12_3, c_R_12_4, c_R_12_5, c_R_12_6, c_R_12_7, c_R_12_8, c_R_12_9, c_R_23_0, c_R_23_1, c_R_23_2, c_R_27_0, c_R_27_1, c_R_29_0, c_R_29_2, c_R_29_15, c_R_29_16, c_R_29_17, c_R_29_18, c_R_29_19, c_R_29_20, c_R_29_21, c_R_29_23, c_R_23_3, o_aload, o_dup2, o_getI, o_getR, o_goto, o_iald, o_iast, o_ic, o_if, o_ii, o_iinc, o_iload, o_istore, o_push, e_R_findCircle_43, e_R_findCircle_44, e_R_findCircle_45, c_cl_0, c_cl_1, c_cl_2, c_cl_3, c_cl_4, c_cl_5, c_cl_6, c_cl_7, c_in7_0, c_in7_1, c_in7_2, c_in7_3, c_in7_4, c_in7_5, c_in7_6]
  refine hK _ (sp_R_findCircle_out l L b b1 (J := c_25 (c_sc J c) (c_vO n1 n1 0 f)) ?_ n1 0 _ (Nat.zero_add _) (c_wO_25 n1 (c_sc J c) n1 0 f))
  refine ct_Wp.go (A_R_findCircle l) (by decide) [99] 60 (fun K hK => ?_)
  simp only [ct_run_s, ct_nx_s, ct_hp, ct_lg, ct_s1, ct_d1, ct_s2, ct_d2, lv_args, Value.category, ct_u2_get, Option.toList, List.cons_append, List.nil_append, Nat.reduceAdd, Nat.reduceSub, Nat.reduceMul, Nat.reduceEqDiff, Nat.reduceLeDiff, Nat.reduceLT, true_and, and_true, and_self, if_true, if_false, reduceCtorEq, Prod.mk.injEq, List.length_cons, List.length_nil, false_and, and_false, not_false_eq_true, not_true_eq_false, true_implies, false_implies, implies_true, Bool.false_eq_true, ite_true, ite_false, reduceIte, or_true, true_or, or_false, false_or, c_sh_10, c_sh_11, c_sh_12, c_sh_13, c_sh_14, c_sh_15, c_sh_16, c_sh_17, c_sh_18, c_sh_19, c_sh_20, c_sh_21, c_sh_22, c_sh_23, c_sh_24, c_sh_25, c_sh_26, c_sh_27, c_sh_28, c_sh_29, c_sh_30, c_sh_31, c_sh_32, c_sh_33, c_sh_34, c_sh_35, c_sh_36, c_sh_37, c_sh_38, c_sh_39, c_R_10_0, c_R_10_4, c_R_10_5, c_R_10_6, c_R_12_0, c_R_12_1, c_R_12_2, c_R_12_3, c_R_12_4, c_R_12_5, c_R_12_6, c_R_12_7, c_R_12_8, c_R_12_9, c_R_23_0, c_R_23_1, c_R_23_2, c_R_27_0, c_R_27_1, c_R_29_0, c_R_29_2, c_R_29_15, c_R_29_16, c_R_29_17, c_R_29_18, c_R_29_19, c_R_29_20, c_R_29_21, c_R_29_23, c_R_23_3, o_aload, o_dup2, o_getI, o_getR, o_goto, o_iald, o_iast, o_ic, o_if, o_ii, o_iinc, o_iload, o_istore, o_push, e_R_findCircle_97, e_R_findCircle_98, e_R_findCircle_99, c_cl_0, c_cl_1, c_cl_2, c_cl_3, c_cl_4, c_cl_5, c_cl_6, c_cl_7, c_in7_0, c_in7_1, c_in7_2, c_in7_3, c_in7_4, c_in7_5, c_in7_6]
  rw [← c_25_sc]
  refine hK _ ((sp_R_findCircle_last l J L b b1 hab (c_vO n1 n1 0 f) n1 0 c (Nat.zero_add _) (by omega)).mono ?_)
  rintro v g ⟨rfl, rfl⟩
  exact ⟨rfl, f, hff, rfl⟩
