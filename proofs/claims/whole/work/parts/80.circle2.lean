/-! the middle of findCircle: what is contained by way of 'w' -/
def c_w1 (w k : Nat) (I : Nat → Nat → Int32) : Nat → Nat → Int32 := if ((I 25 k).toUInt32 >>> ((nI w).toUInt32 &&& Int32.toUInt32 31)).toInt32 &&& 1 = 0 then I else ct_u2 I 25 k (I 25 k ||| I 25 w)
def c_wI (w : Nat) : Nat → Nat → (Nat → Nat → Int32) → (Nat → Nat → Int32)
  | 0, _, I => I
  | n + 1, k, I => c_wI w n (k + 1) (c_w1 w k I)
def c_wO (cnt : Nat) : Nat → Nat → (Nat → Nat → Int32) → (Nat → Nat → Int32)
  | 0, _, I => I
  | n + 1, w, I => c_wO cnt n (w + 1) (c_wI w cnt 0 I)
set_option maxHeartbeats 400000 in
set_option maxRecDepth 100000 in
theorem sp_R_findCircle_in (l : ct_Lx) (L : Nat → Nat → Int64) (b : Bool) {Post : Option Value → ct_Sg → Prop} {cnt w : Nat} (hc : cnt ≤ 32) (hw : w < cnt) {J : Nat → Nat → Int32} (kk : ct_Wp l M_R_findCircle 5 Post (45, [(2, .int (nI (w + 1))), (1, .int (nI cnt)), (0, .ref 23)], [], c_g J L b, 0, 0)) : ∀ (n k : Nat) (I : Nat → Nat → Int32), k + n = cnt → c_wI w n k I = J → ct_Wp l M_R_findCircle 5 Post (52, [(3, .int (nI k)), (2, .int (nI w)), (1, .int (nI cnt)), (0, .ref 23)], [], c_g I L b, 0, 0) := by
  have vw : vp_in (nI w) 32 := vp_in_nI (by omega) (by decide)
  have qw : (nI w).toNatClampNeg = w := nI_clamp (by omega)
  intro n
  induction n with
  | zero =>
    intro k I hk e
    have e1 : k = cnt := by omega
    subst e1
    subst e
    refine ct_Wp.go (A_R_findCircle l) (by decide) [45, 52] 60 (fun K hK => ?_)
    simp only [ct_run_s, ct_nx_s, ct_hp, ct_lg, ct_s1, ct_d1, ct_s2, ct_d2, lv_args, Value.category, ct_u2_get, Option.toList, List.cons_append, List.nil_append, Nat.reduceAdd, Nat.reduceSub, Nat.reduceMul, Nat.reduceEqDiff, Nat.reduceLeDiff, Nat.reduceLT, true_and, and_true, and_self, if_true, if_false, reduceCtorEq, Prod.mk.injEq, List.length_cons, List.length_nil, false_and, and_false, not_false_eq_true, not_true_eq_false, true_implies, false_implies, implies_true, Bool.false_eq_true, ite_true, ite_false, reduceIte, or_true, true_or, or_false, false_or, c_sh_10, c_sh_11, c_sh_12, c_sh_13, c_sh_14, c_sh_15, c_sh_16, c_sh_17, c_sh_18, c_sh_19, c_sh_20, c_sh_21, c_sh_22, c_sh_23, c_sh_24, c_sh_25, c_sh_26, c_sh_27, c_sh_28, c_sh_29, c_sh_30, c_sh_31, c_sh_32, c_sh_33, c_sh_34, c_sh_35, c_sh_36, c_sh_37, c_sh_38, c_sh_39, c_R_10_0, c_R_10_4, c_R_10_5, c_R_10_6, c_R_12_0, c_R_12_1, c_R_12_2, c_R_12_3, c_R_12_4, c_R_12_5, c_R_12_6, c_R_12_7, c_R_12_8, c_R_12_9, c_R_23_0, c_R_23_1, c_R_23_2, c_R_27_0, c_R_27_1, c_R_29_0, c_R_29_2, c_R_29_15, c_R_29_16, c_R_29_17, c_R_29_18, c_R_29_19, c_R_29_20, c_R_29_21, c_R_29_23, c_R_23_3, o_aload, o_dup2, o_getI, o_getR, o_goto, o_iald, o_iast, o_ic, o_if, o_ii, o_iinc, o_iload, o_istore, o_push, e_R_findCircle_52, e_R_findCircle_53, e_R_findCircle_54, e_R_findCircle_57, e_R_findCircle_58, e_R_findCircle_61, e_R_findCircle_62, e_R_findCircle_63, e_R_findCircle_64, e_R_findCircle_65, e_R_findCircle_66, e_R_findCircle_67, e_R_findCircle_70, e_R_findCircle_71, e_R_findCircle_74, e_R_findCircle_75, e_R_findCircle_76, e_R_findCircle_77, e_R_findCircle_78, e_R_findCircle_81, e_R_findCircle_82, e_R_findCircle_83, e_R_findCircle_84, e_R_findCircle_85, e_R_findCircle_88, e_R_findCircle_91, e_R_findCircle_94, nI_1, c_cl_0, c_cl_1, c_cl_2, c_cl_3, c_cl_4, c_cl_5, c_cl_6, c_cl_7, c_in7_0, c_in7_1, c_in7_2, c_in7_3, c_in7_4, c_in7_5, c_in7_6]
    exact ⟨fun _ => hK _ (ct_Wp.pick [0, 2, 3] rfl kk), fun h => absurd (nI_le (Nat.le_refl _) (by omega)) h⟩
  | succ n ih =>
    intro k I hk e
    have vk : vp_in (nI k) 32 := vp_in_nI (by omega) (by decide)
    have qk : (nI k).toNatClampNeg = k := nI_clamp (by omega)
    refine ct_Wp.go (A_R_findCircle l) (by decide) [45, 52] 60 (fun K hK => ?_)
    simp only [ct_run_s, ct_nx_s, ct_hp, ct_lg, ct_s1, ct_d1, ct_s2, ct_d2, lv_args, Value.category, ct_u2_get, Option.toList, List.cons_append, List.nil_append, Nat.reduceAdd, Nat.reduceSub, Nat.reduceMul, Nat.reduceEqDiff, Nat.reduceLeDiff, Nat.reduceLT, true_and, and_true, and_self, if_true, if_false, reduceCtorEq, Prod.mk.injEq, List.length_cons, List.length_nil, false_and, and_false, not_false_eq_true, not_true_eq_false, true_implies, false_implies, implies_true, Bool.false_eq_true, ite_true, ite_false, reduceIte, or_true, true_or, or_false, false_or, c_sh_10, c_sh_11, c_sh_12, c_sh_13, c_sh_14, c_sh_15, c_sh_16, c_sh_17, c_sh_18, c_sh_19, c_sh_20, c_sh_21, c_sh_22, c_sh_23, c_sh_24, c_sh_25, c_sh_26, c_sh_27, c_sh_28, c_sh_29, c_sh_30, c_sh_31, c_sh_32, c_sh_33, c_sh_34, c_sh_35, c_sh_36, c_sh_37, c_sh_38, c_sh_39, c_R_10_0, c_R_10_4, c_R_10_5, c_R_10_6, c_R_12_0, c_R_12_1, c_R_12_2, c_R_12_3, c_R_12_4, c_R_12_5, c_R_12_6, c_R_12_7, c_R_12_8, c_R_12_9, c_R_23_0, c_R_23_1, c_R_23_2, c_R_27_0, c_R_27_1, c_R_29_0, c_R_29_2, c_R_29_15, c_R_29_16, c_R_29_17, c_R_29_18, c_R_29_19, c_R_29_20, c_R_29_21, c_R_29_23, c_R_23_3, o_aload, o_dup2, o_getI, o_getR, o_goto, o_iald, o_iast, o_ic, o_if, o_ii, o_iinc, o_iload, o_istore, o_push, e_R_findCircle_52, e_R_findCircle_53, e_R_findCircle_54, e_R_findCircle_57, e_R_findCircle_58, e_R_findCircle_61, e_R_findCircle_62, e_R_findCircle_63, e_R_findCircle_64, e_R_findCircle_65, e_R_findCircle_66, e_R_findCircle_67, e_R_findCircle_70, e_R_findCircle_71, e_R_findCircle_74, e_R_findCircle_75, e_R_findCircle_76, e_R_findCircle_77, e_R_findCircle_78, e_R_findCircle_81, e_R_findCircle_82, e_R_findCircle_83, e_R_findCircle_84, e_R_findCircle_85, e_R_findCircle_88, e_R_findCircle_91, e_R_findCircle_94, nI_1, vk, qk, vw, qw, c_cl_0, c_cl_1, c_cl_2, c_cl_3, c_cl_4, c_cl_5, c_cl_6, c_cl_7, c_in7_0, c_in7_1, c_in7_2, c_in7_3, c_in7_4, c_in7_5, c_in7_6]
    refine ⟨fun h => absurd h (nI_ge (by omega) (by omega)), fun _ => ⟨fun q => hK _ (ih (k + 1) I (by omega) ?_), fun q => hK _ (ih (k + 1) _ (by omega) ?_)⟩⟩
    · rw [← e, c_wI, c_w1, if_pos q]
    · rw [← e, c_wI, c_w1, if_neg q]
set_option maxHeartbeats 400000 in
set_option maxRecDepth 100000 in
theorem sp_R_findCircle_out (l : ct_Lx) (L : Nat → Nat → Int64) (b : Bool) {Post : Option Value → ct_Sg → Prop} {cnt : Nat} (hc : cnt ≤ 32) {J : Nat → Nat → Int32} (kk : ct_Wp l M_R_findCircle 5 Post (97, [(2, .int (nI cnt)), (1, .int (nI cnt)), (0, .ref 23)], [], c_g J L b, 0, 0)) : ∀ (n w : Nat) (I : Nat → Nat → Int32), w + n = cnt → c_wO cnt n w I = J → ct_Wp l M_R_findCircle 5 Post (45, [(2, .int (nI w)), (1, .int (nI cnt)), (0, .ref 23)], [], c_g I L b, 0, 0) := by
  intro n
  induction n with
  | zero =>
    intro w I hk e
    have e1 : w = cnt := by omega
    subst e1
    subst e
    refine ct_Wp.go (A_R_findCircle l) (by decide) [45, 52, 97] 60 (fun K hK => ?_)
    simp only [ct_run_s, ct_nx_s, ct_hp, ct_lg, ct_s1, ct_d1, ct_s2, ct_d2, lv_args, Value.category, ct_u2_get, Option.toList, List.cons_append, List.nil_append, Nat.reduceAdd, Nat.reduceSub, Nat.reduceMul, Nat.reduceEqDiff, Nat.reduceLeDiff, Nat.reduceLT, true_and, and_true, and_self, if_true, if_false, reduceCtorEq, Prod.mk.injEq, List.length_cons, List.length_nil, false_and, and_false, not_false_eq_true, not_true_eq_false, true_implies, false_implies, implies_true, Bool.false_eq_true, ite_true, ite_false, reduceIte, or_true, true_or, or_false, false_or, c_sh_10, c_sh_11, c_sh_12, c_sh_13, c_sh_14, c_sh_15, c_sh_16, c_sh_17, c_sh_18, c_sh_19, c_sh_20, c_sh_21, c_sh_22, c_sh_23, c_sh_24, c_sh_25, c_sh_26, c_sh_27, c_sh_28, c_sh_29, c_sh_30, c_sh_31, c_sh_32, c_sh_33, c_sh_34, c_sh_35, c_sh_36, c_sh_37, c_sh_38, c_sh_39, c_R_10_0, c_R_10_4, c_R_10_5, c_R_10_6, c_R_12_0, c_R_12_1, c_R_12_2, c_R_12_3, c_R_12_4, c_R_12_5, c_R_12_6, c_R_12_7, c_R_12_8, c_R_12_9, c_R_23_0, c_R_23_1, c_R_23_2, c_R_27_0, c_R_27_1, c_R_29_0, c_R_29_2, c_R_29_15, c_R_29_16, c_R_29_17, c_R_29_18, c_R_29_19, c_R_29_20, c_R_29_21, c_R_29_23, c_R_23_3, o_aload, o_dup2, o_getI, o_getR, o_goto, o_iald, o_iast, o_ic, o_if, o_ii, o_iinc, o_iload, o_istore, o_push, e_R_findCircle_45, e_R_findCircle_46, e_R_findCircle_47, e_R_findCircle_50, e_R_findCircle_51, c_cl_0, c_cl_1, c_cl_2, c_cl_3, c_cl_4, c_cl_5, c_cl_6, c_cl_7, c_in7_0, c_in7_1, c_in7_2, c_in7_3, c_in7_4, c_in7_5, c_in7_6]
    exact ⟨fun _ => hK _ kk, fun h => absurd (nI_le (Nat.le_refl _) (by omega)) h⟩
  | succ n ih =>
    intro w I hk e
    refine ct_Wp.go (A_R_findCircle l) (by decide) [45, 52, 97] 60 (fun K hK => ?_)
    simp only [ct_run_s, ct_nx_s, ct_hp, ct_lg, ct_s1, ct_d1, ct_s2, ct_d2, lv_args, Value.category, ct_u2_get, Option.toList, List.cons_append, List.nil_append, Nat.reduceAdd, Nat.reduceSub, Nat.reduceMul, Nat.reduceEqDiff, Nat.reduceLeDiff, Nat.reduceLT, true_and, and_true, and_self, if_true, if_false, reduceCtorEq, Prod.mk.injEq, List.length_cons, List.length_nil, false_and, and_false, not_false_eq_true, not_true_eq_false, true_implies, false_implies, implies_true, Bool.false_eq_true, ite_true, ite_false, reduceIte, or_true, true_or, or_false, false_or, c_sh_10, c_sh_11, c_sh_12, c_sh_13, c_sh_14, c_sh_15, c_sh_16, c_sh_17, c_sh_18, c_sh_19, c_sh_20, c_sh_21, c_sh_22, c_sh_23, c_sh_24, c_sh_25, c_sh_26, c_sh_27, c_sh_28, c_sh_29, c_sh_30, c_sh_31, c_sh_32, c_sh_33, c_sh_34, c_sh_35, c_sh_36, c_sh_37, c_sh_38, c_sh_39, c_R_10_0, c_R_10_4, c_R_10_5, c_R_10_6, c_R_12_0, c_R_12_1, c_R_12_2, c_R_12_3, c_R_12_4, c_R_12_5, c_R_12_6, c_R_12_7, c_R_12_8, c_R_12_9, c_R_23_0, c_R_23_1, c_R_23_2, c_R_27_0, c_R_27_1, c_R_29_0, c_R_29_2, c_R_29_15, c_R_29_16, c_R_29_17, c_R_29_18, c_R_29_19, c_R_29_20, c_R_29_21, c_R_29_23, c_R_23_3, o_aload, o_dup2, o_getI, o_getR, o_goto, o_iald, o_iast, o_ic, o_if, o_ii, o_iinc, o_iload, o_istore, o_push, e_R_findCircle_45, e_R_findCircle_46, e_R_findCircle_47, e_R_findCircle_50, e_R_findCircle_51, c_cl_0, c_cl_1, c_cl_2, c_cl_3, c_cl_4, c_cl_5, c_cl_6, c_cl_7, c_in7_0, c_in7_1, c_in7_2, c_in7_3, c_in7_4, c_in7_5, c_in7_6]
    refine ⟨fun h => absurd h (nI_ge (by omega) (by omega)), fun _ => hK _ ?_⟩
    exact sp_R_findCircle_in l L b hc (by omega) (ih (w + 1) _ (by omega) (by rw [← e, c_wO])) cnt 0 I (Nat.zero_add _) rfl
