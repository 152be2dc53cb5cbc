set_option maxHeartbeats 800000 in
set_option maxRecDepth 100000 in
theorem sp_R_walk2 (l : ct_Lx) {B : Nat → Nat} {ln : Nat} {lu : Bool} (hln : ln ≤ 4096) (c : c_Cu) (I : Nat → Nat → Int32) (L : Nat → Nat → Int64) {lu' : Bool} (h1 : c_E B ln lu' I) (h2 : c_W I) (h3 : c.2.1 ≤ 14 ∧ c.2.2 ≤ ln) : ct_Me l M_R_walk 6 0 0 [.ref 23, .int (if lu = true then 1 else 0)] (c_w (c, I, L)) (fun w0 g => w0 = none ∧ g = c_w (c_wk B ln lu (c, I, L))) := by
  refine ct_Me.of (by decide) (Nat.le_of_ble_eq_true rfl) (fun v g h => by rw [h.1]; first | rfl | exact Or.inl rfl) ?_
  have hz := c_nI0 (n := c.2.1) (by have := h3.1; omega)
  have h01 := c_lu01 lu
  refine ct_Wp.go (A_R_walk l) (by decide) [18] 150 (fun K hK => ?_)
  simp only [ct_run_s, ct_nx_s, ct_hp, ct_lg, ct_s1, ct_d1, ct_s2, ct_d2, lv_args, Value.category, ct_u2_get, Option.toList, List.cons_append, List.nil_append, Nat.reduceAdd, Nat.reduceSub, Nat.reduceMul, Nat.reduceEqDiff, Nat.reduceLeDiff, Nat.reduceLT, true_and, and_true, and_self, if_true, if_false, reduceCtorEq, Prod.mk.injEq, List.length_cons, List.length_nil, false_and, and_false, not_false_eq_true, not_true_eq_false, true_implies, false_implies, implies_true, Bool.false_eq_true, ite_true, ite_false, reduceIte, or_true, true_or, or_false, false_or, c_sh_10, c_sh_11, c_sh_12, c_sh_13, c_sh_14, c_sh_15, c_sh_16, c_sh_17, c_sh_18, c_sh_19, c_sh_20, c_sh_21, c_sh_22, c_sh_23, c_sh_24, c_sh_25, c_sh_26, c_sh_27, c_sh_28, c_sh_29, c_sh_30, c_sh_31, c_sh_32, c_sh_33, c_sh_34, c_sh_35, c_sh_36, c_sh_37, c_sh_38, c_sh_39, c_R_10_0, c_R_10_4, c_R_10_5, c_R_10_6, c_R_12_0, c_R_12_1, c_R_12_2, c_R_12_3, c_R_12_4, c_R_12_5, c_R_12_6, c_R_12_7, c_R_12_8, c_R_12_9, c_R_23_0, c_R_23_1, c_R_23_2, c_R_27_0, c_R_27_1, c_R_29_0, c_R_29_2, c_R_29_15, c_R_29_16, c_R_29_17, c_R_29_18, c_R_29_19, c_R_29_20, c_R_29_21, c_R_29_23, c_R_23_3, o_aload, o_getI, o_getR, o_iast, o_ic, o_if, o_iload, o_l2i, o_push, o_putI, o_putZ, e_R_walk_0, e_R_walk_1, e_R_walk_4, e_R_walk_8, e_R_walk_9, e_R_walk_10, e_R_walk_13, e_R_walk_14, e_R_walk_15, e_R_walk_18, e_R_walk_22, e_R_walk_23, e_R_walk_26, e_R_walk_29, e_R_walk_30, e_R_walk_31, e_R_walk_35, e_R_walk_36, e_R_walk_37, e_R_walk_41, e_R_walk_45, e_R_walk_49, e_R_walk_53, e_R_walk_57, e_R_walk_58, e_R_walk_61, e_R_walk_62, e_R_walk_65, e_R_walk_68, e_R_walk_69, e_R_walk_71, e_R_walk_72, z_R_walk_7, z_R_walk_19, z_R_walk_32, z_R_walk_38, z_R_walk_42, z_R_walk_46, z_R_walk_50, z_R_walk_54, z_R_walk_75, z_R_walk_78, c_sc_lu, c_sc_at0, h01, c_cl_0, c_cl_1, c_cl_2, c_cl_3, c_cl_4, c_cl_5, c_cl_6, c_cl_7, c_in7_0, c_in7_1, c_in7_2, c_in7_3, c_in7_4, c_in7_5, c_in7_6, c_sc_5, c_sc_7, c_sc_8, c_sc_4, c_sc_6, c_sc_ne]
  refine ⟨fun h => hK _ ?_, fun h => hK _ (ct_Wp.ret none rfl d_R_walk_7 ?_)⟩
  · rw [c_wk, if_pos (hz.mp h)]
    exact sp_R_walk_18 l hln (0, c.2) (ct_u2 I 23 6 (if lu = true then 1 else 0)) L (c_G.mk h1.lu h2.lu ⟨Nat.zero_le _, h3⟩) _
  · rw [c_wk, if_neg (fun z => h (hz.mpr z))]; exact ⟨rfl, rfl⟩
theorem c_sc_self {J : Nat → Nat → Int32} {c : c_Cu} (h5 : J 23 5 = nI c.1) (h7 : J 23 7 = nI c.2.1) (h8 : J 23 8 = nI c.2.2) : c_sc J c = J := by
  unfold c_sc
  rw [← h5, c_u2_same, ← h7, c_u2_same, ← h8, c_u2_same]
/-- the reader as it begins -/
def x_J (I : Nat → Nat → Int32) (ln : Nat) : Nat → Nat → Int32 := ct_u2 (ct_u2 (ct_u2 I 23 4 (nI ln)) 23 7 0) 23 8 (nI ln)
def x_S1 (I : Nat → Nat → Int32) (L : Nat → Nat → Int64) (ln : Nat) : c_S := c_wf (c_B I) ln false (0, 0, ln) (ct_u2 (x_J I ln) 23 6 0) L
def x_S2 (I : Nat → Nat → Int32) (L : Nat → Nat → Int64) (ln : Nat) : c_S := c_wk (c_B I) ln true (x_S1 I L ln)
theorem x_J_E {I : Nat → Nat → Int32} {ln : Nat} {lu : Bool} (h : I 23 6 = if lu = true then 1 else 0) : c_E (c_B I) ln lu (x_J I ln) := ⟨rfl, rfl, h⟩
theorem x_J_W {I : Nat → Nat → Int32} {ln : Nat} (h : c_W I) : c_W (x_J I ln) := ((h.u2 (by decide)).u2 (by decide)).u2 (by decide)
theorem x_S1_G {I : Nat → Nat → Int32} {L : Nat → Nat → Int64} {ln : Nat} {lu : Bool} (h : I 23 6 = if lu = true then 1 else 0) (hW : c_W I) : c_G (c_B I) ln false (x_S1 I L ln) :=
  (c_G.mk (x_J_E h).lu (x_J_W hW).lu ⟨Nat.zero_le _, Nat.zero_le _, Nat.le_refl _⟩ : c_G (c_B I) ln false ((0, 0, ln), ct_u2 (x_J I ln) 23 6 (if false = true then 1 else 0), L)).wt.w6
theorem x_S2_G {I : Nat → Nat → Int32} {L : Nat → Nat → Int64} {ln : Nat} {lu : Bool} (h : I 23 6 = if lu = true then 1 else 0) (hW : c_W I) : ∃ lu2, c_G (c_B I) ln lu2 (x_S2 I L ln) := by
  have h1 := x_S1_G (L := L) (ln := ln) h hW
  unfold x_S2 c_wk
  split
  · refine ⟨true, ?_⟩
    have h2 : c_G (c_B I) ln true ((0, (x_S1 I L ln).1.2), ct_u2 (x_S1 I L ln).2.1 23 6 (if true = true then 1 else 0), (x_S1 I L ln).2.2) := c_G.mk h1.1.lu h1.2.1.lu ⟨Nat.zero_le _, h1.2.2.2⟩
    exact h2.wt.w6
  · exact ⟨false, h1⟩
def x_fin (I : Nat → Nat → Int32) (c : c_Cu) : Nat → Nat → Int32 := ct_u2 (ct_u2 (ct_u2 (c_sc I c) 10 2 (nI c.2.2)) 10 3 (m_gd c)) 10 1 0
theorem x_nz1 : vp_nar .boolean 1 = 1 := by decide
theorem x_nz0 : vp_nar .boolean 0 = 0 := by decide
set_option maxHeartbeats 800000 in
set_option maxRecDepth 100000 in
theorem sp_X_read_end (l : ct_Lx) (I : Nat → Nat → Int32) (L : Nat → Nat → Int64) (c : c_Cu) (hc : c.2.1 ≤ 14) : ct_Wp l M_X_read 7 (fun v g => v = some (.int (-(nI c.2.1))) ∧ g = c_g (x_fin I c) L true) (38, [(0, .ref 10)], [], c_g (c_sc I c) L true, 0, 0) := by
  have hz := c_nI0 (n := c.2.1) (by omega)
  refine ct_Wp.go (A_X_read l) (by decide) [] 60 (fun K hK => ?_)
  simp only [ct_run_s, ct_nx_s, ct_hp, ct_lg, ct_s1, ct_d1, ct_s2, ct_d2, lv_args, Value.category, ct_u2_get, Option.toList, List.cons_append, List.nil_append, Nat.reduceAdd, Nat.reduceSub, Nat.reduceMul, Nat.reduceEqDiff, Nat.reduceLeDiff, Nat.reduceLT, true_and, and_true, and_self, if_true, if_false, reduceCtorEq, Prod.mk.injEq, List.length_cons, List.length_nil, false_and, and_false, not_false_eq_true, not_true_eq_false, true_implies, false_implies, implies_true, Bool.false_eq_true, ite_true, ite_false, reduceIte, or_true, true_or, or_false, false_or, c_sh_10, c_sh_11, c_sh_12, c_sh_13, c_sh_14, c_sh_15, c_sh_16, c_sh_17, c_sh_18, c_sh_19, c_sh_20, c_sh_21, c_sh_22, c_sh_23, c_sh_24, c_sh_25, c_sh_26, c_sh_27, c_sh_28, c_sh_29, c_sh_30, c_sh_31, c_sh_32, c_sh_33, c_sh_34, c_sh_35, c_sh_36, c_sh_37, c_sh_38, c_sh_39, c_R_10_0, c_R_10_4, c_R_10_5, c_R_10_6, c_R_12_0, c_R_12_1, c_R_12_2, c_R_12_3, c_R_12_4, c_R_12_5, c_R_12_6, c_R_12_7, c_R_12_8, c_R_12_9, c_R_23_0, c_R_23_1, c_R_23_2, c_R_27_0, c_R_27_1, c_R_29_0, c_R_29_2, c_R_29_15, c_R_29_16, c_R_29_17, c_R_29_18, c_R_29_19, c_R_29_20, c_R_29_21, c_R_29_23, c_R_23_3, o_aload, o_getI, o_getR, o_goto, o_i1, o_if, o_push, o_putI, o_putZ, e_X_read_38, e_X_read_39, e_X_read_40, e_X_read_43, e_X_read_46, e_X_read_49, e_X_read_50, e_X_read_51, e_X_read_54, e_X_read_57, e_X_read_60, e_X_read_61, e_X_read_64, e_X_read_65, e_X_read_68, e_X_read_69, e_X_read_70, e_X_read_73, e_X_read_74, e_X_read_77, e_X_read_80, z_X_read_81, x_nz1, x_nz0, c_cl_0, c_cl_1, c_cl_2, c_cl_3, c_cl_4, c_cl_5, c_cl_6, c_cl_7, c_in7_0, c_in7_1, c_in7_2, c_in7_3, c_in7_4, c_in7_5, c_in7_6, c_sc_5, c_sc_7, c_sc_8, c_sc_4, c_sc_6, c_sc_ne]
  refine ⟨fun h => hK _ (ct_Wp.ret (some (.int _)) rfl d_X_read_81 ⟨rfl, ?_⟩), fun h => hK _ (ct_Wp.ret (some (.int _)) rfl d_X_read_81 ⟨rfl, ?_⟩)⟩
  · rw [x_fin, m_gd, if_neg (fun z => h (hz.mpr z))]
  · rw [x_fin, m_gd, if_pos (hz.mp h)]
set_option maxHeartbeats 800000 in
set_option maxRecDepth 100000 in
theorem sp_X_read_31 (l : ct_Lx) (I : Nat → Nat → Int32) (L : Nat → Nat → Int64) (b : Bool) {Post : Option Value → ct_Sg → Prop} {ln : Nat} (hln : ln ≤ 4096) (h1 : I 10 1 = nI ln) {lu : Bool} (h6 : I 23 6 = if lu = true then 1 else 0) (hW : c_W I) (kk : ct_Wp l M_X_read 7 Post (31, [(0, .ref 10)], [], c_w (x_S2 I L ln), 0, 0)) : ct_Wp l M_X_read 7 Post (0, [(0, .ref 10)], [], c_g I L b, 0, 0) := by
  obtain ⟨a, ha, e5⟩ := wb_of32 (I 23 5)
  have hS1 := x_S1_G (L := L) (ln := ln) h6 hW
  refine ct_Wp.go (A_X_read l) (by decide) [] 60 (fun K hK => ?_)
  simp only [ct_run_s, ct_nx_s, ct_hp, ct_lg, ct_s1, ct_d1, ct_s2, ct_d2, lv_args, Value.category, ct_u2_get, Option.toList, List.cons_append, List.nil_append, Nat.reduceAdd, Nat.reduceSub, Nat.reduceMul, Nat.reduceEqDiff, Nat.reduceLeDiff, Nat.reduceLT, true_and, and_true, and_self, if_true, if_false, reduceCtorEq, Prod.mk.injEq, List.length_cons, List.length_nil, false_and, and_false, not_false_eq_true, not_true_eq_false, true_implies, false_implies, implies_true, Bool.false_eq_true, ite_true, ite_false, reduceIte, or_true, true_or, or_false, false_or, c_sh_10, c_sh_11, c_sh_12, c_sh_13, c_sh_14, c_sh_15, c_sh_16, c_sh_17, c_sh_18, c_sh_19, c_sh_20, c_sh_21, c_sh_22, c_sh_23, c_sh_24, c_sh_25, c_sh_26, c_sh_27, c_sh_28, c_sh_29, c_sh_30, c_sh_31, c_sh_32, c_sh_33, c_sh_34, c_sh_35, c_sh_36, c_sh_37, c_sh_38, c_sh_39, c_R_10_0, c_R_10_4, c_R_10_5, c_R_10_6, c_R_12_0, c_R_12_1, c_R_12_2, c_R_12_3, c_R_12_4, c_R_12_5, c_R_12_6, c_R_12_7, c_R_12_8, c_R_12_9, c_R_23_0, c_R_23_1, c_R_23_2, c_R_27_0, c_R_27_1, c_R_29_0, c_R_29_2, c_R_29_15, c_R_29_16, c_R_29_17, c_R_29_18, c_R_29_19, c_R_29_20, c_R_29_21, c_R_29_23, c_R_23_3, o_aload, o_getI, o_getR, o_goto, o_i1, o_if, o_push, o_putI, o_putZ, e_X_read_0, e_X_read_1, e_X_read_4, e_X_read_5, e_X_read_8, e_X_read_9, z_X_read_12, h1, c_cl_0, c_cl_1, c_cl_2, c_cl_3, c_cl_4, c_cl_5, c_cl_6, c_cl_7, c_in7_0, c_in7_1, c_in7_2, c_in7_3, c_in7_4, c_in7_5, c_in7_6, c_sc_5, c_sc_7, c_sc_8, c_sc_4, c_sc_6, c_sc_ne]
  refine hK _ (cl_X_read_12 rfl (sp_R_begin l I L b (nI ln)) (by decide) (Nat.le_of_ble_eq_true rfl) (Nat.le_refl _) (Nat.le_refl _) ?_)
  rintro w g ⟨rfl, rfl⟩
  refine ct_Wp.go (A_X_read l) (by decide) [] 60 (fun K hK => ?_)
  simp only [ct_run_s, ct_nx_s, ct_hp, ct_lg, ct_s1, ct_d1, ct_s2, ct_d2, lv_args, Value.category, ct_u2_get, Option.toList, List.cons_append, List.nil_append, Nat.reduceAdd, Nat.reduceSub, Nat.reduceMul, Nat.reduceEqDiff, Nat.reduceLeDiff, Nat.reduceLT, true_and, and_true, and_self, if_true, if_false, reduceCtorEq, Prod.mk.injEq, List.length_cons, List.length_nil, false_and, and_false, not_false_eq_true, not_true_eq_false, true_implies, false_implies, implies_true, Bool.false_eq_true, ite_true, ite_false, reduceIte, or_true, true_or, or_false, false_or, c_sh_10, c_sh_11, c_sh_12, c_sh_13, c_sh_14, c_sh_15, c_sh_16, c_sh_17, c_sh_18, c_sh_19, c_sh_20, c_sh_21, c_sh_22, c_sh_23, c_sh_24, c_sh_25, c_sh_26, c_sh_27, c_sh_28, c_sh_29, c_sh_30, c_sh_31, c_sh_32, c_sh_33, c_sh_34, c_sh_35, c_sh_36, c_sh_37, c_sh_38, c_sh_39, c_R_10_0, c_R_10_4, c_R_10_5, c_R_10_6, c_R_12_0, c_R_12_1, c_R_12_2, c_R_12_3, c_R_12_4, c_R_12_5, c_R_12_6, c_R_12_7, c_R_12_8, c_R_12_9, c_R_23_0, c_R_23_1, c_R_23_2, c_R_27_0, c_R_27_1, c_R_29_0, c_R_29_2, c_R_29_15, c_R_29_16, c_R_29_17, c_R_29_18, c_R_29_19, c_R_29_20, c_R_29_21, c_R_29_23, c_R_23_3, o_aload, o_getI, o_getR, o_goto, o_i1, o_if, o_push, o_putI, o_putZ, e_X_read_15, e_X_read_16, e_X_read_19, z_X_read_20, c_cl_0, c_cl_1, c_cl_2, c_cl_3, c_cl_4, c_cl_5, c_cl_6, c_cl_7, c_in7_0, c_in7_1, c_in7_2, c_in7_3, c_in7_4, c_in7_5, c_in7_6, c_sc_5, c_sc_7, c_sc_8, c_sc_4, c_sc_6, c_sc_ne]
  have eJ : c_g (ct_u2 (ct_u2 (ct_u2 I 23 4 (nI ln)) 23 7 0) 23 8 (nI ln)) L true = c_w ((a, 0, ln), x_J I ln, L) := by
    show c_g (x_J I ln) L true = c_g (c_sc (x_J I ln) (a, 0, ln)) L true
    rw [c_sc_self (J := x_J I ln) (c := (a, 0, ln)) e5 rfl rfl]
  rw [eJ]
  refine hK _ (cl_X_read_20 rfl (sp_R_walk2 l (lu := false) hln (a, 0, ln) (x_J I ln) L (x_J_E h6) (x_J_W hW) ⟨Nat.zero_le _, Nat.le_refl _⟩) (by decide) (Nat.le_of_ble_eq_true rfl) (Nat.le_refl _) (Nat.le_refl _) ?_)
  rintro w g ⟨rfl, rfl⟩
  have e1 : c_wk (c_B I) ln false ((a, 0, ln), x_J I ln, L) = x_S1 I L ln := by rw [c_wk, if_pos rfl]; rfl
  rw [e1]
  have e2 : c_wk (c_B I) ln true (x_S1 I L ln) = x_S2 I L ln := rfl
  generalize x_S1 I L ln = S at hS1 e2 ⊢
  refine ct_Wp.go (A_X_read l) (by decide) [] 60 (fun K hK => ?_)
  simp only [ct_run_s, ct_nx_s, ct_hp, ct_lg, ct_s1, ct_d1, ct_s2, ct_d2, lv_args, Value.category, ct_u2_get, Option.toList, List.cons_append, List.nil_append, Nat.reduceAdd, Nat.reduceSub, Nat.reduceMul, Nat.reduceEqDiff, Nat.reduceLeDiff, Nat.reduceLT, true_and, and_true, and_self, if_true, if_false, reduceCtorEq, Prod.mk.injEq, List.length_cons, List.length_nil, false_and, and_false, not_false_eq_true, not_true_eq_false, true_implies, false_implies, implies_true, Bool.false_eq_true, ite_true, ite_false, reduceIte, or_true, true_or, or_false, false_or, c_sh_10, c_sh_11, c_sh_12, c_sh_13, c_sh_14, c_sh_15, c_sh_16, c_sh_17, c_sh_18, c_sh_19, c_sh_20, c_sh_21, c_sh_22, c_sh_23, c_sh_24, c_sh_25, c_sh_26, c_sh_27, c_sh_28, c_sh_29, c_sh_30, c_sh_31, c_sh_32, c_sh_33, c_sh_34, c_sh_35, c_sh_36, c_sh_37, c_sh_38, c_sh_39, c_R_10_0, c_R_10_4, c_R_10_5, c_R_10_6, c_R_12_0, c_R_12_1, c_R_12_2, c_R_12_3, c_R_12_4, c_R_12_5, c_R_12_6, c_R_12_7, c_R_12_8, c_R_12_9, c_R_23_0, c_R_23_1, c_R_23_2, c_R_27_0, c_R_27_1, c_R_29_0, c_R_29_2, c_R_29_15, c_R_29_16, c_R_29_17, c_R_29_18, c_R_29_19, c_R_29_20, c_R_29_21, c_R_29_23, c_R_23_3, o_aload, o_getI, o_getR, o_goto, o_i1, o_if, o_push, o_putI, o_putZ, e_X_read_23, e_X_read_24, e_X_read_27, z_X_read_28, c_cl_0, c_cl_1, c_cl_2, c_cl_3, c_cl_4, c_cl_5, c_cl_6, c_cl_7, c_in7_0, c_in7_1, c_in7_2, c_in7_3, c_in7_4, c_in7_5, c_in7_6, c_sc_5, c_sc_7, c_sc_8, c_sc_4, c_sc_6, c_sc_ne]
  refine hK _ (cl_X_read_28 rfl (sp_R_walk l (lu := true) hln S hS1) (by decide) (Nat.le_of_ble_eq_true rfl) (Nat.le_refl _) (Nat.le_refl _) ?_)
  rintro w g ⟨rfl, rfl⟩
  rw [e2]
  exact kk
set_option maxHeartbeats 800000 in
set_option maxRecDepth 100000 in
theorem sp_X_read_bad (l : ct_Lx) (I : Nat → Nat → Int32) (L : Nat → Nat → Int64) (b : Bool) {ln : Nat} (hln : ln ≤ 4096) (h1 : I 10 1 = nI ln) {lu : Bool} (h6 : I 23 6 = if lu = true then 1 else 0) (hW : c_W I) {S : c_S} (hS : x_S2 I L ln = S) (hb : ¬ S.1.2.1 = 0) : ct_Me l M_X_read 7 0 0 [.ref 10] (c_g I L b) (fun v g => v = some (.int (-(nI S.1.2.1))) ∧ g = c_g (x_fin S.2.1 S.1) S.2.2 true) := by
  refine ct_Me.of (by decide) (Nat.le_of_ble_eq_true rfl) (fun v g h => by rw [h.1]; first | rfl | exact Or.inl rfl) ?_
  refine sp_X_read_31 l I L b hln h1 h6 hW ?_
  obtain ⟨lu2, hG⟩ := x_S2_G (L := L) (ln := ln) h6 hW
  rw [hS] at hG ⊢
  have h14 : S.1.2.1 ≤ 14 := hG.2.2.2.1
  have nz : ¬ c_sc S.2.1 S.1 23 7 = 0 := by
    rw [c_sc_7]; exact fun z => hb ((c_nI0 (by omega)).mp z)
  refine ct_Wp.go (A_X_read l) (by decide) [] 60 (fun K hK => ?_)
  simp only [ct_run_s, ct_nx_s, ct_hp, ct_lg, ct_s1, ct_d1, ct_s2, ct_d2, lv_args, Value.category, ct_u2_get, Option.toList, List.cons_append, List.nil_append, Nat.reduceAdd, Nat.reduceSub, Nat.reduceMul, Nat.reduceEqDiff, Nat.reduceLeDiff, Nat.reduceLT, true_and, and_true, and_self, if_true, if_false, reduceCtorEq, Prod.mk.injEq, List.length_cons, List.length_nil, false_and, and_false, not_false_eq_true, not_true_eq_false, true_implies, false_implies, implies_true, Bool.false_eq_true, ite_true, ite_false, reduceIte, or_true, true_or, or_false, false_or, c_sh_10, c_sh_11, c_sh_12, c_sh_13, c_sh_14, c_sh_15, c_sh_16, c_sh_17, c_sh_18, c_sh_19, c_sh_20, c_sh_21, c_sh_22, c_sh_23, c_sh_24, c_sh_25, c_sh_26, c_sh_27, c_sh_28, c_sh_29, c_sh_30, c_sh_31, c_sh_32, c_sh_33, c_sh_34, c_sh_35, c_sh_36, c_sh_37, c_sh_38, c_sh_39, c_R_10_0, c_R_10_4, c_R_10_5, c_R_10_6, c_R_12_0, c_R_12_1, c_R_12_2, c_R_12_3, c_R_12_4, c_R_12_5, c_R_12_6, c_R_12_7, c_R_12_8, c_R_12_9, c_R_23_0, c_R_23_1, c_R_23_2, c_R_27_0, c_R_27_1, c_R_29_0, c_R_29_2, c_R_29_15, c_R_29_16, c_R_29_17, c_R_29_18, c_R_29_19, c_R_29_20, c_R_29_21, c_R_29_23, c_R_23_3, o_aload, o_getI, o_getR, o_goto, o_i1, o_if, o_push, o_putI, o_putZ, e_X_read_31, e_X_read_32, z_X_read_35, c_cl_0, c_cl_1, c_cl_2, c_cl_3, c_cl_4, c_cl_5, c_cl_6, c_cl_7, c_in7_0, c_in7_1, c_in7_2, c_in7_3, c_in7_4, c_in7_5, c_in7_6, c_sc_5, c_sc_7, c_sc_8, c_sc_4, c_sc_6, c_sc_ne]
  refine hK _ (cl_X_read_35 rfl (sp_R_findCircle_bad l (c_sc S.2.1 S.1) S.2.2 true nz) (by decide) (Nat.le_of_ble_eq_true rfl) (Nat.le_refl _) (Nat.le_refl _) ?_)
  rintro w g ⟨rfl, rfl⟩
  exact sp_X_read_end l S.2.1 S.2.2 S.1 h14
set_option maxHeartbeats 800000 in
set_option maxRecDepth 100000 in
theorem sp_X_read_good (l : ct_Lx) (I : Nat → Nat → Int32) (L : Nat → Nat → Int64) (b : Bool) {ln : Nat} (hln : ln ≤ 4096) (h1 : I 10 1 = nI ln) {lu : Bool} (h6 : I 23 6 = if lu = true then 1 else 0) (hW : c_W I) {S : c_S} (hS : x_S2 I L ln = S) (hb : S.1.2.1 = 0) {n1 n2 : Nat} (k1 : S.2.1 13 1 = nI n1) (k2 : S.2.1 13 2 = nI n2) (b1 : n1 ≤ 32) (b2 : n2 ≤ 32) (hf : ∀ j, j < n1 + n2 → ∃ m, S.2.1 14 (j * 4 + 1) = nI m ∧ m ≤ 16 ∧ (n1 ≤ j → m = 0)) {m : Nat → Nat} {T : Nat → Nat → Nat} (hT : ∀ k, k < n1 → m k ≤ 16 ∧ c_sf S.2.1 (n1 + n2) (nI k) 1 = nI (m k) ∧ ∀ i, i < m k → c_ft S.2.1 S.2.2 (n1 + n2) (nI k) (nI i) = lN (T k i) ∧ T k i < 2 ^ 62) {ab : Nat → Nat} (hab : ∀ k, k < n1 → S.2.1 24 k = nI (ab k)) : ct_Me l M_X_read 7 0 0 [.ref 10] (c_g I L b) (fun v g => ∃ f c, (∀ k, k < n1 → f k = c_sb (T k) n1 (m k)) ∧ c_cc (c_vO n1 n1 0 f) ab n1 0 S.1 = c ∧ v = some (.int (-(nI c.2.1))) ∧ g = c_g (x_fin (c_25 S.2.1 (c_vO n1 n1 0 f)) c) S.2.2 true) := by
  refine ct_Me.of (by decide) (Nat.le_of_ble_eq_true rfl) (fun v g h => by obtain ⟨f, c, -, -, e, -⟩ := h; rw [e]; exact Or.inl rfl) ?_
  refine sp_X_read_31 l I L b hln h1 h6 hW ?_
  rw [hS]
  have cc : ∀ (f : Nat → Int32) (n k : Nat) (c : c_Cu), c.2.1 ≤ 14 → (c_cc f ab n k c).2.1 ≤ 14 := by
    intro f n
    induction n with
    | zero => intro k c h; exact h
    | succ n ih =>
      intro k c h
      rw [c_cc]
      refine ih (k + 1) _ ?_
      split
      · exact h
      · unfold c_fl; split
        · exact Nat.le_refl _
        · exact h
  refine ct_Wp.go (A_X_read l) (by decide) [] 60 (fun K hK => ?_)
  simp only [ct_run_s, ct_nx_s, ct_hp, ct_lg, ct_s1, ct_d1, ct_s2, ct_d2, lv_args, Value.category, ct_u2_get, Option.toList, List.cons_append, List.nil_append, Nat.reduceAdd, Nat.reduceSub, Nat.reduceMul, Nat.reduceEqDiff, Nat.reduceLeDiff, Nat.reduceLT, true_and, and_true, and_self, if_true, if_false, reduceCtorEq, Prod.mk.injEq, List.length_cons, List.length_nil, false_and, and_false, not_false_eq_true, not_true_eq_false, true_implies, false_implies, implies_true, Bool.false_eq_true, ite_true, ite_false, reduceIte, or_true, true_or, or_false, false_or, c_sh_10, c_sh_11, c_sh_12, c_sh_13, c_sh_14, c_sh_15, c_sh_16, c_sh_17, c_sh_18, c_sh_19, c_sh_20, c_sh_21, c_sh_22, c_sh_23, c_sh_24, c_sh_25, c_sh_26, c_sh_27, c_sh_28, c_sh_29, c_sh_30, c_sh_31, c_sh_32, c_sh_33, c_sh_34, c_sh_35, c_sh_36, c_sh_37, c_sh_38, c_sh_39, c_R_10_0, c_R_10_4, c_R_10_5, c_R_10_6, c_R_12_0, c_R_12_1, c_R_12_2, c_R_12_3, c_R_12_4, c_R_12_5, c_R_12_6, c_R_12_7, c_R_12_8, c_R_12_9, c_R_23_0, c_R_23_1, c_R_23_2, c_R_27_0, c_R_27_1, c_R_29_0, c_R_29_2, c_R_29_15, c_R_29_16, c_R_29_17, c_R_29_18, c_R_29_19, c_R_29_20, c_R_29_21, c_R_29_23, c_R_23_3, o_aload, o_getI, o_getR, o_goto, o_i1, o_if, o_push, o_putI, o_putZ, e_X_read_31, e_X_read_32, z_X_read_35, c_cl_0, c_cl_1, c_cl_2, c_cl_3, c_cl_4, c_cl_5, c_cl_6, c_cl_7, c_in7_0, c_in7_1, c_in7_2, c_in7_3, c_in7_4, c_in7_5, c_in7_6, c_sc_5, c_sc_7, c_sc_8, c_sc_4, c_sc_6, c_sc_ne]
  refine hK _ (cl_X_read_35 rfl (sp_R_findCircle l S.2.1 S.2.2 true k1 k2 b1 b2 hf hT hab S.1 hb) (by decide) (Nat.le_of_ble_eq_true rfl) (Nat.le_refl _) (Nat.le_refl _) ?_)
  rintro w g ⟨rfl, f, hff, rfl⟩
  have h14 := cc (c_vO n1 n1 0 f) n1 0 S.1 (by omega)
  generalize ec : c_cc (c_vO n1 n1 0 f) ab n1 0 S.1 = c at h14
  refine (sp_X_read_end l (c_25 S.2.1 (c_vO n1 n1 0 f)) S.2.2 c h14).mono ?_
  rintro v g ⟨rfl, rfl⟩
  exact ⟨f, c, hff, ec, rfl, rfl⟩
set_option maxHeartbeats 800000 in
set_option maxRecDepth 100000 in
theorem sp_X_write_bad (l : ct_Lx) (I : Nat → Nat → Int32) (L : Nat → Nat → Int64) (b : Bool) (h : I 10 3 = 0) : ct_Me l M_X_write 7 0 0 [.ref 10] (c_g I L b) (fun v g => v = some (.int (-1)) ∧ g = c_g I L b) := by
  refine ct_Me.of (by decide) (Nat.le_of_ble_eq_true rfl) (fun v g h => by rw [h.1]; first | rfl | exact Or.inl rfl) ?_
  have e00 : ((0 : Int32) = 0) = True := by decide
  refine ct_Wp.go (A_X_write l) (by decide) [] 60 (fun K hK => ?_)
  simp only [ct_run_s, ct_nx_s, ct_hp, ct_lg, ct_s1, ct_d1, ct_s2, ct_d2, lv_args, Value.category, ct_u2_get, Option.toList, List.cons_append, List.nil_append, Nat.reduceAdd, Nat.reduceSub, Nat.reduceMul, Nat.reduceEqDiff, Nat.reduceLeDiff, Nat.reduceLT, true_and, and_true, and_self, if_true, if_false, reduceCtorEq, Prod.mk.injEq, List.length_cons, List.length_nil, false_and, and_false, not_false_eq_true, not_true_eq_false, true_implies, false_implies, implies_true, Bool.false_eq_true, ite_true, ite_false, reduceIte, or_true, true_or, or_false, false_or, c_sh_10, c_sh_11, c_sh_12, c_sh_13, c_sh_14, c_sh_15, c_sh_16, c_sh_17, c_sh_18, c_sh_19, c_sh_20, c_sh_21, c_sh_22, c_sh_23, c_sh_24, c_sh_25, c_sh_26, c_sh_27, c_sh_28, c_sh_29, c_sh_30, c_sh_31, c_sh_32, c_sh_33, c_sh_34, c_sh_35, c_sh_36, c_sh_37, c_sh_38, c_sh_39, c_R_10_0, c_R_10_4, c_R_10_5, c_R_10_6, c_R_12_0, c_R_12_1, c_R_12_2, c_R_12_3, c_R_12_4, c_R_12_5, c_R_12_6, c_R_12_7, c_R_12_8, c_R_12_9, c_R_23_0, c_R_23_1, c_R_23_2, c_R_27_0, c_R_27_1, c_R_29_0, c_R_29_2, c_R_29_15, c_R_29_16, c_R_29_17, c_R_29_18, c_R_29_19, c_R_29_20, c_R_29_21, c_R_29_23, c_R_23_3, o_aload, o_getI, o_getR, o_if, o_push, e_X_write_0, e_X_write_1, e_X_write_4, e_X_write_7, e_X_write_9, e_X_write_10, e_X_write_16, e_X_write_17, e_X_write_20, z_X_write_8, z_X_write_13, z_X_write_23, h, e00, c_cl_0, c_cl_1, c_cl_2, c_cl_3, c_cl_4, c_cl_5, c_cl_6, c_cl_7, c_in7_0, c_in7_1, c_in7_2, c_in7_3, c_in7_4, c_in7_5, c_in7_6, c_sc_5, c_sc_7, c_sc_8, c_sc_4, c_sc_6, c_sc_ne]
  exact hK _ (ct_Wp.ret (some (.int _)) rfl d_X_write_8 ⟨rfl, rfl⟩)
set_option maxHeartbeats 800000 in
set_option maxRecDepth 100000 in
theorem sp_X_write (l : ct_Lx) (I : Nat → Nat → Int32) (L : Nat → Nat → Int64) (b : Bool) (h : I 10 3 = 1) {out : List Nat} (hp : ct_Me l M_W_putModule 6 0 0 [.ref 27] (c_g I L b) (fun w0 g => w0 = none ∧ ∃ I', g = c_g I' L b ∧ c_WR I I' out)) : ct_Me l M_X_write 7 0 0 [.ref 10] (c_g I L b) (fun v g => v = some (.int (nI out.length)) ∧ ∃ I', g = c_g I' L b ∧ c_WR I I' out) := by
  refine ct_Me.of (by decide) (Nat.le_of_ble_eq_true rfl) (fun v g h => by rw [h.1]; first | rfl | exact Or.inl rfl) ?_
  have e10 : ((1 : Int32) = 0) = False := by decide
  refine ct_Wp.go (A_X_write l) (by decide) [] 60 (fun K hK => ?_)
  simp only [ct_run_s, ct_nx_s, ct_hp, ct_lg, ct_s1, ct_d1, ct_s2, ct_d2, lv_args, Value.category, ct_u2_get, Option.toList, List.cons_append, List.nil_append, Nat.reduceAdd, Nat.reduceSub, Nat.reduceMul, Nat.reduceEqDiff, Nat.reduceLeDiff, Nat.reduceLT, true_and, and_true, and_self, if_true, if_false, reduceCtorEq, Prod.mk.injEq, List.length_cons, List.length_nil, false_and, and_false, not_false_eq_true, not_true_eq_false, true_implies, false_implies, implies_true, Bool.false_eq_true, ite_true, ite_false, reduceIte, or_true, true_or, or_false, false_or, c_sh_10, c_sh_11, c_sh_12, c_sh_13, c_sh_14, c_sh_15, c_sh_16, c_sh_17, c_sh_18, c_sh_19, c_sh_20, c_sh_21, c_sh_22, c_sh_23, c_sh_24, c_sh_25, c_sh_26, c_sh_27, c_sh_28, c_sh_29, c_sh_30, c_sh_31, c_sh_32, c_sh_33, c_sh_34, c_sh_35, c_sh_36, c_sh_37, c_sh_38, c_sh_39, c_R_10_0, c_R_10_4, c_R_10_5, c_R_10_6, c_R_12_0, c_R_12_1, c_R_12_2, c_R_12_3, c_R_12_4, c_R_12_5, c_R_12_6, c_R_12_7, c_R_12_8, c_R_12_9, c_R_23_0, c_R_23_1, c_R_23_2, c_R_27_0, c_R_27_1, c_R_29_0, c_R_29_2, c_R_29_15, c_R_29_16, c_R_29_17, c_R_29_18, c_R_29_19, c_R_29_20, c_R_29_21, c_R_29_23, c_R_23_3, o_aload, o_getI, o_getR, o_if, o_push, e_X_write_0, e_X_write_1, e_X_write_4, e_X_write_7, e_X_write_9, e_X_write_10, e_X_write_16, e_X_write_17, e_X_write_20, z_X_write_8, z_X_write_13, z_X_write_23, h, e10, c_cl_0, c_cl_1, c_cl_2, c_cl_3, c_cl_4, c_cl_5, c_cl_6, c_cl_7, c_in7_0, c_in7_1, c_in7_2, c_in7_3, c_in7_4, c_in7_5, c_in7_6, c_sc_5, c_sc_7, c_sc_8, c_sc_4, c_sc_6, c_sc_ne]
  refine hK _ (cl_X_write_13 rfl hp (by decide) (Nat.le_of_ble_eq_true rfl) (Nat.le_refl _) (Nat.le_refl _) ?_)
  rintro w g ⟨rfl, I2, rfl, w2⟩
  have h2 := w2.2.1
  refine ct_Wp.go (A_X_write l) (by decide) [] 60 (fun K hK => ?_)
  simp only [ct_run_s, ct_nx_s, ct_hp, ct_lg, ct_s1, ct_d1, ct_s2, ct_d2, lv_args, Value.category, ct_u2_get, Option.toList, List.cons_append, List.nil_append, Nat.reduceAdd, Nat.reduceSub, Nat.reduceMul, Nat.reduceEqDiff, Nat.reduceLeDiff, Nat.reduceLT, true_and, and_true, and_self, if_true, if_false, reduceCtorEq, Prod.mk.injEq, List.length_cons, List.length_nil, false_and, and_false, not_false_eq_true, not_true_eq_false, true_implies, false_implies, implies_true, Bool.false_eq_true, ite_true, ite_false, reduceIte, or_true, true_or, or_false, false_or, c_sh_10, c_sh_11, c_sh_12, c_sh_13, c_sh_14, c_sh_15, c_sh_16, c_sh_17, c_sh_18, c_sh_19, c_sh_20, c_sh_21, c_sh_22, c_sh_23, c_sh_24, c_sh_25, c_sh_26, c_sh_27, c_sh_28, c_sh_29, c_sh_30, c_sh_31, c_sh_32, c_sh_33, c_sh_34, c_sh_35, c_sh_36, c_sh_37, c_sh_38, c_sh_39, c_R_10_0, c_R_10_4, c_R_10_5, c_R_10_6, c_R_12_0, c_R_12_1, c_R_12_2, c_R_12_3, c_R_12_4, c_R_12_5, c_R_12_6, c_R_12_7, c_R_12_8, c_R_12_9, c_R_23_0, c_R_23_1, c_R_23_2, c_R_27_0, c_R_27_1, c_R_29_0, c_R_29_2, c_R_29_15, c_R_29_16, c_R_29_17, c_R_29_18, c_R_29_19, c_R_29_20, c_R_29_21, c_R_29_23, c_R_23_3, o_aload, o_getI, o_getR, o_if, o_push, e_X_write_0, e_X_write_1, e_X_write_4, e_X_write_7, e_X_write_9, e_X_write_10, e_X_write_16, e_X_write_17, e_X_write_20, z_X_write_8, z_X_write_13, z_X_write_23, h2, c_cl_0, c_cl_1, c_cl_2, c_cl_3, c_cl_4, c_cl_5, c_cl_6, c_cl_7, c_in7_0, c_in7_1, c_in7_2, c_in7_3, c_in7_4, c_in7_5, c_in7_6, c_sc_5, c_sc_7, c_sc_8, c_sc_4, c_sc_6, c_sc_ne]
  exact hK _ (ct_Wp.ret (some (.int _)) rfl d_X_write_23 ⟨rfl, I2, rfl, w2⟩)
