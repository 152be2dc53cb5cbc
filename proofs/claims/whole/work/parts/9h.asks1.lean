set_option maxHeartbeats 800000 in
set_option maxRecDepth 100000 in
theorem sp_M_structure_nm (l : ct_Lx) (I : Nat → Nat → Int32) (L : Nat → Nat → Int64) (b : Bool) (k w : Int32) (h : I 29 4 = 0) : ct_Me l M_M_structure 3 0 0 [.ref 29, .int k, .int w] (c_g I L b) (fun v g => v = some (.int (-1)) ∧ g = c_g I L b) := by
  have e00 : ((0 : Int32) = 0) = True := by decide
  refine ct_Me.of (by decide) (Nat.le_of_ble_eq_true rfl) (fun v g h => by rw [h.1]; first | rfl | exact Or.inl rfl) ?_
  refine ct_Wp.go (A_M_structure l) (by decide) [35] 80 (fun K hK => ?_)
  simp only [ct_run_s, ct_nx_s, ct_hp, ct_lg, ct_s1, ct_d1, ct_s2, ct_d2, lv_args, Value.category, ct_u2_get, Option.toList, List.cons_append, List.nil_append, Nat.reduceAdd, Nat.reduceSub, Nat.reduceMul, Nat.reduceEqDiff, Nat.reduceLeDiff, Nat.reduceLT, true_and, and_true, and_self, if_true, if_false, reduceCtorEq, Prod.mk.injEq, List.length_cons, List.length_nil, false_and, and_false, not_false_eq_true, not_true_eq_false, true_implies, false_implies, implies_true, Bool.false_eq_true, ite_true, ite_false, reduceIte, or_true, true_or, or_false, false_or, c_sh_10, c_sh_11, c_sh_12, c_sh_13, c_sh_14, c_sh_15, c_sh_16, c_sh_17, c_sh_18, c_sh_19, c_sh_20, c_sh_21, c_sh_22, c_sh_23, c_sh_24, c_sh_25, c_sh_26, c_sh_27, c_sh_28, c_sh_29, c_sh_30, c_sh_31, c_sh_32, c_sh_33, c_sh_34, c_sh_35, c_sh_36, c_sh_37, c_sh_38, c_sh_39, c_R_10_0, c_R_10_4, c_R_10_5, c_R_10_6, c_R_12_0, c_R_12_1, c_R_12_2, c_R_12_3, c_R_12_4, c_R_12_5, c_R_12_6, c_R_12_7, c_R_12_8, c_R_12_9, c_R_23_0, c_R_23_1, c_R_23_2, c_R_27_0, c_R_27_1, c_R_29_0, c_R_29_2, c_R_29_15, c_R_29_16, c_R_29_17, c_R_29_18, c_R_29_19, c_R_29_20, c_R_29_21, c_R_29_23, c_R_23_3, o_aload, o_getI, o_getR, o_goto, o_iald, o_ic, o_if, o_ii, o_iload, o_istore, o_push, e_M_structure_0, e_M_structure_1, e_M_structure_4, e_M_structure_7, e_M_structure_8, e_M_structure_11, e_M_structure_12, e_M_structure_13, e_M_structure_16, e_M_structure_17, e_M_structure_20, e_M_structure_21, e_M_structure_24, e_M_structure_25, e_M_structure_28, e_M_structure_29, e_M_structure_30, e_M_structure_33, e_M_structure_35, e_M_structure_36, e_M_structure_39, e_M_structure_40, e_M_structure_41, e_M_structure_42, e_M_structure_43, e_M_structure_44, e_M_structure_47, e_M_structure_50, e_M_structure_51, e_M_structure_54, e_M_structure_55, e_M_structure_59, e_M_structure_62, e_M_structure_63, e_M_structure_64, e_M_structure_67, e_M_structure_68, e_M_structure_69, e_M_structure_70, e_M_structure_74, e_M_structure_77, e_M_structure_79, e_M_structure_80, e_M_structure_83, e_M_structure_84, e_M_structure_85, e_M_structure_86, e_M_structure_90, e_M_structure_93, e_M_structure_94, e_M_structure_95, e_M_structure_98, e_M_structure_99, e_M_structure_102, e_M_structure_103, e_M_structure_104, e_M_structure_107, e_M_structure_108, e_M_structure_112, e_M_structure_115, e_M_structure_116, e_M_structure_117, e_M_structure_118, z_M_structure_34, z_M_structure_56, z_M_structure_71, z_M_structure_78, z_M_structure_87, z_M_structure_109, z_M_structure_119, z_M_structure_122, d_sc_5, d_sc_6, d_sc_7, d_sc_1, d_sc_3, d_sc_4, d_sc_8, d_sc_9, d_sc_10, d_sc_11, d_sc_12, d_sc_13, d_sc_14, d_sc_22, d_sc_ne, m_gd_0, Decidable.not_not, h, e00]
  exact hK _ (ct_Wp.ret (some (.int _)) rfl d_M_structure_34 ⟨rfl, rfl⟩)
set_option maxHeartbeats 800000 in
set_option maxRecDepth 100000 in
theorem sp_M_field_nm (l : ct_Lx) (I : Nat → Nat → Int32) (L : Nat → Nat → Int64) (b : Bool) (k i : Int32) (h : I 29 4 = 0) : ct_Me l M_M_field 4 0 0 [.ref 29, .int k, .int i] (c_g I L b) (fun v g => v = some (.long 0) ∧ g = c_g I L b) := by
  have e00 : ((0 : Int32) = 0) = True := by decide
  refine ct_Me.of (by decide) (Nat.le_of_ble_eq_true rfl) (fun v g h => by rw [h.1]; first | rfl | exact Or.inl rfl) ?_
  refine ct_Wp.go (A_M_field l) (by decide) [46] 80 (fun K hK => ?_)
  simp only [ct_run_s, ct_nx_s, ct_hp, ct_lg, ct_s1, ct_d1, ct_s2, ct_d2, lv_args, Value.category, ct_u2_get, Option.toList, List.cons_append, List.nil_append, Nat.reduceAdd, Nat.reduceSub, Nat.reduceMul, Nat.reduceEqDiff, Nat.reduceLeDiff, Nat.reduceLT, true_and, and_true, and_self, if_true, if_false, reduceCtorEq, Prod.mk.injEq, List.length_cons, List.length_nil, false_and, and_false, not_false_eq_true, not_true_eq_false, true_implies, false_implies, implies_true, Bool.false_eq_true, ite_true, ite_false, reduceIte, or_true, true_or, or_false, false_or, c_sh_10, c_sh_11, c_sh_12, c_sh_13, c_sh_14, c_sh_15, c_sh_16, c_sh_17, c_sh_18, c_sh_19, c_sh_20, c_sh_21, c_sh_22, c_sh_23, c_sh_24, c_sh_25, c_sh_26, c_sh_27, c_sh_28, c_sh_29, c_sh_30, c_sh_31, c_sh_32, c_sh_33, c_sh_34, c_sh_35, c_sh_36, c_sh_37, c_sh_38, c_sh_39, c_R_10_0, c_R_10_4, c_R_10_5, c_R_10_6, c_R_12_0, c_R_12_1, c_R_12_2, c_R_12_3, c_R_12_4, c_R_12_5, c_R_12_6, c_R_12_7, c_R_12_8, c_R_12_9, c_R_23_0, c_R_23_1, c_R_23_2, c_R_27_0, c_R_27_1, c_R_29_0, c_R_29_2, c_R_29_15, c_R_29_16, c_R_29_17, c_R_29_18, c_R_29_19, c_R_29_20, c_R_29_21, c_R_29_23, c_R_23_3, o_aload, o_getI, o_getR, o_goto, o_iald, o_ic, o_if, o_ii, o_iinc, o_iload, o_istore, o_push, e_M_field_0, e_M_field_1, e_M_field_4, e_M_field_7, e_M_field_8, e_M_field_11, e_M_field_12, e_M_field_13, e_M_field_16, e_M_field_19, e_M_field_20, e_M_field_23, e_M_field_24, e_M_field_25, e_M_field_29, e_M_field_32, e_M_field_34, e_M_field_35, e_M_field_38, e_M_field_39, e_M_field_40, e_M_field_41, e_M_field_42, e_M_field_43, e_M_field_44, e_M_field_46, e_M_field_48, e_M_field_49, e_M_field_52, e_M_field_53, e_M_field_57, e_M_field_58, e_M_field_61, e_M_field_64, e_M_field_65, z_M_field_26, z_M_field_33, z_M_field_54, z_M_field_66, z_M_field_69, d_sc_5, d_sc_6, d_sc_7, d_sc_1, d_sc_3, d_sc_4, d_sc_8, d_sc_9, d_sc_10, d_sc_11, d_sc_12, d_sc_13, d_sc_14, d_sc_22, d_sc_ne, m_gd_0, Decidable.not_not, h, e00]
  exact hK _ (ct_Wp.ret (some (.long _)) rfl d_M_field_33 ⟨rfl, rfl⟩)
set_option maxHeartbeats 800000 in
set_option maxRecDepth 100000 in
theorem sp_M_isFunction_nm (l : ct_Lx) (I : Nat → Nat → Int32) (L : Nat → Nat → Int64) (b : Bool) (f : Int32) (h : I 29 4 = 0) : ct_Me l M_M_isFunction 1 0 0 [.ref 29, .int f] (c_g I L b) (fun v g => v = some (.int 0) ∧ g = c_g I L b) := by
  have e00 : ((0 : Int32) = 0) = True := by decide
  refine ct_Me.of (by decide) (Nat.le_of_ble_eq_true rfl) (fun v g h => by rw [h.1]; exact Or.inr ⟨rfl, Or.inl rfl⟩) ?_
  refine ct_Wp.go (A_M_isFunction l) (by decide) [] 80 (fun K hK => ?_)
  simp only [ct_run_s, ct_nx_s, ct_hp, ct_lg, ct_s1, ct_d1, ct_s2, ct_d2, lv_args, Value.category, ct_u2_get, Option.toList, List.cons_append, List.nil_append, Nat.reduceAdd, Nat.reduceSub, Nat.reduceMul, Nat.reduceEqDiff, Nat.reduceLeDiff, Nat.reduceLT, true_and, and_true, and_self, if_true, if_false, reduceCtorEq, Prod.mk.injEq, List.length_cons, List.length_nil, false_and, and_false, not_false_eq_true, not_true_eq_false, true_implies, false_implies, implies_true, Bool.false_eq_true, ite_true, ite_false, reduceIte, or_true, true_or, or_false, false_or, c_sh_10, c_sh_11, c_sh_12, c_sh_13, c_sh_14, c_sh_15, c_sh_16, c_sh_17, c_sh_18, c_sh_19, c_sh_20, c_sh_21, c_sh_22, c_sh_23, c_sh_24, c_sh_25, c_sh_26, c_sh_27, c_sh_28, c_sh_29, c_sh_30, c_sh_31, c_sh_32, c_sh_33, c_sh_34, c_sh_35, c_sh_36, c_sh_37, c_sh_38, c_sh_39, c_R_10_0, c_R_10_4, c_R_10_5, c_R_10_6, c_R_12_0, c_R_12_1, c_R_12_2, c_R_12_3, c_R_12_4, c_R_12_5, c_R_12_6, c_R_12_7, c_R_12_8, c_R_12_9, c_R_23_0, c_R_23_1, c_R_23_2, c_R_27_0, c_R_27_1, c_R_29_0, c_R_29_2, c_R_29_15, c_R_29_16, c_R_29_17, c_R_29_18, c_R_29_19, c_R_29_20, c_R_29_21, c_R_29_23, c_R_23_3, o_aload, o_getI, o_goto, o_ic, o_if, o_ii, o_iload, o_push, e_M_isFunction_0, e_M_isFunction_1, e_M_isFunction_4, e_M_isFunction_7, e_M_isFunction_8, e_M_isFunction_11, e_M_isFunction_12, e_M_isFunction_13, e_M_isFunction_16, e_M_isFunction_17, e_M_isFunction_20, e_M_isFunction_21, e_M_isFunction_24, e_M_isFunction_25, e_M_isFunction_28, z_M_isFunction_29, d_sc_5, d_sc_6, d_sc_7, d_sc_1, d_sc_3, d_sc_4, d_sc_8, d_sc_9, d_sc_10, d_sc_11, d_sc_12, d_sc_13, d_sc_14, d_sc_22, d_sc_ne, m_gd_0, Decidable.not_not, h, e00]
  exact hK _ (ct_Wp.ret (some (.int _)) rfl d_M_isFunction_29 ⟨rfl, rfl⟩)
set_option maxHeartbeats 800000 in
set_option maxRecDepth 100000 in
theorem sp_M_element_nm (l : ct_Lx) (I : Nat → Nat → Int32) (L : Nat → Nat → Int64) (b : Bool) (k : Int32) (h : I 29 4 = 0) : ct_Me l M_M_element 4 0 0 [.ref 29, .int k] (c_g I L b) (fun v g => v = some (.long 0) ∧ g = c_g I L b) := by
  have e00 : ((0 : Int32) = 0) = True := by decide
  refine ct_Me.of (by decide) (Nat.le_of_ble_eq_true rfl) (fun v g h => by rw [h.1]; first | rfl | exact Or.inl rfl) ?_
  refine ct_Wp.go (A_M_element l) (by decide) [] 80 (fun K hK => ?_)
  simp only [ct_run_s, ct_nx_s, ct_hp, ct_lg, ct_s1, ct_d1, ct_s2, ct_d2, lv_args, Value.category, ct_u2_get, Option.toList, List.cons_append, List.nil_append, Nat.reduceAdd, Nat.reduceSub, Nat.reduceMul, Nat.reduceEqDiff, Nat.reduceLeDiff, Nat.reduceLT, true_and, and_true, and_self, if_true, if_false, reduceCtorEq, Prod.mk.injEq, List.length_cons, List.length_nil, false_and, and_false, not_false_eq_true, not_true_eq_false, true_implies, false_implies, implies_true, Bool.false_eq_true, ite_true, ite_false, reduceIte, or_true, true_or, or_false, false_or, c_sh_10, c_sh_11, c_sh_12, c_sh_13, c_sh_14, c_sh_15, c_sh_16, c_sh_17, c_sh_18, c_sh_19, c_sh_20, c_sh_21, c_sh_22, c_sh_23, c_sh_24, c_sh_25, c_sh_26, c_sh_27, c_sh_28, c_sh_29, c_sh_30, c_sh_31, c_sh_32, c_sh_33, c_sh_34, c_sh_35, c_sh_36, c_sh_37, c_sh_38, c_sh_39, c_R_10_0, c_R_10_4, c_R_10_5, c_R_10_6, c_R_12_0, c_R_12_1, c_R_12_2, c_R_12_3, c_R_12_4, c_R_12_5, c_R_12_6, c_R_12_7, c_R_12_8, c_R_12_9, c_R_23_0, c_R_23_1, c_R_23_2, c_R_27_0, c_R_27_1, c_R_29_0, c_R_29_2, c_R_29_15, c_R_29_16, c_R_29_17, c_R_29_18, c_R_29_19, c_R_29_20, c_R_29_21, c_R_29_23, c_R_23_3, o_aload, o_getI, o_getR, o_goto, o_iald, o_ic, o_if, o_iload, o_push, e_M_element_0, e_M_element_1, e_M_element_4, e_M_element_7, e_M_element_8, e_M_element_11, e_M_element_12, e_M_element_13, e_M_element_16, e_M_element_19, e_M_element_20, e_M_element_21, e_M_element_24, e_M_element_25, e_M_element_29, e_M_element_32, z_M_element_26, z_M_element_33, d_sc_5, d_sc_6, d_sc_7, d_sc_1, d_sc_3, d_sc_4, d_sc_8, d_sc_9, d_sc_10, d_sc_11, d_sc_12, d_sc_13, d_sc_14, d_sc_22, d_sc_ne, m_gd_0, Decidable.not_not, h, e00]
  exact hK _ (ct_Wp.ret (some (.long _)) rfl d_M_element_33 ⟨rfl, rfl⟩)
set_option maxHeartbeats 800000 in
set_option maxRecDepth 100000 in
theorem sp_M_instruction_nm (l : ct_Lx) (I : Nat → Nat → Int32) (L : Nat → Nat → Int64) (b : Bool) (f i : Int32) (h : I 29 4 = 0) : ct_Me l M_M_instruction 1 0 0 [.ref 29, .int f, .int i] (c_g I L b) (fun v g => v = some (.int (-1)) ∧ g = c_g I L b) := by
  have e00 : ((0 : Int32) = 0) = True := by decide
  refine ct_Me.of (by decide) (Nat.le_of_ble_eq_true rfl) (fun v g h => by rw [h.1]; first | rfl | exact Or.inl rfl) ?_
  refine ct_Wp.go (A_M_instruction l) (by decide) [] 80 (fun K hK => ?_)
  simp only [ct_run_s, ct_nx_s, ct_hp, ct_lg, ct_s1, ct_d1, ct_s2, ct_d2, lv_args, Value.category, ct_u2_get, Option.toList, List.cons_append, List.nil_append, Nat.reduceAdd, Nat.reduceSub, Nat.reduceMul, Nat.reduceEqDiff, Nat.reduceLeDiff, Nat.reduceLT, true_and, and_true, and_self, if_true, if_false, reduceCtorEq, Prod.mk.injEq, List.length_cons, List.length_nil, false_and, and_false, not_false_eq_true, not_true_eq_false, true_implies, false_implies, implies_true, Bool.false_eq_true, ite_true, ite_false, reduceIte, or_true, true_or, or_false, false_or, c_sh_10, c_sh_11, c_sh_12, c_sh_13, c_sh_14, c_sh_15, c_sh_16, c_sh_17, c_sh_18, c_sh_19, c_sh_20, c_sh_21, c_sh_22, c_sh_23, c_sh_24, c_sh_25, c_sh_26, c_sh_27, c_sh_28, c_sh_29, c_sh_30, c_sh_31, c_sh_32, c_sh_33, c_sh_34, c_sh_35, c_sh_36, c_sh_37, c_sh_38, c_sh_39, c_R_10_0, c_R_10_4, c_R_10_5, c_R_10_6, c_R_12_0, c_R_12_1, c_R_12_2, c_R_12_3, c_R_12_4, c_R_12_5, c_R_12_6, c_R_12_7, c_R_12_8, c_R_12_9, c_R_23_0, c_R_23_1, c_R_23_2, c_R_27_0, c_R_27_1, c_R_29_0, c_R_29_2, c_R_29_15, c_R_29_16, c_R_29_17, c_R_29_18, c_R_29_19, c_R_29_20, c_R_29_21, c_R_29_23, c_R_23_3, o_aload, o_getI, o_getR, o_goto, o_iald, o_ic, o_if, o_ii, o_iload, o_istore, o_push, e_M_instruction_0, e_M_instruction_1, e_M_instruction_4, e_M_instruction_7, e_M_instruction_8, e_M_instruction_11, e_M_instruction_12, e_M_instruction_13, e_M_instruction_16, e_M_instruction_19, e_M_instruction_20, e_M_instruction_23, e_M_instruction_24, e_M_instruction_25, e_M_instruction_28, e_M_instruction_29, e_M_instruction_30, e_M_instruction_31, e_M_instruction_32, e_M_instruction_33, e_M_instruction_36, e_M_instruction_37, e_M_instruction_38, e_M_instruction_39, e_M_instruction_42, e_M_instruction_43, e_M_instruction_46, e_M_instruction_47, e_M_instruction_48, e_M_instruction_49, e_M_instruction_52, e_M_instruction_53, e_M_instruction_56, e_M_instruction_57, e_M_instruction_60, e_M_instruction_61, e_M_instruction_62, e_M_instruction_63, e_M_instruction_64, e_M_instruction_65, e_M_instruction_68, z_M_instruction_69, d_sc_5, d_sc_6, d_sc_7, d_sc_1, d_sc_3, d_sc_4, d_sc_8, d_sc_9, d_sc_10, d_sc_11, d_sc_12, d_sc_13, d_sc_14, d_sc_22, d_sc_ne, m_gd_0, Decidable.not_not, h, e00]
  exact hK _ (ct_Wp.ret (some (.int _)) rfl d_M_instruction_69 ⟨rfl, rfl⟩)
set_option maxHeartbeats 800000 in
set_option maxRecDepth 100000 in
theorem sp_M_function_nm (l : ct_Lx) (I : Nat → Nat → Int32) (L : Nat → Nat → Int64) (b : Bool) (f w : Int32) (h : I 29 4 = 0) : ct_Me l M_M_function 6 0 0 [.ref 29, .int f, .int w] (c_g I L b) (fun v g => v = some (.int (-1)) ∧ g = c_g I L b) := by
  refine ct_Me.of (by decide) (Nat.le_of_ble_eq_true rfl) (fun v g h => by rw [h.1]; first | rfl | exact Or.inl rfl) ?_
  refine ct_Wp.go (A_M_function l) (by decide) [] 80 (fun K hK => ?_)
  simp only [ct_run_s, ct_nx_s, ct_hp, ct_lg, ct_s1, ct_d1, ct_s2, ct_d2, lv_args, Value.category, ct_u2_get, Option.toList, List.cons_append, List.nil_append, Nat.reduceAdd, Nat.reduceSub, Nat.reduceMul, Nat.reduceEqDiff, Nat.reduceLeDiff, Nat.reduceLT, true_and, and_true, and_self, if_true, if_false, reduceCtorEq, Prod.mk.injEq, List.length_cons, List.length_nil, false_and, and_false, not_false_eq_true, not_true_eq_false, true_implies, false_implies, implies_true, Bool.false_eq_true, ite_true, ite_false, reduceIte, or_true, true_or, or_false, false_or, c_sh_10, c_sh_11, c_sh_12, c_sh_13, c_sh_14, c_sh_15, c_sh_16, c_sh_17, c_sh_18, c_sh_19, c_sh_20, c_sh_21, c_sh_22, c_sh_23, c_sh_24, c_sh_25, c_sh_26, c_sh_27, c_sh_28, c_sh_29, c_sh_30, c_sh_31, c_sh_32, c_sh_33, c_sh_34, c_sh_35, c_sh_36, c_sh_37, c_sh_38, c_sh_39, c_R_10_0, c_R_10_4, c_R_10_5, c_R_10_6, c_R_12_0, c_R_12_1, c_R_12_2, c_R_12_3, c_R_12_4, c_R_12_5, c_R_12_6, c_R_12_7, c_R_12_8, c_R_12_9, c_R_23_0, c_R_23_1, c_R_23_2, c_R_27_0, c_R_27_1, c_R_29_0, c_R_29_2, c_R_29_15, c_R_29_16, c_R_29_17, c_R_29_18, c_R_29_19, c_R_29_20, c_R_29_21, c_R_29_23, c_R_23_3, o_aload, o_getI, o_getR, o_goto, o_iald, o_ic, o_if, o_ii, o_iload, o_istore, o_push, e_M_function_0, e_M_function_1, e_M_function_5, e_M_function_8, e_M_function_9, e_M_function_12, e_M_function_13, e_M_function_15, e_M_function_18, e_M_function_20, e_M_function_21, e_M_function_22, e_M_function_25, e_M_function_28, e_M_function_29, e_M_function_32, e_M_function_33, e_M_function_34, e_M_function_37, e_M_function_38, e_M_function_39, e_M_function_40, e_M_function_41, e_M_function_44, e_M_function_45, e_M_function_46, e_M_function_47, e_M_function_51, e_M_function_54, e_M_function_55, e_M_function_56, e_M_function_59, e_M_function_60, e_M_function_61, e_M_function_62, e_M_function_66, e_M_function_69, e_M_function_70, e_M_function_71, e_M_function_74, e_M_function_75, e_M_function_76, e_M_function_77, e_M_function_78, e_M_function_85, e_M_function_88, e_M_function_89, e_M_function_90, e_M_function_93, e_M_function_94, e_M_function_97, e_M_function_98, e_M_function_99, e_M_function_102, e_M_function_103, e_M_function_107, e_M_function_110, e_M_function_111, e_M_function_112, e_M_function_113, e_M_function_118, e_M_function_119, e_M_function_120, e_M_function_123, e_M_function_125, e_M_function_126, e_M_function_129, e_M_function_130, e_M_function_131, e_M_function_134, e_M_function_135, e_M_function_139, e_M_function_142, e_M_function_143, e_M_function_144, e_M_function_147, e_M_function_148, e_M_function_149, e_M_function_150, e_M_function_151, e_M_function_155, e_M_function_158, e_M_function_159, e_M_function_162, e_M_function_163, e_M_function_164, e_M_function_165, e_M_function_166, e_M_function_167, e_M_function_170, e_M_function_171, e_M_function_172, z_M_function_2, z_M_function_19, z_M_function_48, z_M_function_63, z_M_function_79, z_M_function_82, z_M_function_104, z_M_function_114, z_M_function_117, z_M_function_124, z_M_function_136, z_M_function_152, z_M_function_173, d_sc_5, d_sc_6, d_sc_7, d_sc_1, d_sc_3, d_sc_4, d_sc_8, d_sc_9, d_sc_10, d_sc_11, d_sc_12, d_sc_13, d_sc_14, d_sc_22, d_sc_ne, m_gd_0, Decidable.not_not]
  refine hK _ (cl_M_function_2 rfl (sp_M_isFunction_nm l I L b f h) (by decide) (Nat.le_of_ble_eq_true rfl) (Nat.le_refl _) (Nat.le_refl _) ?_)
  rintro w g ⟨rfl, rfl⟩
  refine ct_Wp.go (A_M_function l) (by decide) [20] 80 (fun K hK => ?_)
  simp +decide only [ct_run_s, ct_nx_s, ct_hp, ct_lg, ct_s1, ct_d1, ct_s2, ct_d2, lv_args, Value.category, ct_u2_get, Option.toList, List.cons_append, List.nil_append, Nat.reduceAdd, Nat.reduceSub, Nat.reduceMul, Nat.reduceEqDiff, Nat.reduceLeDiff, Nat.reduceLT, true_and, and_true, and_self, if_true, if_false, reduceCtorEq, Prod.mk.injEq, List.length_cons, List.length_nil, false_and, and_false, not_false_eq_true, not_true_eq_false, true_implies, false_implies, implies_true, Bool.false_eq_true, ite_true, ite_false, reduceIte, or_true, true_or, or_false, false_or, c_sh_10, c_sh_11, c_sh_12, c_sh_13, c_sh_14, c_sh_15, c_sh_16, c_sh_17, c_sh_18, c_sh_19, c_sh_20, c_sh_21, c_sh_22, c_sh_23, c_sh_24, c_sh_25, c_sh_26, c_sh_27, c_sh_28, c_sh_29, c_sh_30, c_sh_31, c_sh_32, c_sh_33, c_sh_34, c_sh_35, c_sh_36, c_sh_37, c_sh_38, c_sh_39, c_R_10_0, c_R_10_4, c_R_10_5, c_R_10_6, c_R_12_0, c_R_12_1, c_R_12_2, c_R_12_3, c_R_12_4, c_R_12_5, c_R_12_6, c_R_12_7, c_R_12_8, c_R_12_9, c_R_23_0, c_R_23_1, c_R_23_2, c_R_27_0, c_R_27_1, c_R_29_0, c_R_29_2, c_R_29_15, c_R_29_16, c_R_29_17, c_R_29_18, c_R_29_19, c_R_29_20, c_R_29_21, c_R_29_23, c_R_23_3, o_aload, o_getI, o_getR, o_goto, o_iald, o_ic, o_if, o_ii, o_iload, o_istore, o_push, e_M_function_0, e_M_function_1, e_M_function_5, e_M_function_8, e_M_function_9, e_M_function_12, e_M_function_13, e_M_function_15, e_M_function_18, e_M_function_20, e_M_function_21, e_M_function_22, e_M_function_25, e_M_function_28, e_M_function_29, e_M_function_32, e_M_function_33, e_M_function_34, e_M_function_37, e_M_function_38, e_M_function_39, e_M_function_40, e_M_function_41, e_M_function_44, e_M_function_45, e_M_function_46, e_M_function_47, e_M_function_51, e_M_function_54, e_M_function_55, e_M_function_56, e_M_function_59, e_M_function_60, e_M_function_61, e_M_function_62, e_M_function_66, e_M_function_69, e_M_function_70, e_M_function_71, e_M_function_74, e_M_function_75, e_M_function_76, e_M_function_77, e_M_function_78, e_M_function_85, e_M_function_88, e_M_function_89, e_M_function_90, e_M_function_93, e_M_function_94, e_M_function_97, e_M_function_98, e_M_function_99, e_M_function_102, e_M_function_103, e_M_function_107, e_M_function_110, e_M_function_111, e_M_function_112, e_M_function_113, e_M_function_118, e_M_function_119, e_M_function_120, e_M_function_123, e_M_function_125, e_M_function_126, e_M_function_129, e_M_function_130, e_M_function_131, e_M_function_134, e_M_function_135, e_M_function_139, e_M_function_142, e_M_function_143, e_M_function_144, e_M_function_147, e_M_function_148, e_M_function_149, e_M_function_150, e_M_function_151, e_M_function_155, e_M_function_158, e_M_function_159, e_M_function_162, e_M_function_163, e_M_function_164, e_M_function_165, e_M_function_166, e_M_function_167, e_M_function_170, e_M_function_171, e_M_function_172, z_M_function_2, z_M_function_19, z_M_function_48, z_M_function_63, z_M_function_79, z_M_function_82, z_M_function_104, z_M_function_114, z_M_function_117, z_M_function_124, z_M_function_136, z_M_function_152, z_M_function_173, d_sc_5, d_sc_6, d_sc_7, d_sc_1, d_sc_3, d_sc_4, d_sc_8, d_sc_9, d_sc_10, d_sc_11, d_sc_12, d_sc_13, d_sc_14, d_sc_22, d_sc_ne, m_gd_0, Decidable.not_not]
  exact hK _ (ct_Wp.ret (some (.int _)) rfl d_M_function_19 ⟨rfl, rfl⟩)
set_option maxHeartbeats 800000 in
set_option maxRecDepth 100000 in
theorem sp_M_listed_nm (l : ct_Lx) (I : Nat → Nat → Int32) (L : Nat → Nat → Int64) (b : Bool) (f k i : Int32) (h : I 29 4 = 0) : ct_Me l M_M_listed 5 0 0 [.ref 29, .int f, .int k, .int i] (c_g I L b) (fun v g => v = some (.long 0) ∧ g = c_g I L b) := by
  refine ct_Me.of (by decide) (Nat.le_of_ble_eq_true rfl) (fun v g h => by rw [h.1]; first | rfl | exact Or.inl rfl) ?_
  refine ct_Wp.go (A_M_listed l) (by decide) [] 80 (fun K hK => ?_)
  simp only [ct_run_s, ct_nx_s, ct_hp, ct_lg, ct_s1, ct_d1, ct_s2, ct_d2, lv_args, Value.category, ct_u2_get, Option.toList, List.cons_append, List.nil_append, Nat.reduceAdd, Nat.reduceSub, Nat.reduceMul, Nat.reduceEqDiff, Nat.reduceLeDiff, Nat.reduceLT, true_and, and_true, and_self, if_true, if_false, reduceCtorEq, Prod.mk.injEq, List.length_cons, List.length_nil, false_and, and_false, not_false_eq_true, not_true_eq_false, true_implies, false_implies, implies_true, Bool.false_eq_true, ite_true, ite_false, reduceIte, or_true, true_or, or_false, false_or, c_sh_10, c_sh_11, c_sh_12, c_sh_13, c_sh_14, c_sh_15, c_sh_16, c_sh_17, c_sh_18, c_sh_19, c_sh_20, c_sh_21, c_sh_22, c_sh_23, c_sh_24, c_sh_25, c_sh_26, c_sh_27, c_sh_28, c_sh_29, c_sh_30, c_sh_31, c_sh_32, c_sh_33, c_sh_34, c_sh_35, c_sh_36, c_sh_37, c_sh_38, c_sh_39, c_R_10_0, c_R_10_4, c_R_10_5, c_R_10_6, c_R_12_0, c_R_12_1, c_R_12_2, c_R_12_3, c_R_12_4, c_R_12_5, c_R_12_6, c_R_12_7, c_R_12_8, c_R_12_9, c_R_23_0, c_R_23_1, c_R_23_2, c_R_27_0, c_R_27_1, c_R_29_0, c_R_29_2, c_R_29_15, c_R_29_16, c_R_29_17, c_R_29_18, c_R_29_19, c_R_29_20, c_R_29_21, c_R_29_23, c_R_23_3, o_aload, o_getI, o_getR, o_goto, o_iald, o_ic, o_if, o_ii, o_iinc, o_iload, o_istore, o_push, e_M_listed_0, e_M_listed_1, e_M_listed_5, e_M_listed_8, e_M_listed_9, e_M_listed_12, e_M_listed_13, e_M_listed_14, e_M_listed_17, e_M_listed_18, e_M_listed_19, e_M_listed_22, e_M_listed_25, e_M_listed_26, e_M_listed_27, e_M_listed_30, e_M_listed_32, e_M_listed_33, e_M_listed_34, e_M_listed_37, e_M_listed_40, e_M_listed_41, e_M_listed_42, e_M_listed_46, e_M_listed_49, e_M_listed_50, e_M_listed_53, e_M_listed_54, e_M_listed_57, e_M_listed_58, e_M_listed_59, e_M_listed_62, e_M_listed_63, e_M_listed_64, e_M_listed_65, e_M_listed_66, e_M_listed_69, e_M_listed_70, e_M_listed_71, e_M_listed_74, e_M_listed_75, e_M_listed_76, e_M_listed_79, e_M_listed_80, e_M_listed_81, e_M_listed_82, e_M_listed_86, e_M_listed_88, e_M_listed_89, e_M_listed_92, e_M_listed_93, e_M_listed_94, e_M_listed_99, e_M_listed_102, e_M_listed_104, e_M_listed_107, e_M_listed_108, e_M_listed_110, e_M_listed_112, e_M_listed_113, e_M_listed_116, e_M_listed_117, e_M_listed_122, e_M_listed_124, e_M_listed_127, e_M_listed_130, e_M_listed_131, z_M_listed_2, z_M_listed_31, z_M_listed_43, z_M_listed_83, z_M_listed_96, z_M_listed_103, z_M_listed_119, z_M_listed_133, z_M_listed_136, d_sc_5, d_sc_6, d_sc_7, d_sc_1, d_sc_3, d_sc_4, d_sc_8, d_sc_9, d_sc_10, d_sc_11, d_sc_12, d_sc_13, d_sc_14, d_sc_22, d_sc_ne, m_gd_0, Decidable.not_not]
  refine hK _ (cl_M_listed_2 rfl (sp_M_isFunction_nm l I L b f h) (by decide) (Nat.le_of_ble_eq_true rfl) (Nat.le_refl _) (Nat.le_refl _) ?_)
  rintro w g ⟨rfl, rfl⟩
  refine ct_Wp.go (A_M_listed l) (by decide) [32] 80 (fun K hK => ?_)
  simp +decide only [ct_run_s, ct_nx_s, ct_hp, ct_lg, ct_s1, ct_d1, ct_s2, ct_d2, lv_args, Value.category, ct_u2_get, Option.toList, List.cons_append, List.nil_append, Nat.reduceAdd, Nat.reduceSub, Nat.reduceMul, Nat.reduceEqDiff, Nat.reduceLeDiff, Nat.reduceLT, true_and, and_true, and_self, if_true, if_false, reduceCtorEq, Prod.mk.injEq, List.length_cons, List.length_nil, false_and, and_false, not_false_eq_true, not_true_eq_false, true_implies, false_implies, implies_true, Bool.false_eq_true, ite_true, ite_false, reduceIte, or_true, true_or, or_false, false_or, c_sh_10, c_sh_11, c_sh_12, c_sh_13, c_sh_14, c_sh_15, c_sh_16, c_sh_17, c_sh_18, c_sh_19, c_sh_20, c_sh_21, c_sh_22, c_sh_23, c_sh_24, c_sh_25, c_sh_26, c_sh_27, c_sh_28, c_sh_29, c_sh_30, c_sh_31, c_sh_32, c_sh_33, c_sh_34, c_sh_35, c_sh_36, c_sh_37, c_sh_38, c_sh_39, c_R_10_0, c_R_10_4, c_R_10_5, c_R_10_6, c_R_12_0, c_R_12_1, c_R_12_2, c_R_12_3, c_R_12_4, c_R_12_5, c_R_12_6, c_R_12_7, c_R_12_8, c_R_12_9, c_R_23_0, c_R_23_1, c_R_23_2, c_R_27_0, c_R_27_1, c_R_29_0, c_R_29_2, c_R_29_15, c_R_29_16, c_R_29_17, c_R_29_18, c_R_29_19, c_R_29_20, c_R_29_21, c_R_29_23, c_R_23_3, o_aload, o_getI, o_getR, o_goto, o_iald, o_ic, o_if, o_ii, o_iinc, o_iload, o_istore, o_push, e_M_listed_0, e_M_listed_1, e_M_listed_5, e_M_listed_8, e_M_listed_9, e_M_listed_12, e_M_listed_13, e_M_listed_14, e_M_listed_17, e_M_listed_18, e_M_listed_19, e_M_listed_22, e_M_listed_25, e_M_listed_26, e_M_listed_27, e_M_listed_30, e_M_listed_32, e_M_listed_33, e_M_listed_34, e_M_listed_37, e_M_listed_40, e_M_listed_41, e_M_listed_42, e_M_listed_46, e_M_listed_49, e_M_listed_50, e_M_listed_53, e_M_listed_54, e_M_listed_57, e_M_listed_58, e_M_listed_59, e_M_listed_62, e_M_listed_63, e_M_listed_64, e_M_listed_65, e_M_listed_66, e_M_listed_69, e_M_listed_70, e_M_listed_71, e_M_listed_74, e_M_listed_75, e_M_listed_76, e_M_listed_79, e_M_listed_80, e_M_listed_81, e_M_listed_82, e_M_listed_86, e_M_listed_88, e_M_listed_89, e_M_listed_92, e_M_listed_93, e_M_listed_94, e_M_listed_99, e_M_listed_102, e_M_listed_104, e_M_listed_107, e_M_listed_108, e_M_listed_110, e_M_listed_112, e_M_listed_113, e_M_listed_116, e_M_listed_117, e_M_listed_122, e_M_listed_124, e_M_listed_127, e_M_listed_130, e_M_listed_131, z_M_listed_2, z_M_listed_31, z_M_listed_43, z_M_listed_83, z_M_listed_96, z_M_listed_103, z_M_listed_119, z_M_listed_133, z_M_listed_136, d_sc_5, d_sc_6, d_sc_7, d_sc_1, d_sc_3, d_sc_4, d_sc_8, d_sc_9, d_sc_10, d_sc_11, d_sc_12, d_sc_13, d_sc_14, d_sc_22, d_sc_ne, m_gd_0, Decidable.not_not]
  exact hK _ (ct_Wp.ret (some (.long _)) rfl d_M_listed_31 ⟨rfl, rfl⟩)
set_option maxHeartbeats 800000 in
set_option maxRecDepth 100000 in
theorem sp_M_operation_nm (l : ct_Lx) (I : Nat → Nat → Int32) (L : Nat → Nat → Int64) (b : Bool) (f i : Int32) (h : I 29 4 = 0) : ct_Me l M_M_operation 2 0 0 [.ref 29, .int f, .int i] (c_g I L b) (fun v g => v = some (.int (-1)) ∧ g = c_g I L b) := by
  refine ct_Me.of (by decide) (Nat.le_of_ble_eq_true rfl) (fun v g h => by rw [h.1]; first | rfl | exact Or.inl rfl) ?_
  refine ct_Wp.go (A_M_operation l) (by decide) [] 80 (fun K hK => ?_)
  simp only [ct_run_s, ct_nx_s, ct_hp, ct_lg, ct_s1, ct_d1, ct_s2, ct_d2, lv_args, Value.category, ct_u2_get, Option.toList, List.cons_append, List.nil_append, Nat.reduceAdd, Nat.reduceSub, Nat.reduceMul, Nat.reduceEqDiff, Nat.reduceLeDiff, Nat.reduceLT, true_and, and_true, and_self, if_true, if_false, reduceCtorEq, Prod.mk.injEq, List.length_cons, List.length_nil, false_and, and_false, not_false_eq_true, not_true_eq_false, true_implies, false_implies, implies_true, Bool.false_eq_true, ite_true, ite_false, reduceIte, or_true, true_or, or_false, false_or, c_sh_10, c_sh_11, c_sh_12, c_sh_13, c_sh_14, c_sh_15, c_sh_16, c_sh_17, c_sh_18, c_sh_19, c_sh_20, c_sh_21, c_sh_22, c_sh_23, c_sh_24, c_sh_25, c_sh_26, c_sh_27, c_sh_28, c_sh_29, c_sh_30, c_sh_31, c_sh_32, c_sh_33, c_sh_34, c_sh_35, c_sh_36, c_sh_37, c_sh_38, c_sh_39, c_R_10_0, c_R_10_4, c_R_10_5, c_R_10_6, c_R_12_0, c_R_12_1, c_R_12_2, c_R_12_3, c_R_12_4, c_R_12_5, c_R_12_6, c_R_12_7, c_R_12_8, c_R_12_9, c_R_23_0, c_R_23_1, c_R_23_2, c_R_27_0, c_R_27_1, c_R_29_0, c_R_29_2, c_R_29_15, c_R_29_16, c_R_29_17, c_R_29_18, c_R_29_19, c_R_29_20, c_R_29_21, c_R_29_23, c_R_23_3, o_aload, o_goto, o_if, o_iload, o_istore, o_push, e_M_operation_0, e_M_operation_1, e_M_operation_2, e_M_operation_6, e_M_operation_7, e_M_operation_8, e_M_operation_11, e_M_operation_12, e_M_operation_15, e_M_operation_16, z_M_operation_3, z_M_operation_17, z_M_operation_20, d_sc_5, d_sc_6, d_sc_7, d_sc_1, d_sc_3, d_sc_4, d_sc_8, d_sc_9, d_sc_10, d_sc_11, d_sc_12, d_sc_13, d_sc_14, d_sc_22, d_sc_ne, m_gd_0, Decidable.not_not]
  refine hK _ (cl_M_operation_3 rfl (sp_M_instruction_nm l I L b f i h) (by decide) (Nat.le_of_ble_eq_true rfl) (Nat.le_refl _) (Nat.le_refl _) ?_)
  rintro w g ⟨rfl, rfl⟩
  refine ct_Wp.go (A_M_operation l) (by decide) [] 80 (fun K hK => ?_)
  simp +decide only [ct_run_s, ct_nx_s, ct_hp, ct_lg, ct_s1, ct_d1, ct_s2, ct_d2, lv_args, Value.category, ct_u2_get, Option.toList, List.cons_append, List.nil_append, Nat.reduceAdd, Nat.reduceSub, Nat.reduceMul, Nat.reduceEqDiff, Nat.reduceLeDiff, Nat.reduceLT, true_and, and_true, and_self, if_true, if_false, reduceCtorEq, Prod.mk.injEq, List.length_cons, List.length_nil, false_and, and_false, not_false_eq_true, not_true_eq_false, true_implies, false_implies, implies_true, Bool.false_eq_true, ite_true, ite_false, reduceIte, or_true, true_or, or_false, false_or, c_sh_10, c_sh_11, c_sh_12, c_sh_13, c_sh_14, c_sh_15, c_sh_16, c_sh_17, c_sh_18, c_sh_19, c_sh_20, c_sh_21, c_sh_22, c_sh_23, c_sh_24, c_sh_25, c_sh_26, c_sh_27, c_sh_28, c_sh_29, c_sh_30, c_sh_31, c_sh_32, c_sh_33, c_sh_34, c_sh_35, c_sh_36, c_sh_37, c_sh_38, c_sh_39, c_R_10_0, c_R_10_4, c_R_10_5, c_R_10_6, c_R_12_0, c_R_12_1, c_R_12_2, c_R_12_3, c_R_12_4, c_R_12_5, c_R_12_6, c_R_12_7, c_R_12_8, c_R_12_9, c_R_23_0, c_R_23_1, c_R_23_2, c_R_27_0, c_R_27_1, c_R_29_0, c_R_29_2, c_R_29_15, c_R_29_16, c_R_29_17, c_R_29_18, c_R_29_19, c_R_29_20, c_R_29_21, c_R_29_23, c_R_23_3, o_aload, o_goto, o_if, o_iload, o_istore, o_push, e_M_operation_0, e_M_operation_1, e_M_operation_2, e_M_operation_6, e_M_operation_7, e_M_operation_8, e_M_operation_11, e_M_operation_12, e_M_operation_15, e_M_operation_16, z_M_operation_3, z_M_operation_17, z_M_operation_20, d_sc_5, d_sc_6, d_sc_7, d_sc_1, d_sc_3, d_sc_4, d_sc_8, d_sc_9, d_sc_10, d_sc_11, d_sc_12, d_sc_13, d_sc_14, d_sc_22, d_sc_ne, m_gd_0, Decidable.not_not]
  exact hK _ (ct_Wp.ret (some (.int _)) rfl d_M_operation_20 ⟨rfl, rfl⟩)
set_option maxHeartbeats 800000 in
set_option maxRecDepth 100000 in
theorem sp_M_operand_nm (l : ct_Lx) (I : Nat → Nat → Int32) (L : Nat → Nat → Int64) (b : Bool) (f i w : Int32) (h : I 29 4 = 0) : ct_Me l M_M_operand 3 0 0 [.ref 29, .int f, .int i, .int w] (c_g I L b) (fun v g => v = some (.long 0) ∧ g = c_g I L b) := by
  refine ct_Me.of (by decide) (Nat.le_of_ble_eq_true rfl) (fun v g h => by rw [h.1]; first | rfl | exact Or.inl rfl) ?_
  refine ct_Wp.go (A_M_operand l) (by decide) [] 80 (fun K hK => ?_)
  simp only [ct_run_s, ct_nx_s, ct_hp, ct_lg, ct_s1, ct_d1, ct_s2, ct_d2, lv_args, Value.category, ct_u2_get, Option.toList, List.cons_append, List.nil_append, Nat.reduceAdd, Nat.reduceSub, Nat.reduceMul, Nat.reduceEqDiff, Nat.reduceLeDiff, Nat.reduceLT, true_and, and_true, and_self, if_true, if_false, reduceCtorEq, Prod.mk.injEq, List.length_cons, List.length_nil, false_and, and_false, not_false_eq_true, not_true_eq_false, true_implies, false_implies, implies_true, Bool.false_eq_true, ite_true, ite_false, reduceIte, or_true, true_or, or_false, false_or, c_sh_10, c_sh_11, c_sh_12, c_sh_13, c_sh_14, c_sh_15, c_sh_16, c_sh_17, c_sh_18, c_sh_19, c_sh_20, c_sh_21, c_sh_22, c_sh_23, c_sh_24, c_sh_25, c_sh_26, c_sh_27, c_sh_28, c_sh_29, c_sh_30, c_sh_31, c_sh_32, c_sh_33, c_sh_34, c_sh_35, c_sh_36, c_sh_37, c_sh_38, c_sh_39, c_R_10_0, c_R_10_4, c_R_10_5, c_R_10_6, c_R_12_0, c_R_12_1, c_R_12_2, c_R_12_3, c_R_12_4, c_R_12_5, c_R_12_6, c_R_12_7, c_R_12_8, c_R_12_9, c_R_23_0, c_R_23_1, c_R_23_2, c_R_27_0, c_R_27_1, c_R_29_0, c_R_29_2, c_R_29_15, c_R_29_16, c_R_29_17, c_R_29_18, c_R_29_19, c_R_29_20, c_R_29_21, c_R_29_23, c_R_23_3, o_aload, o_goto, o_ic, o_idiv, o_if, o_ii, o_iload, o_istore, o_push, e_M_operand_0, e_M_operand_1, e_M_operand_2, e_M_operand_6, e_M_operand_8, e_M_operand_10, e_M_operand_13, e_M_operand_14, e_M_operand_17, e_M_operand_18, e_M_operand_19, e_M_operand_22, e_M_operand_24, e_M_operand_25, e_M_operand_30, e_M_operand_32, e_M_operand_37, e_M_operand_39, e_M_operand_41, e_M_operand_43, e_M_operand_46, e_M_operand_48, e_M_operand_50, e_M_operand_53, e_M_operand_55, e_M_operand_57, e_M_operand_60, e_M_operand_62, e_M_operand_64, e_M_operand_67, e_M_operand_68, e_M_operand_71, e_M_operand_72, e_M_operand_74, e_M_operand_76, e_M_operand_79, e_M_operand_80, e_M_operand_83, e_M_operand_84, e_M_operand_86, e_M_operand_87, e_M_operand_88, e_M_operand_93, e_M_operand_96, e_M_operand_98, e_M_operand_99, e_M_operand_101, e_M_operand_102, e_M_operand_103, e_M_operand_104, e_M_operand_106, e_M_operand_107, e_M_operand_108, e_M_operand_109, e_M_operand_110, e_M_operand_112, e_M_operand_113, z_M_operand_3, z_M_operand_23, z_M_operand_27, z_M_operand_34, z_M_operand_90, z_M_operand_97, z_M_operand_114, z_M_operand_117, d_sc_5, d_sc_6, d_sc_7, d_sc_1, d_sc_3, d_sc_4, d_sc_8, d_sc_9, d_sc_10, d_sc_11, d_sc_12, d_sc_13, d_sc_14, d_sc_22, d_sc_ne, m_gd_0, Decidable.not_not]
  refine hK _ (cl_M_operand_3 rfl (sp_M_instruction_nm l I L b f i h) (by decide) (Nat.le_of_ble_eq_true rfl) (Nat.le_refl _) (Nat.le_refl _) ?_)
  rintro w g ⟨rfl, rfl⟩
  refine ct_Wp.go (A_M_operand l) (by decide) [24] 80 (fun K hK => ?_)
  simp +decide only [ct_run_s, ct_nx_s, ct_hp, ct_lg, ct_s1, ct_d1, ct_s2, ct_d2, lv_args, Value.category, ct_u2_get, Option.toList, List.cons_append, List.nil_append, Nat.reduceAdd, Nat.reduceSub, Nat.reduceMul, Nat.reduceEqDiff, Nat.reduceLeDiff, Nat.reduceLT, true_and, and_true, and_self, if_true, if_false, reduceCtorEq, Prod.mk.injEq, List.length_cons, List.length_nil, false_and, and_false, not_false_eq_true, not_true_eq_false, true_implies, false_implies, implies_true, Bool.false_eq_true, ite_true, ite_false, reduceIte, or_true, true_or, or_false, false_or, c_sh_10, c_sh_11, c_sh_12, c_sh_13, c_sh_14, c_sh_15, c_sh_16, c_sh_17, c_sh_18, c_sh_19, c_sh_20, c_sh_21, c_sh_22, c_sh_23, c_sh_24, c_sh_25, c_sh_26, c_sh_27, c_sh_28, c_sh_29, c_sh_30, c_sh_31, c_sh_32, c_sh_33, c_sh_34, c_sh_35, c_sh_36, c_sh_37, c_sh_38, c_sh_39, c_R_10_0, c_R_10_4, c_R_10_5, c_R_10_6, c_R_12_0, c_R_12_1, c_R_12_2, c_R_12_3, c_R_12_4, c_R_12_5, c_R_12_6, c_R_12_7, c_R_12_8, c_R_12_9, c_R_23_0, c_R_23_1, c_R_23_2, c_R_27_0, c_R_27_1, c_R_29_0, c_R_29_2, c_R_29_15, c_R_29_16, c_R_29_17, c_R_29_18, c_R_29_19, c_R_29_20, c_R_29_21, c_R_29_23, c_R_23_3, o_aload, o_goto, o_ic, o_idiv, o_if, o_ii, o_iload, o_istore, o_push, e_M_operand_0, e_M_operand_1, e_M_operand_2, e_M_operand_6, e_M_operand_8, e_M_operand_10, e_M_operand_13, e_M_operand_14, e_M_operand_17, e_M_operand_18, e_M_operand_19, e_M_operand_22, e_M_operand_24, e_M_operand_25, e_M_operand_30, e_M_operand_32, e_M_operand_37, e_M_operand_39, e_M_operand_41, e_M_operand_43, e_M_operand_46, e_M_operand_48, e_M_operand_50, e_M_operand_53, e_M_operand_55, e_M_operand_57, e_M_operand_60, e_M_operand_62, e_M_operand_64, e_M_operand_67, e_M_operand_68, e_M_operand_71, e_M_operand_72, e_M_operand_74, e_M_operand_76, e_M_operand_79, e_M_operand_80, e_M_operand_83, e_M_operand_84, e_M_operand_86, e_M_operand_87, e_M_operand_88, e_M_operand_93, e_M_operand_96, e_M_operand_98, e_M_operand_99, e_M_operand_101, e_M_operand_102, e_M_operand_103, e_M_operand_104, e_M_operand_106, e_M_operand_107, e_M_operand_108, e_M_operand_109, e_M_operand_110, e_M_operand_112, e_M_operand_113, z_M_operand_3, z_M_operand_23, z_M_operand_27, z_M_operand_34, z_M_operand_90, z_M_operand_97, z_M_operand_114, z_M_operand_117, d_sc_5, d_sc_6, d_sc_7, d_sc_1, d_sc_3, d_sc_4, d_sc_8, d_sc_9, d_sc_10, d_sc_11, d_sc_12, d_sc_13, d_sc_14, d_sc_22, d_sc_ne, m_gd_0, Decidable.not_not]
  exact hK _ (ct_Wp.ret (some (.long _)) rfl d_M_operand_23 ⟨rfl, rfl⟩)
set_option maxHeartbeats 800000 in
set_option maxRecDepth 100000 in
theorem sp_X_structure_nm (l : ct_Lx) (I : Nat → Nat → Int32) (L : Nat → Nat → Int64) (b : Bool) (k w : Int32) (h : I 10 3 = 0) : ct_Me l M_X_structure 3 0 0 [.ref 10, .int k, .int w] (c_g I L b) (fun v g => v = some (.int (-1)) ∧ g = c_g I L b) := by
  refine ct_Me.of (by decide) (Nat.le_of_ble_eq_true rfl) (fun v g h => by rw [h.1]; first | rfl | exact Or.inl rfl) ?_
  refine ct_Wp.go (A_X_structure l) (by decide) [] 80 (fun K hK => ?_)
  simp +decide only [ct_run_s, ct_nx_s, ct_hp, ct_lg, ct_s1, ct_d1, ct_s2, ct_d2, lv_args, Value.category, ct_u2_get, Option.toList, List.cons_append, List.nil_append, Nat.reduceAdd, Nat.reduceSub, Nat.reduceMul, Nat.reduceEqDiff, Nat.reduceLeDiff, Nat.reduceLT, true_and, and_true, and_self, if_true, if_false, reduceCtorEq, Prod.mk.injEq, List.length_cons, List.length_nil, false_and, and_false, not_false_eq_true, not_true_eq_false, true_implies, false_implies, implies_true, Bool.false_eq_true, ite_true, ite_false, reduceIte, or_true, true_or, or_false, false_or, c_sh_10, c_sh_11, c_sh_12, c_sh_13, c_sh_14, c_sh_15, c_sh_16, c_sh_17, c_sh_18, c_sh_19, c_sh_20, c_sh_21, c_sh_22, c_sh_23, c_sh_24, c_sh_25, c_sh_26, c_sh_27, c_sh_28, c_sh_29, c_sh_30, c_sh_31, c_sh_32, c_sh_33, c_sh_34, c_sh_35, c_sh_36, c_sh_37, c_sh_38, c_sh_39, c_R_10_0, c_R_10_4, c_R_10_5, c_R_10_6, c_R_12_0, c_R_12_1, c_R_12_2, c_R_12_3, c_R_12_4, c_R_12_5, c_R_12_6, c_R_12_7, c_R_12_8, c_R_12_9, c_R_23_0, c_R_23_1, c_R_23_2, c_R_27_0, c_R_27_1, c_R_29_0, c_R_29_2, c_R_29_15, c_R_29_16, c_R_29_17, c_R_29_18, c_R_29_19, c_R_29_20, c_R_29_21, c_R_29_23, c_R_23_3, o_aload, o_getI, o_getR, o_goto, o_if, o_iload, o_push, e_X_structure_0, e_X_structure_1, e_X_structure_4, e_X_structure_7, e_X_structure_8, e_X_structure_11, e_X_structure_12, e_X_structure_16, e_X_structure_19, z_X_structure_13, z_X_structure_20, h]
  exact hK _ (ct_Wp.ret (some (.int _)) rfl d_X_structure_20 ⟨rfl, rfl⟩)
set_option maxHeartbeats 800000 in
set_option maxRecDepth 100000 in
theorem sp_X_field_nm (l : ct_Lx) (I : Nat → Nat → Int32) (L : Nat → Nat → Int64) (b : Bool) (k i : Int32) (h : I 10 3 = 0) : ct_Me l M_X_field 4 0 0 [.ref 10, .int k, .int i] (c_g I L b) (fun v g => v = some (.long 0) ∧ g = c_g I L b) := by
  refine ct_Me.of (by decide) (Nat.le_of_ble_eq_true rfl) (fun v g h => by rw [h.1]; first | rfl | exact Or.inl rfl) ?_
  refine ct_Wp.go (A_X_field l) (by decide) [] 80 (fun K hK => ?_)
  simp +decide only [ct_run_s, ct_nx_s, ct_hp, ct_lg, ct_s1, ct_d1, ct_s2, ct_d2, lv_args, Value.category, ct_u2_get, Option.toList, List.cons_append, List.nil_append, Nat.reduceAdd, Nat.reduceSub, Nat.reduceMul, Nat.reduceEqDiff, Nat.reduceLeDiff, Nat.reduceLT, true_and, and_true, and_self, if_true, if_false, reduceCtorEq, Prod.mk.injEq, List.length_cons, List.length_nil, false_and, and_false, not_false_eq_true, not_true_eq_false, true_implies, false_implies, implies_true, Bool.false_eq_true, ite_true, ite_false, reduceIte, or_true, true_or, or_false, false_or, c_sh_10, c_sh_11, c_sh_12, c_sh_13, c_sh_14, c_sh_15, c_sh_16, c_sh_17, c_sh_18, c_sh_19, c_sh_20, c_sh_21, c_sh_22, c_sh_23, c_sh_24, c_sh_25, c_sh_26, c_sh_27, c_sh_28, c_sh_29, c_sh_30, c_sh_31, c_sh_32, c_sh_33, c_sh_34, c_sh_35, c_sh_36, c_sh_37, c_sh_38, c_sh_39, c_R_10_0, c_R_10_4, c_R_10_5, c_R_10_6, c_R_12_0, c_R_12_1, c_R_12_2, c_R_12_3, c_R_12_4, c_R_12_5, c_R_12_6, c_R_12_7, c_R_12_8, c_R_12_9, c_R_23_0, c_R_23_1, c_R_23_2, c_R_27_0, c_R_27_1, c_R_29_0, c_R_29_2, c_R_29_15, c_R_29_16, c_R_29_17, c_R_29_18, c_R_29_19, c_R_29_20, c_R_29_21, c_R_29_23, c_R_23_3, o_aload, o_getI, o_getR, o_goto, o_if, o_iload, o_push, e_X_field_0, e_X_field_1, e_X_field_4, e_X_field_7, e_X_field_8, e_X_field_11, e_X_field_12, e_X_field_16, e_X_field_19, z_X_field_13, z_X_field_20, h]
  exact hK _ (ct_Wp.ret (some (.long _)) rfl d_X_field_20 ⟨rfl, rfl⟩)
set_option maxHeartbeats 800000 in
set_option maxRecDepth 100000 in
theorem sp_X_function_nm (l : ct_Lx) (I : Nat → Nat → Int32) (L : Nat → Nat → Int64) (b : Bool) (f w : Int32) (h : I 10 3 = 0) : ct_Me l M_X_function 3 0 0 [.ref 10, .int f, .int w] (c_g I L b) (fun v g => v = some (.int (-1)) ∧ g = c_g I L b) := by
  refine ct_Me.of (by decide) (Nat.le_of_ble_eq_true rfl) (fun v g h => by rw [h.1]; first | rfl | exact Or.inl rfl) ?_
  refine ct_Wp.go (A_X_function l) (by decide) [] 80 (fun K hK => ?_)
  simp +decide only [ct_run_s, ct_nx_s, ct_hp, ct_lg, ct_s1, ct_d1, ct_s2, ct_d2, lv_args, Value.category, ct_u2_get, Option.toList, List.cons_append, List.nil_append, Nat.reduceAdd, Nat.reduceSub, Nat.reduceMul, Nat.reduceEqDiff, Nat.reduceLeDiff, Nat.reduceLT, true_and, and_true, and_self, if_true, if_false, reduceCtorEq, Prod.mk.injEq, List.length_cons, List.length_nil, false_and, and_false, not_false_eq_true, not_true_eq_false, true_implies, false_implies, implies_true, Bool.false_eq_true, ite_true, ite_false, reduceIte, or_true, true_or, or_false, false_or, c_sh_10, c_sh_11, c_sh_12, c_sh_13, c_sh_14, c_sh_15, c_sh_16, c_sh_17, c_sh_18, c_sh_19, c_sh_20, c_sh_21, c_sh_22, c_sh_23, c_sh_24, c_sh_25, c_sh_26, c_sh_27, c_sh_28, c_sh_29, c_sh_30, c_sh_31, c_sh_32, c_sh_33, c_sh_34, c_sh_35, c_sh_36, c_sh_37, c_sh_38, c_sh_39, c_R_10_0, c_R_10_4, c_R_10_5, c_R_10_6, c_R_12_0, c_R_12_1, c_R_12_2, c_R_12_3, c_R_12_4, c_R_12_5, c_R_12_6, c_R_12_7, c_R_12_8, c_R_12_9, c_R_23_0, c_R_23_1, c_R_23_2, c_R_27_0, c_R_27_1, c_R_29_0, c_R_29_2, c_R_29_15, c_R_29_16, c_R_29_17, c_R_29_18, c_R_29_19, c_R_29_20, c_R_29_21, c_R_29_23, c_R_23_3, o_aload, o_getI, o_getR, o_goto, o_if, o_iload, o_push, e_X_function_0, e_X_function_1, e_X_function_4, e_X_function_7, e_X_function_8, e_X_function_11, e_X_function_12, e_X_function_16, e_X_function_19, z_X_function_13, z_X_function_20, h]
  exact hK _ (ct_Wp.ret (some (.int _)) rfl d_X_function_20 ⟨rfl, rfl⟩)
set_option maxHeartbeats 800000 in
set_option maxRecDepth 100000 in
theorem sp_X_listed_nm (l : ct_Lx) (I : Nat → Nat → Int32) (L : Nat → Nat → Int64) (b : Bool) (f k i : Int32) (h : I 10 3 = 0) : ct_Me l M_X_listed 4 0 0 [.ref 10, .int f, .int k, .int i] (c_g I L b) (fun v g => v = some (.long 0) ∧ g = c_g I L b) := by
  refine ct_Me.of (by decide) (Nat.le_of_ble_eq_true rfl) (fun v g h => by rw [h.1]; first | rfl | exact Or.inl rfl) ?_
  refine ct_Wp.go (A_X_listed l) (by decide) [] 80 (fun K hK => ?_)
  simp +decide only [ct_run_s, ct_nx_s, ct_hp, ct_lg, ct_s1, ct_d1, ct_s2, ct_d2, lv_args, Value.category, ct_u2_get, Option.toList, List.cons_append, List.nil_append, Nat.reduceAdd, Nat.reduceSub, Nat.reduceMul, Nat.reduceEqDiff, Nat.reduceLeDiff, Nat.reduceLT, true_and, and_true, and_self, if_true, if_false, reduceCtorEq, Prod.mk.injEq, List.length_cons, List.length_nil, false_and, and_false, not_false_eq_true, not_true_eq_false, true_implies, false_implies, implies_true, Bool.false_eq_true, ite_true, ite_false, reduceIte, or_true, true_or, or_false, false_or, c_sh_10, c_sh_11, c_sh_12, c_sh_13, c_sh_14, c_sh_15, c_sh_16, c_sh_17, c_sh_18, c_sh_19, c_sh_20, c_sh_21, c_sh_22, c_sh_23, c_sh_24, c_sh_25, c_sh_26, c_sh_27, c_sh_28, c_sh_29, c_sh_30, c_sh_31, c_sh_32, c_sh_33, c_sh_34, c_sh_35, c_sh_36, c_sh_37, c_sh_38, c_sh_39, c_R_10_0, c_R_10_4, c_R_10_5, c_R_10_6, c_R_12_0, c_R_12_1, c_R_12_2, c_R_12_3, c_R_12_4, c_R_12_5, c_R_12_6, c_R_12_7, c_R_12_8, c_R_12_9, c_R_23_0, c_R_23_1, c_R_23_2, c_R_27_0, c_R_27_1, c_R_29_0, c_R_29_2, c_R_29_15, c_R_29_16, c_R_29_17, c_R_29_18, c_R_29_19, c_R_29_20, c_R_29_21, c_R_29_23, c_R_23_3, o_aload, o_getI, o_getR, o_goto, o_if, o_iload, o_push, e_X_listed_0, e_X_listed_1, e_X_listed_4, e_X_listed_7, e_X_listed_8, e_X_listed_11, e_X_listed_12, e_X_listed_13, e_X_listed_17, e_X_listed_20, z_X_listed_14, z_X_listed_21, h]
  exact hK _ (ct_Wp.ret (some (.long _)) rfl d_X_listed_21 ⟨rfl, rfl⟩)
set_option maxHeartbeats 800000 in
set_option maxRecDepth 100000 in
theorem sp_X_element_nm (l : ct_Lx) (I : Nat → Nat → Int32) (L : Nat → Nat → Int64) (b : Bool) (k : Int32) (h : I 10 3 = 0) : ct_Me l M_X_element 1 0 0 [.ref 10, .int k] (c_g I L b) (fun v g => v = some (.long 0) ∧ g = c_g I L b) := by
  refine ct_Me.of (by decide) (Nat.le_of_ble_eq_true rfl) (fun v g h => by rw [h.1]; first | rfl | exact Or.inl rfl) ?_
  refine ct_Wp.go (A_X_element l) (by decide) [] 80 (fun K hK => ?_)
  simp +decide only [ct_run_s, ct_nx_s, ct_hp, ct_lg, ct_s1, ct_d1, ct_s2, ct_d2, lv_args, Value.category, ct_u2_get, Option.toList, List.cons_append, List.nil_append, Nat.reduceAdd, Nat.reduceSub, Nat.reduceMul, Nat.reduceEqDiff, Nat.reduceLeDiff, Nat.reduceLT, true_and, and_true, and_self, if_true, if_false, reduceCtorEq, Prod.mk.injEq, List.length_cons, List.length_nil, false_and, and_false, not_false_eq_true, not_true_eq_false, true_implies, false_implies, implies_true, Bool.false_eq_true, ite_true, ite_false, reduceIte, or_true, true_or, or_false, false_or, c_sh_10, c_sh_11, c_sh_12, c_sh_13, c_sh_14, c_sh_15, c_sh_16, c_sh_17, c_sh_18, c_sh_19, c_sh_20, c_sh_21, c_sh_22, c_sh_23, c_sh_24, c_sh_25, c_sh_26, c_sh_27, c_sh_28, c_sh_29, c_sh_30, c_sh_31, c_sh_32, c_sh_33, c_sh_34, c_sh_35, c_sh_36, c_sh_37, c_sh_38, c_sh_39, c_R_10_0, c_R_10_4, c_R_10_5, c_R_10_6, c_R_12_0, c_R_12_1, c_R_12_2, c_R_12_3, c_R_12_4, c_R_12_5, c_R_12_6, c_R_12_7, c_R_12_8, c_R_12_9, c_R_23_0, c_R_23_1, c_R_23_2, c_R_27_0, c_R_27_1, c_R_29_0, c_R_29_2, c_R_29_15, c_R_29_16, c_R_29_17, c_R_29_18, c_R_29_19, c_R_29_20, c_R_29_21, c_R_29_23, c_R_23_3, o_aload, o_getI, o_getR, o_goto, o_iald, o_ic, o_if, o_iload, o_lald, o_push, e_X_element_0, e_X_element_1, e_X_element_4, e_X_element_7, e_X_element_8, e_X_element_11, e_X_element_12, e_X_element_13, e_X_element_16, e_X_element_19, e_X_element_20, e_X_element_21, e_X_element_24, e_X_element_25, e_X_element_28, e_X_element_31, e_X_element_32, e_X_element_33, e_X_element_36, z_X_element_37, h]
  exact hK _ (ct_Wp.ret (some (.long _)) rfl d_X_element_37 ⟨rfl, rfl⟩)
set_option maxHeartbeats 800000 in
set_option maxRecDepth 100000 in
theorem sp_X_operation_nm (l : ct_Lx) (I : Nat → Nat → Int32) (L : Nat → Nat → Int64) (b : Bool) (f i : Int32) (h : I 10 3 = 0) : ct_Me l M_X_operation 4 0 0 [.ref 10, .int f, .int i] (c_g I L b) (fun v g => v = some (.int (-1)) ∧ g = c_g I L b) := by
  refine ct_Me.of (by decide) (Nat.le_of_ble_eq_true rfl) (fun v g h => by rw [h.1]; first | rfl | exact Or.inl rfl) ?_
  refine ct_Wp.go (A_X_operation l) (by decide) [] 80 (fun K hK => ?_)
  simp +decide only [ct_run_s, ct_nx_s, ct_hp, ct_lg, ct_s1, ct_d1, ct_s2, ct_d2, lv_args, Value.category, ct_u2_get, Option.toList, List.cons_append, List.nil_append, Nat.reduceAdd, Nat.reduceSub, Nat.reduceMul, Nat.reduceEqDiff, Nat.reduceLeDiff, Nat.reduceLT, true_and, and_true, and_self, if_true, if_false, reduceCtorEq, Prod.mk.injEq, List.length_cons, List.length_nil, false_and, and_false, not_false_eq_true, not_true_eq_false, true_implies, false_implies, implies_true, Bool.false_eq_true, ite_true, ite_false, reduceIte, or_true, true_or, or_false, false_or, c_sh_10, c_sh_11, c_sh_12, c_sh_13, c_sh_14, c_sh_15, c_sh_16, c_sh_17, c_sh_18, c_sh_19, c_sh_20, c_sh_21, c_sh_22, c_sh_23, c_sh_24, c_sh_25, c_sh_26, c_sh_27, c_sh_28, c_sh_29, c_sh_30, c_sh_31, c_sh_32, c_sh_33, c_sh_34, c_sh_35, c_sh_36, c_sh_37, c_sh_38, c_sh_39, c_R_10_0, c_R_10_4, c_R_10_5, c_R_10_6, c_R_12_0, c_R_12_1, c_R_12_2, c_R_12_3, c_R_12_4, c_R_12_5, c_R_12_6, c_R_12_7, c_R_12_8, c_R_12_9, c_R_23_0, c_R_23_1, c_R_23_2, c_R_27_0, c_R_27_1, c_R_29_0, c_R_29_2, c_R_29_15, c_R_29_16, c_R_29_17, c_R_29_18, c_R_29_19, c_R_29_20, c_R_29_21, c_R_29_23, c_R_23_3, o_aload, o_bald, o_getI, o_getR, o_goto, o_if, o_iload, o_istore, o_push, e_X_operation_0, e_X_operation_1, e_X_operation_4, e_X_operation_7, e_X_operation_8, e_X_operation_11, e_X_operation_12, e_X_operation_16, e_X_operation_19, e_X_operation_20, e_X_operation_21, e_X_operation_22, e_X_operation_25, e_X_operation_26, e_X_operation_29, e_X_operation_30, e_X_operation_33, e_X_operation_36, e_X_operation_37, z_X_operation_13, z_X_operation_38, h]
  exact hK _ (ct_Wp.ret (some (.int _)) rfl d_X_operation_38 ⟨rfl, rfl⟩)
set_option maxHeartbeats 800000 in
set_option maxRecDepth 100000 in
theorem sp_X_operand_nm (l : ct_Lx) (I : Nat → Nat → Int32) (L : Nat → Nat → Int64) (b : Bool) (f i w : Int32) (h : I 10 3 = 0) : ct_Me l M_X_operand 4 0 0 [.ref 10, .int f, .int i, .int w] (c_g I L b) (fun v g => v = some (.long 0) ∧ g = c_g I L b) := by
  refine ct_Me.of (by decide) (Nat.le_of_ble_eq_true rfl) (fun v g h => by rw [h.1]; first | rfl | exact Or.inl rfl) ?_
  refine ct_Wp.go (A_X_operand l) (by decide) [] 80 (fun K hK => ?_)
  simp +decide only [ct_run_s, ct_nx_s, ct_hp, ct_lg, ct_s1, ct_d1, ct_s2, ct_d2, lv_args, Value.category, ct_u2_get, Option.toList, List.cons_append, List.nil_append, Nat.reduceAdd, Nat.reduceSub, Nat.reduceMul, Nat.reduceEqDiff, Nat.reduceLeDiff, Nat.reduceLT, true_and, and_true, and_self, if_true, if_false, reduceCtorEq, Prod.mk.injEq, List.length_cons, List.length_nil, false_and, and_false, not_false_eq_true, not_true_eq_false, true_implies, false_implies, implies_true, Bool.false_eq_true, ite_true, ite_false, reduceIte, or_true, true_or, or_false, false_or, c_sh_10, c_sh_11, c_sh_12, c_sh_13, c_sh_14, c_sh_15, c_sh_16, c_sh_17, c_sh_18, c_sh_19, c_sh_20, c_sh_21, c_sh_22, c_sh_23, c_sh_24, c_sh_25, c_sh_26, c_sh_27, c_sh_28, c_sh_29, c_sh_30, c_sh_31, c_sh_32, c_sh_33, c_sh_34, c_sh_35, c_sh_36, c_sh_37, c_sh_38, c_sh_39, c_R_10_0, c_R_10_4, c_R_10_5, c_R_10_6, c_R_12_0, c_R_12_1, c_R_12_2, c_R_12_3, c_R_12_4, c_R_12_5, c_R_12_6, c_R_12_7, c_R_12_8, c_R_12_9, c_R_23_0, c_R_23_1, c_R_23_2, c_R_27_0, c_R_27_1, c_R_29_0, c_R_29_2, c_R_29_15, c_R_29_16, c_R_29_17, c_R_29_18, c_R_29_19, c_R_29_20, c_R_29_21, c_R_29_23, c_R_23_3, o_aload, o_getI, o_getR, o_goto, o_ic, o_if, o_iload, o_istore, o_lald, o_push, e_X_operand_0, e_X_operand_1, e_X_operand_4, e_X_operand_7, e_X_operand_8, e_X_operand_11, e_X_operand_12, e_X_operand_16, e_X_operand_19, e_X_operand_20, e_X_operand_22, e_X_operand_24, e_X_operand_27, e_X_operand_28, e_X_operand_31, e_X_operand_32, e_X_operand_33, e_X_operand_36, e_X_operand_38, e_X_operand_39, e_X_operand_42, e_X_operand_43, e_X_operand_46, e_X_operand_49, e_X_operand_51, e_X_operand_52, e_X_operand_55, e_X_operand_56, e_X_operand_59, e_X_operand_62, e_X_operand_64, z_X_operand_13, z_X_operand_37, z_X_operand_65, h]
  exact hK _ (ct_Wp.ret (some (.long _)) rfl d_X_operand_37 ⟨rfl, rfl⟩)
/-! THE TWO SIDES: a module is there, or none -/
def n_Q (B : Nat → Nat) (m : Nat) (I : Nat → Nat → Int32) (L : Nat → Nat → Int64) : Prop := v_B B m ∧ m ≤ 4096 ∧ v_Mod B m ∧ T_F B m I L ∧ m_E B m I ∧ w_M B m I ∧ I 10 3 = 1 ∧ I 29 4 = 1
def n_0 (I : Nat → Nat → Int32) : Prop := I 10 3 = 0 ∧ I 29 4 = 0
theorem n_10 {I : Nat → Nat → Int32} (h : I 10 3 = 1) : ¬ I 10 3 = 0 := by rw [h]; decide
/-- both answer the int r -/
def n_AI (l : ct_Lx) (M M' : ct_Mt) (d d' : Nat) (as : List Value) (g : ct_Sg) : Prop := ∃ r : Int32, ct_Me l M d 0 0 (.ref 10 :: as) g (fun v g' => v = some (.int r) ∧ g' = g) ∧ ct_Me l M' d' 0 0 (.ref 29 :: as) g (fun v g' => v = some (.int r) ∧ g' = g)
def n_AL (l : ct_Lx) (M M' : ct_Mt) (d d' : Nat) (as : List Value) (g : ct_Sg) : Prop := ∃ r : Int64, ct_Me l M d 0 0 (.ref 10 :: as) g (fun v g' => v = some (.long r) ∧ g' = g) ∧ ct_Me l M' d' 0 0 (.ref 29 :: as) g (fun v g' => v = some (.long r) ∧ g' = g)
theorem T_F.W {B : Nat → Nat} {m : Nat} {I : Nat → Nat → Int32} {L : Nat → Nat → Int64} (hM : v_Mod B m) (h : T_F B m I L) (hm : m ≤ 4096) (hle : v_FF B m (B (v_qN B m)) ≤ 8192) : c_W I := by
  obtain ⟨⟨-, t1, t2, t3, t4, t5, t6⟩, -⟩ := h
  obtain ⟨-, z1, z2, z3, z4, z5, -⟩ := hM
  have b1 := z1.2.1
  have b2 := z2.2.1
  have b3 := z3.2.1
  have b4 : B (v_qE B m) ≤ 32 := z4.2.2.1
  have b5 := z5.2.1
  have key : ∀ k x, I 13 k = nI x → x ≤ c_mx k → x < 2 ^ 31 → I 13 k = nI (c_N I k) ∧ c_N I k ≤ c_mx k := by
    intro k x e hx hx2
    have : c_N I k = x := by unfold c_N; rw [e]; exact nI_clamp hx2
    rw [this]; exact ⟨e, hx⟩
  intro k hk h1
  have : k = 1 ∨ k = 2 ∨ k = 3 ∨ k = 4 ∨ k = 5 ∨ k = 6 := by omega
  rcases this with e | e | e | e | e | e <;> subst e
  · exact key 1 _ t1 b1 (by omega)
  · exact key 2 _ t2 b2 (by omega)
  · exact key 3 _ t3 b3 (by omega)
  · exact key 4 _ t4 b4 (by omega)
  · exact key 5 _ t5 b5 (by omega)
  · exact key 6 _ t6 hle (by have : v_FI B m (v_qN B m + 1) (B (v_qN B m)) ≤ 8192 := hle; omega)
theorem i32_le6 {w : Int32} (h : nI 7 ≤ w) : ¬ w ≤ 6 := by
  intro q
  have h1 : (nI 7).toInt ≤ w.toInt := Int32.le_iff_toInt_le.mp h
  have h2 : w.toInt ≤ (6 : Int32).toInt := Int32.le_iff_toInt_le.mp q
  have h3 : (nI 7).toInt = 7 := by decide
  have h4 : (6 : Int32).toInt = 6 := by decide
  omega
set_option maxHeartbeats 800000 in
set_option maxRecDepth 100000 in
theorem q_told (l : ct_Lx) {I : Nat → Nat → Int32} {L : Nat → Nat → Int64} (b : Bool) (h : (∃ B m, n_Q B m I L) ∨ n_0 I) (w : Int32) : n_AI l M_X_told M_M_told 1 3 [.int w] (c_g I L b) := by
  have cx := sp_X_told l I L b w
  rcases h with ⟨B, m, hB, hm, hM, hT, hE, hW, h3, h4⟩ | ⟨h3, h4⟩
  · obtain ⟨⟨t0, t1, t2, t3, t4, t5, t6⟩, -⟩ := hT
    have bad : (w < 0 ∨ nI 7 ≤ w) → n_AI l M_X_told M_M_told 1 3 [.int w] (c_g I L b) := by
      intro q
      refine ⟨-1, ?_, sp_M_told_bad l I L b w (q.elim (fun z => Or.inr (Or.inl z)) (fun z => Or.inr (Or.inr (i32_le6 z))))⟩
      have e7 : x_told I w = -1 := by
        unfold x_told; exact if_pos (q.elim (fun z => Or.inr (Or.inl z)) (fun z => Or.inr (Or.inr z)))
      rw [e7] at cx
      exact cx
    rcases pk_ix w (n := 7) (by decide) with q | q | ⟨j, hj, rfl⟩
    · exact bad (Or.inl q)
    · exact bad (Or.inr q)
    · have e1 : x_told I (nI j) = I 13 j := by
        rw [x_told, if_neg (fun z => by
          rcases z with z | z | z
          · exact n_10 h3 z
          · exact nI_pos (by omega) z
          · exact nI_ge (b := 7) (by omega) (by decide) z), nI_clamp (by omega)]
      rw [e1] at cx
      have N1 := hW.1.1
      have : j = 0 ∨ j = 1 ∨ j = 2 ∨ j = 3 ∨ j = 4 ∨ j = 5 ∨ j = 6 := by omega
      rcases this with e | e | e | e | e | e | e <;> subst e
      · refine ⟨I 13 0, cx, ?_⟩
        rw [t0]; exact sp_M_told_0 l I L b hm hE h4
      · refine ⟨I 13 1, cx, ?_⟩
        have e : I 29 9 = I 13 1 := by rw [t1]; exact N1 9 (by decide) (by decide)
        rw [← e]; exact sp_M_told_1 l I L b h4
      · refine ⟨I 13 2, cx, ?_⟩
        have e : I 29 10 = I 13 2 := by rw [t2]; exact N1 10 (by decide) (by decide)
        rw [← e]; exact sp_M_told_2 l I L b h4
      · refine ⟨I 13 3, cx, ?_⟩
        have e : I 29 11 = I 13 3 := by rw [t3]; exact N1 11 (by decide) (by decide)
        rw [← e]; exact sp_M_told_3 l I L b h4
      · refine ⟨I 13 4, cx, ?_⟩
        have e : I 29 12 = I 13 4 := by rw [t4]; exact N1 12 (by decide) (by decide)
        rw [← e]; exact sp_M_told_4 l I L b h4
      · refine ⟨I 13 5, cx, ?_⟩
        have e : I 29 13 = I 13 5 := by rw [t5]; exact N1 13 (by decide) (by decide)
        rw [← e]; exact sp_M_told_5 l I L b h4
      · refine ⟨I 13 6, cx, ?_⟩
        have e : I 29 14 = I 13 6 := by rw [t6]; exact hW.2.2.2.2.2.2.1
        rw [← e]; exact sp_M_told_6 l I L b h4
  · rw [x_told, if_pos (Or.inl h3)] at cx
    exact ⟨-1, cx, sp_M_told_bad l I L b w (Or.inl h4)⟩
/-- what the own tables' rows need -/
theorem n_Q.hf {B : Nat → Nat} {m : Nat} {I : Nat → Nat → Int32} {L : Nat → Nat → Int64} (h : n_Q B m I L) : ∀ j, j < B 6 + B (v_qF B m) → ∃ x, I 14 (j * 4 + 1) = nI x ∧ x ≤ 16 ∧ (B 6 ≤ j → x = 0) := by
  obtain ⟨hB, hm, hM, hT, hE, hW, h3, h4⟩ := h
  intro j hj
  by_cases q : j < B 6
  · obtain ⟨g0, -, g2, -⟩ := hT.2.1 j q
    exact ⟨_, g2, g0.2.2, fun z => absurd q (by omega)⟩
  · obtain ⟨-, -, -, -, g4⟩ := hT.2.2.1 (j - B 6) (by omega)
    rw [show B 6 + (j - B 6) = j from by omega] at g4
    exact ⟨0, g4, by decide, fun _ => rfl⟩
theorem c_sf_in {I : Nat → Nat → Int32} {n k w : Nat} (hk : k < n) (hn : n < 2 ^ 31) (hw : w < 4) : c_sf I n (nI k) (nI w) = I 14 (k * 4 + w) := by
  unfold c_sf
  rw [if_neg (fun z => by
    rcases z with z | z | z | z
    · exact nI_pos (by omega) z
    · exact nI_ge hk hn z
    · exact nI_pos (by omega) z
    · exact z (nI_lt (b := 4) hw (by decide))), nI_clamp (by omega), nI_clamp (by omega)]
set_option maxHeartbeats 800000 in
set_option maxRecDepth 100000 in
theorem q_structure (l : ct_Lx) {I : Nat → Nat → Int32} {L : Nat → Nat → Int64} (b : Bool) (h : (∃ B m, n_Q B m I L) ∨ n_0 I) (k w : Int32) : n_AI l M_X_structure M_M_structure 3 3 [.int k, .int w] (c_g I L b) := by
  rcases h with ⟨B, m, hQ⟩ | ⟨h3, h4⟩
  · obtain ⟨hB, hm, hM, hT, hE, hW, h3, h4⟩ := hQ
    have b6 : B 6 ≤ 32 := hM.2.1.2.1
    have bF : B (v_qF B m) ≤ 32 := hM.2.2.1.2.1
    have cx := sp_X_structure l I L b hT.1.2.1 hT.1.2.2.1 b6 bF k w
    rw [if_neg (n_10 h3)] at cx
    have bad : (k < 0 ∨ nI (B 6 + B (v_qF B m)) ≤ k ∨ w < 0 ∨ nI 4 ≤ w) → n_AI l M_X_structure M_M_structure 3 3 [.int k, .int w] (c_g I L b) := by
      intro q
      refine ⟨-1, ?_, sp_M_structure_bad l I L b hW.1 k w (Or.inr ?_)⟩
      · rw [c_sf, if_pos (by
          rcases q with q | q | q | q
          · exact Or.inl q
          · exact Or.inr (Or.inl q)
          · exact Or.inr (Or.inr (Or.inl q))
          · exact Or.inr (Or.inr (Or.inr (Int32.not_lt.mpr q))))] at cx
        exact cx
      · rcases q with q | q | q | q
        · exact Or.inl q
        · exact Or.inr (Or.inl q)
        · exact Or.inr (Or.inr (Or.inl q))
        · exact Or.inr (Or.inr (Or.inr (fun z => by
            have h1 : (nI 4).toInt ≤ w.toInt := Int32.le_iff_toInt_le.mp q
            have h2 : w.toInt ≤ (3 : Int32).toInt := Int32.le_iff_toInt_le.mp z
            have h3 : (nI 4).toInt = 4 := by decide
            have h4 : (3 : Int32).toInt = 3 := by decide
            omega)))
    rcases pk_ix k (n := B 6 + B (v_qF B m)) (by omega) with q | q | ⟨j, hj, rfl⟩
    · exact bad (Or.inl q)
    · exact bad (Or.inr (Or.inl q))
    rcases pk_ix w (n := 4) (by decide) with q | q | ⟨x, hx, rfl⟩
    · exact bad (Or.inr (Or.inr (Or.inl q)))
    · exact bad (Or.inr (Or.inr (Or.inr q)))
    rw [c_sf_in hj (by omega) hx] at cx
    refine ⟨_, cx, ?_⟩
    by_cases y : j < B 6
    · obtain ⟨g0, g1, g2, g3, g4, g5, g6⟩ := hT.2.1 j y
      have eS : v_SA B m j = v_pS B m 7 j := by unfold v_SA; rw [if_pos y]
      rw [← eS] at g1 g2
      have : x = 0 ∨ x = 1 ∨ x = 2 ∨ x = 3 := by omega
      rcases this with e | e | e | e <;> subst e
      · rw [g1]; exact sp_M_structure_o0 l I L b hm hE hW.1 hW.2.1 h4 (j := j) y
      · rw [g2]; exact sp_M_structure_o1 l I L b hm hE hW.1 hW.2.1 h4 (j := j) y
      · rw [g3]; exact sp_M_structure_o2 l I L b hm hE hW.1 hW.2.1 h4 (j := j) y
      · rw [g4]; exact sp_M_structure_o3 l I L b hm hE hW.1 hW.2.1 h4 (j := j) y
    · obtain ⟨i, rfl⟩ : ∃ i, j = B 6 + i := ⟨j - B 6, by omega⟩
      have hi : i < B (v_qF B m) := by omega
      obtain ⟨g0, g2, g3, g1, g4⟩ := hT.2.2.1 i hi
      have eS : v_SA B m (v_n B m 9 + i) = v_qF B m + 1 + 4 * i := by
        show v_SA B m (B 6 + i) = _
        unfold v_SA; rw [if_neg (by omega)]; congr 2; omega
      rw [← eS] at g1 g2 g3
      have : x = 0 ∨ x = 1 ∨ x = 2 ∨ x = 3 := by omega
      rcases this with e | e | e | e <;> subst e
      · rw [g1]; exact sp_M_structure_f0 l I L b hm hE hW.1 hW.2.1 h4 (j := i) hi
      · rw [g4]; exact sp_M_structure_f1 l I L b hm hE hW.1 hW.2.1 h4 (j := i) hi
      · rw [g2, c_num_2]; exact sp_M_structure_f2 l I L b hm hE hW.1 hW.2.1 h4 (j := i) hi
      · rw [g3]; exact sp_M_structure_f3 l I L b hm hE hW.1 hW.2.1 h4 (j := i) hi
  · exact ⟨-1, sp_X_structure_nm l I L b k w h3, sp_M_structure_nm l I L b k w h4⟩
/-- a type's number, both ways -/
theorem m_ta_v {B : Nat → Nat} {m p : Nat} : m_ta B m p = lN (v_v B m p) := rfl
set_option maxHeartbeats 800000 in
set_option maxRecDepth 100000 in
theorem q_field (l : ct_Lx) {I : Nat → Nat → Int32} {L : Nat → Nat → Int64} (b : Bool) (h : (∃ B m, n_Q B m I L) ∨ n_0 I) (k i : Int32) : n_AL l M_X_field M_M_field 4 4 [.int k, .int i] (c_g I L b) := by
  rcases h with ⟨B, m, hQ⟩ | ⟨h3, h4⟩
  · have hf := hQ.hf
    obtain ⟨hB, hm, hM, hT, hE, hW, h3, h4⟩ := hQ
    have b6 : B 6 ≤ 32 := hM.2.1.2.1
    have bF : B (v_qF B m) ≤ 32 := hM.2.2.1.2.1
    have cx := sp_X_field l I L b hT.1.2.1 hT.1.2.2.1 b6 bF hf k i
    rw [if_neg (n_10 h3)] at cx
    have i0 : ∀ i : Int32, i < 0 ∨ (0 : Int32) ≤ i := fun i => by
      by_cases q : i < 0
      · exact Or.inl q
      · exact Or.inr (Int32.not_lt.mp q)
    have neg : ∀ i : Int32, i < 0 ∨ (-1 : Int32) ≤ i := fun i => (i0 i).elim Or.inl (fun q => Or.inr (Int32.le_trans (by decide) q))
    have bad : (k < 0 ∨ nI (B 6) ≤ k) → c_ft I L (B 6 + B (v_qF B m)) k i = 0 → n_AL l M_X_field M_M_field 4 4 [.int k, .int i] (c_g I L b) := by
      intro q e
      rw [e] at cx
      exact ⟨0, cx, sp_M_field_bad l I L b hW.1 k i (Or.inr q)⟩
    rcases pk_ix k (n := B 6 + B (v_qF B m)) (by omega) with q | q | ⟨j, hj, rfl⟩
    · refine bad (Or.inl q) ?_
      unfold c_ft c_sf
      rw [if_pos (Or.inl q), if_pos (neg i)]
    · refine bad (Or.inr (Int32.le_trans (nI_le (by omega) (by omega)) q)) ?_
      unfold c_ft c_sf
      rw [if_pos (Or.inr (Or.inl q)), if_pos (neg i)]
    · have e1 : c_sf I (B 6 + B (v_qF B m)) (nI j) 1 = I 14 (j * 4 + 1) := c_sf_in (w := 1) hj (by omega) (by decide)
      by_cases y : j < B 6
      · obtain ⟨g0, g1, g2, g3, g4, g5, g6⟩ := hT.2.1 j y
        have eS : v_SA B m j = v_pS B m 7 j := by unfold v_SA; rw [if_pos y]
        have cm := sp_M_field l I L b hm hE hW.1 hW.2.1 h4 (j := j) y i
        rw [eS] at cm
        refine ⟨_, cx, ?_⟩
        have e : c_ft I L (B 6 + B (v_qF B m)) (nI j) i = m_lv B m (v_pS B m 7 j + 1) i := by
          unfold c_ft m_lv
          rw [e1, g2]
          by_cases z : i < 0 ∨ nI (B (v_pS B m 7 j + 1)) ≤ i
          · rw [if_pos z, if_pos z]
          · rw [if_neg z, if_neg z]
            obtain ⟨x, hx, rfl⟩ := nI_of (x := i) (fun u => z (Or.inl u))
            have hx2 : x < B (v_pS B m 7 j + 1) := by
              have : ¬ nI (B (v_pS B m 7 j + 1)) ≤ nI x := fun u => z (Or.inr u)
              rw [nI_leI (by omega) hx] at this; omega
            rw [nI_clamp (by omega), nI_clamp hx, g6 x hx2]; rfl
        rw [e]; exact cm
      · obtain ⟨-, -, -, -, g4⟩ := hT.2.2.1 (j - B 6) (by omega)
        rw [show B 6 + (j - B 6) = j from by omega] at g4
        refine bad (Or.inr (nI_le (by omega) (by omega))) ?_
        unfold c_ft
        rw [e1, g4, if_pos (i0 i)]
  · exact ⟨0, sp_X_field_nm l I L b k i h3, sp_M_field_nm l I L b k i h4⟩
