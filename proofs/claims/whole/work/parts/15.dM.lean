theorem d_M_init_0 : decode prog_7_method_1_code 0 = .ok (.aload_n 0, 1) := by decide +kernel
theorem d_M_init_1 : decode prog_7_method_1_code 1 = .ok (.invokespecial 1, 3) := by decide +kernel
theorem d_M_init_4 : decode prog_7_method_1_code 4 = .ok (.aload_n 0, 1) := by decide +kernel
theorem d_M_init_5 : decode prog_7_method_1_code 5 = .ok (.ldc 7, 2) := by decide +kernel
theorem d_M_init_7 : decode prog_7_method_1_code 7 = .ok (.newarray .byte, 2) := by decide +kernel
theorem d_M_init_9 : decode prog_7_method_1_code 9 = .ok (.putfield 8, 3) := by decide +kernel
theorem d_M_init_12 : decode prog_7_method_1_code 12 = .ok (.aload_n 0, 1) := by decide +kernel
theorem d_M_init_13 : decode prog_7_method_1_code 13 = .ok (.ldc 7, 2) := by decide +kernel
theorem d_M_init_15 : decode prog_7_method_1_code 15 = .ok (.newarray .byte, 2) := by decide +kernel
theorem d_M_init_17 : decode prog_7_method_1_code 17 = .ok (.putfield 14, 3) := by decide +kernel
theorem d_M_init_20 : decode prog_7_method_1_code 20 = .ok (.aload_n 0, 1) := by decide +kernel
theorem d_M_init_21 : decode prog_7_method_1_code 21 = .ok (.bipush 64, 2) := by decide +kernel
theorem d_M_init_23 : decode prog_7_method_1_code 23 = .ok (.newarray .int, 2) := by decide +kernel
theorem d_M_init_25 : decode prog_7_method_1_code 25 = .ok (.putfield 17, 3) := by decide +kernel
theorem d_M_init_28 : decode prog_7_method_1_code 28 = .ok (.aload_n 0, 1) := by decide +kernel
theorem d_M_init_29 : decode prog_7_method_1_code 29 = .ok (.bipush 32, 2) := by decide +kernel
theorem d_M_init_31 : decode prog_7_method_1_code 31 = .ok (.newarray .int, 2) := by decide +kernel
theorem d_M_init_33 : decode prog_7_method_1_code 33 = .ok (.putfield 21, 3) := by decide +kernel
theorem d_M_init_36 : decode prog_7_method_1_code 36 = .ok (.aload_n 0, 1) := by decide +kernel
theorem d_M_init_37 : decode prog_7_method_1_code 37 = .ok (.bipush 32, 2) := by decide +kernel
theorem d_M_init_39 : decode prog_7_method_1_code 39 = .ok (.newarray .int, 2) := by decide +kernel
theorem d_M_init_41 : decode prog_7_method_1_code 41 = .ok (.putfield 24, 3) := by decide +kernel
theorem d_M_init_44 : decode prog_7_method_1_code 44 = .ok (.aload_n 0, 1) := by decide +kernel
theorem d_M_init_45 : decode prog_7_method_1_code 45 = .ok (.bipush 64, 2) := by decide +kernel
theorem d_M_init_47 : decode prog_7_method_1_code 47 = .ok (.newarray .int, 2) := by decide +kernel
theorem d_M_init_49 : decode prog_7_method_1_code 49 = .ok (.putfield 27, 3) := by decide +kernel
theorem d_M_init_52 : decode prog_7_method_1_code 52 = .ok (.aload_n 0, 1) := by decide +kernel
theorem d_M_init_53 : decode prog_7_method_1_code 53 = .ok (.bipush 65, 2) := by decide +kernel
theorem d_M_init_55 : decode prog_7_method_1_code 55 = .ok (.newarray .int, 2) := by decide +kernel
theorem d_M_init_57 : decode prog_7_method_1_code 57 = .ok (.putfield 30, 3) := by decide +kernel
theorem d_M_init_60 : decode prog_7_method_1_code 60 = .ok (.aload_n 0, 1) := by decide +kernel
theorem d_M_init_61 : decode prog_7_method_1_code 61 = .ok (.sipush 8193, 3) := by decide +kernel
theorem d_M_init_64 : decode prog_7_method_1_code 64 = .ok (.newarray .int, 2) := by decide +kernel
theorem d_M_init_66 : decode prog_7_method_1_code 66 = .ok (.putfield 33, 3) := by decide +kernel
theorem d_M_init_69 : decode prog_7_method_1_code 69 = .ok (.aload_n 0, 1) := by decide +kernel
theorem d_M_init_70 : decode prog_7_method_1_code 70 = .ok (.ldc 7, 2) := by decide +kernel
theorem d_M_init_72 : decode prog_7_method_1_code 72 = .ok (.newarray .byte, 2) := by decide +kernel
theorem d_M_init_74 : decode prog_7_method_1_code 74 = .ok (.putfield 36, 3) := by decide +kernel
theorem d_M_init_77 : decode prog_7_method_1_code 77 = .ok (.aload_n 0, 1) := by decide +kernel
theorem d_M_init_78 : decode prog_7_method_1_code 78 = .ok (.bipush 32, 2) := by decide +kernel
theorem d_M_init_80 : decode prog_7_method_1_code 80 = .ok (.newarray .boolean, 2) := by decide +kernel
theorem d_M_init_82 : decode prog_7_method_1_code 82 = .ok (.putfield 39, 3) := by decide +kernel
theorem d_M_init_85 : decode prog_7_method_1_code 85 = .ok (.return_, 1) := by decide +kernel
abbrev T_M_init : List (Nat × ct_PT) := [(0, o_aload 0 1), (1, o_oinit), (4, o_aload 0 1), (5, o_push (.int 65536) 2), (7, o_newa 2), (9, o_putR 4 24 0), (12, o_aload 0 1), (13, o_push (.int 65536) 2), (15, o_newa 2), (17, o_putR 4 24 2), (20, o_aload 0 1), (21, o_push (.int 64) 2), (23, o_newa 1), (25, o_putR 4 24 15), (28, o_aload 0 1), (29, o_push (.int 32) 2), (31, o_newa 1), (33, o_putR 4 24 16), (36, o_aload 0 1), (37, o_push (.int 32) 2), (39, o_newa 1), (41, o_putR 4 24 17), (44, o_aload 0 1), (45, o_push (.int 64) 2), (47, o_newa 1), (49, o_putR 4 24 18), (52, o_aload 0 1), (53, o_push (.int 65) 2), (55, o_newa 1), (57, o_putR 4 24 19), (60, o_aload 0 1), (61, o_push (.int 8193) 3), (64, o_newa 1), (66, o_putR 4 24 20), (69, o_aload 0 1), (70, o_push (.int 65536) 2), (72, o_newa 2), (74, o_putR 4 24 21), (77, o_aload 0 1), (78, o_push (.int 32) 2), (80, o_newa 4), (82, o_putR 4 24 23)]
set_option maxRecDepth 100000 in
theorem A_M_init (l : ct_Lx) : ct_al l M_M_init (T_M_init) := by
  refine ct_al.cons (so_aload_n d_M_init_0 rfl) ?_
  refine ct_al.cons (so_oinit wd_337 wd_1 wd_2 d_M_init_1) ?_
  refine ct_al.cons (so_aload_n d_M_init_4 rfl) ?_
  refine ct_al.cons (so_ldc wd_338 d_M_init_5) ?_
  refine ct_al.cons (so_newa (Or.inr (Or.inl ⟨rfl, rfl⟩)) rfl wd_12 d_M_init_7) ?_
  refine ct_al.cons (so_putR (Cn := "CodeTablesModel") (T := ct_T4) kc_4 (by decide) (Or.inr ⟨_, rfl⟩) rfl (Or.inr ⟨rfl, rfl, rfl⟩) wd_339 d_M_init_9) ?_
  refine ct_al.cons (so_aload_n d_M_init_12 rfl) ?_
  refine ct_al.cons (so_ldc wd_338 d_M_init_13) ?_
  refine ct_al.cons (so_newa (Or.inr (Or.inl ⟨rfl, rfl⟩)) rfl wd_12 d_M_init_15) ?_
  refine ct_al.cons (so_putR (Cn := "CodeTablesModel") (T := ct_T4) kc_4 (by decide) (Or.inr ⟨_, rfl⟩) rfl (Or.inr ⟨rfl, rfl, rfl⟩) wd_340 d_M_init_17) ?_
  refine ct_al.cons (so_aload_n d_M_init_20 rfl) ?_
  refine ct_al.cons (so_bipush d_M_init_21 (by decide)) ?_
  refine ct_al.cons (so_newa (Or.inl ⟨rfl, rfl⟩) rfl wd_3 d_M_init_23) ?_
  refine ct_al.cons (so_putR (Cn := "CodeTablesModel") (T := ct_T4) kc_4 (by decide) (Or.inr ⟨_, rfl⟩) rfl (Or.inr ⟨rfl, rfl, rfl⟩) wd_341 d_M_init_25) ?_
  refine ct_al.cons (so_aload_n d_M_init_28 rfl) ?_
  refine ct_al.cons (so_bipush d_M_init_29 (by decide)) ?_
  refine ct_al.cons (so_newa (Or.inl ⟨rfl, rfl⟩) rfl wd_3 d_M_init_31) ?_
  refine ct_al.cons (so_putR (Cn := "CodeTablesModel") (T := ct_T4) kc_4 (by decide) (Or.inr ⟨_, rfl⟩) rfl (Or.inr ⟨rfl, rfl, rfl⟩) wd_342 d_M_init_33) ?_
  refine ct_al.cons (so_aload_n d_M_init_36 rfl) ?_
  refine ct_al.cons (so_bipush d_M_init_37 (by decide)) ?_
  refine ct_al.cons (so_newa (Or.inl ⟨rfl, rfl⟩) rfl wd_3 d_M_init_39) ?_
  refine ct_al.cons (so_putR (Cn := "CodeTablesModel") (T := ct_T4) kc_4 (by decide) (Or.inr ⟨_, rfl⟩) rfl (Or.inr ⟨rfl, rfl, rfl⟩) wd_343 d_M_init_41) ?_
  refine ct_al.cons (so_aload_n d_M_init_44 rfl) ?_
  refine ct_al.cons (so_bipush d_M_init_45 (by decide)) ?_
  refine ct_al.cons (so_newa (Or.inl ⟨rfl, rfl⟩) rfl wd_3 d_M_init_47) ?_
  refine ct_al.cons (so_putR (Cn := "CodeTablesModel") (T := ct_T4) kc_4 (by decide) (Or.inr ⟨_, rfl⟩) rfl (Or.inr ⟨rfl, rfl, rfl⟩) wd_344 d_M_init_49) ?_
  refine ct_al.cons (so_aload_n d_M_init_52 rfl) ?_
  refine ct_al.cons (so_bipush d_M_init_53 (by decide)) ?_
  refine ct_al.cons (so_newa (Or.inl ⟨rfl, rfl⟩) rfl wd_3 d_M_init_55) ?_
  refine ct_al.cons (so_putR (Cn := "CodeTablesModel") (T := ct_T4) kc_4 (by decide) (Or.inr ⟨_, rfl⟩) rfl (Or.inr ⟨rfl, rfl, rfl⟩) wd_345 d_M_init_57) ?_
  refine ct_al.cons (so_aload_n d_M_init_60 rfl) ?_
  refine ct_al.cons (so_sipush d_M_init_61 (by decide)) ?_
  refine ct_al.cons (so_newa (Or.inl ⟨rfl, rfl⟩) rfl wd_3 d_M_init_64) ?_
  refine ct_al.cons (so_putR (Cn := "CodeTablesModel") (T := ct_T4) kc_4 (by decide) (Or.inr ⟨_, rfl⟩) rfl (Or.inr ⟨rfl, rfl, rfl⟩) wd_346 d_M_init_66) ?_
  refine ct_al.cons (so_aload_n d_M_init_69 rfl) ?_
  refine ct_al.cons (so_ldc wd_338 d_M_init_70) ?_
  refine ct_al.cons (so_newa (Or.inr (Or.inl ⟨rfl, rfl⟩)) rfl wd_12 d_M_init_72) ?_
  refine ct_al.cons (so_putR (Cn := "CodeTablesModel") (T := ct_T4) kc_4 (by decide) (Or.inr ⟨_, rfl⟩) rfl (Or.inr ⟨rfl, rfl, rfl⟩) wd_347 d_M_init_74) ?_
  refine ct_al.cons (so_aload_n d_M_init_77 rfl) ?_
  refine ct_al.cons (so_bipush d_M_init_78 (by decide)) ?_
  refine ct_al.cons (so_newa (Or.inr (Or.inr (Or.inr ⟨rfl, rfl⟩))) rfl wd_348 d_M_init_80) ?_
  refine ct_al.cons (so_putR (Cn := "CodeTablesModel") (T := ct_T4) kc_4 (by decide) (Or.inr ⟨_, rfl⟩) rfl (Or.inr ⟨rfl, rfl, rfl⟩) wd_349 d_M_init_82) ?_
  exact ct_al.nil
theorem e_M_init_0 : ct_tab (T_M_init) 0 = some (o_aload 0 1) := rfl
theorem e_M_init_1 : ct_tab (T_M_init) 1 = some (o_oinit) := rfl
theorem e_M_init_4 : ct_tab (T_M_init) 4 = some (o_aload 0 1) := rfl
theorem e_M_init_5 : ct_tab (T_M_init) 5 = some (o_push (.int 65536) 2) := rfl
theorem e_M_init_7 : ct_tab (T_M_init) 7 = some (o_newa 2) := rfl
theorem e_M_init_9 : ct_tab (T_M_init) 9 = some (o_putR 4 24 0) := rfl
theorem e_M_init_12 : ct_tab (T_M_init) 12 = some (o_aload 0 1) := rfl
theorem e_M_init_13 : ct_tab (T_M_init) 13 = some (o_push (.int 65536) 2) := rfl
theorem e_M_init_15 : ct_tab (T_M_init) 15 = some (o_newa 2) := rfl
theorem e_M_init_17 : ct_tab (T_M_init) 17 = some (o_putR 4 24 2) := rfl
theorem e_M_init_20 : ct_tab (T_M_init) 20 = some (o_aload 0 1) := rfl
theorem e_M_init_21 : ct_tab (T_M_init) 21 = some (o_push (.int 64) 2) := rfl
theorem e_M_init_23 : ct_tab (T_M_init) 23 = some (o_newa 1) := rfl
theorem e_M_init_25 : ct_tab (T_M_init) 25 = some (o_putR 4 24 15) := rfl
theorem e_M_init_28 : ct_tab (T_M_init) 28 = some (o_aload 0 1) := rfl
theorem e_M_init_29 : ct_tab (T_M_init) 29 = some (o_push (.int 32) 2) := rfl
theorem e_M_init_31 : ct_tab (T_M_init) 31 = some (o_newa 1) := rfl
theorem e_M_init_33 : ct_tab (T_M_init) 33 = some (o_putR 4 24 16) := rfl
theorem e_M_init_36 : ct_tab (T_M_init) 36 = some (o_aload 0 1) := rfl
theorem e_M_init_37 : ct_tab (T_M_init) 37 = some (o_push (.int 32) 2) := rfl
theorem e_M_init_39 : ct_tab (T_M_init) 39 = some (o_newa 1) := rfl
theorem e_M_init_41 : ct_tab (T_M_init) 41 = some (o_putR 4 24 17) := rfl
theorem e_M_init_44 : ct_tab (T_M_init) 44 = some (o_aload 0 1) := rfl
theorem e_M_init_45 : ct_tab (T_M_init) 45 = some (o_push (.int 64) 2) := rfl
theorem e_M_init_47 : ct_tab (T_M_init) 47 = some (o_newa 1) := rfl
theorem e_M_init_49 : ct_tab (T_M_init) 49 = some (o_putR 4 24 18) := rfl
theorem e_M_init_52 : ct_tab (T_M_init) 52 = some (o_aload 0 1) := rfl
theorem e_M_init_53 : ct_tab (T_M_init) 53 = some (o_push (.int 65) 2) := rfl
theorem e_M_init_55 : ct_tab (T_M_init) 55 = some (o_newa 1) := rfl
theorem e_M_init_57 : ct_tab (T_M_init) 57 = some (o_putR 4 24 19) := rfl
theorem e_M_init_60 : ct_tab (T_M_init) 60 = some (o_aload 0 1) := rfl
theorem e_M_init_61 : ct_tab (T_M_init) 61 = some (o_push (.int 8193) 3) := rfl
theorem e_M_init_64 : ct_tab (T_M_init) 64 = some (o_newa 1) := rfl
theorem e_M_init_66 : ct_tab (T_M_init) 66 = some (o_putR 4 24 20) := rfl
theorem e_M_init_69 : ct_tab (T_M_init) 69 = some (o_aload 0 1) := rfl
theorem e_M_init_70 : ct_tab (T_M_init) 70 = some (o_push (.int 65536) 2) := rfl
theorem e_M_init_72 : ct_tab (T_M_init) 72 = some (o_newa 2) := rfl
theorem e_M_init_74 : ct_tab (T_M_init) 74 = some (o_putR 4 24 21) := rfl
theorem e_M_init_77 : ct_tab (T_M_init) 77 = some (o_aload 0 1) := rfl
theorem e_M_init_78 : ct_tab (T_M_init) 78 = some (o_push (.int 32) 2) := rfl
theorem e_M_init_80 : ct_tab (T_M_init) 80 = some (o_newa 4) := rfl
theorem e_M_init_82 : ct_tab (T_M_init) 82 = some (o_putR 4 24 23) := rfl
theorem d_M_type_0 : decode prog_7_method_2_code 0 = .ok (.iload_n 3, 1) := by decide +kernel
theorem d_M_type_1 : decode prog_7_method_2_code 1 = .ok (.iconst 1, 1) := by decide +kernel
theorem d_M_type_2 : decode prog_7_method_2_code 2 = .ok (.if_icmp .lt 9, 3) := by decide +kernel
theorem d_M_type_5 : decode prog_7_method_2_code 5 = .ok (.iload_n 3, 1) := by decide +kernel
theorem d_M_type_6 : decode prog_7_method_2_code 6 = .ok (.bipush 8, 2) := by decide +kernel
theorem d_M_type_8 : decode prog_7_method_2_code 8 = .ok (.if_icmp .le 5, 3) := by decide +kernel
theorem d_M_type_11 : decode prog_7_method_2_code 11 = .ok (.iconst (-1), 1) := by decide +kernel
theorem d_M_type_12 : decode prog_7_method_2_code 12 = .ok (.ireturn, 1) := by decide +kernel
theorem d_M_type_13 : decode prog_7_method_2_code 13 = .ok (.aload_n 0, 1) := by decide +kernel
theorem d_M_type_14 : decode prog_7_method_2_code 14 = .ok (.getfield 43, 3) := by decide +kernel
theorem d_M_type_17 : decode prog_7_method_2_code 17 = .ok (.iload_n 3, 1) := by decide +kernel
theorem d_M_type_18 : decode prog_7_method_2_code 18 = .ok (.iadd, 1) := by decide +kernel
theorem d_M_type_19 : decode prog_7_method_2_code 19 = .ok (.ldc 7, 2) := by decide +kernel
theorem d_M_type_21 : decode prog_7_method_2_code 21 = .ok (.if_icmp .le 6, 3) := by decide +kernel
theorem d_M_type_24 : decode prog_7_method_2_code 24 = .ok (.bipush (-3), 2) := by decide +kernel
theorem d_M_type_26 : decode prog_7_method_2_code 26 = .ok (.ireturn, 1) := by decide +kernel
theorem d_M_type_27 : decode prog_7_method_2_code 27 = .ok (.iload_n 3, 1) := by decide +kernel
theorem d_M_type_28 : decode prog_7_method_2_code 28 = .ok (.iconst 1, 1) := by decide +kernel
theorem d_M_type_29 : decode prog_7_method_2_code 29 = .ok (.isub, 1) := by decide +kernel
theorem d_M_type_30 : decode prog_7_method_2_code 30 = .ok (.istore 4, 2) := by decide +kernel
theorem d_M_type_32 : decode prog_7_method_2_code 32 = .ok (.iload 4, 2) := by decide +kernel
theorem d_M_type_34 : decode prog_7_method_2_code 34 = .ok (.ifCond .lt 37, 3) := by decide +kernel
theorem d_M_type_37 : decode prog_7_method_2_code 37 = .ok (.aload_n 0, 1) := by decide +kernel
theorem d_M_type_38 : decode prog_7_method_2_code 38 = .ok (.getfield 8, 3) := by decide +kernel
theorem d_M_type_41 : decode prog_7_method_2_code 41 = .ok (.aload_n 0, 1) := by decide +kernel
theorem d_M_type_42 : decode prog_7_method_2_code 42 = .ok (.getfield 43, 3) := by decide +kernel
theorem d_M_type_45 : decode prog_7_method_2_code 45 = .ok (.lload_n 1, 1) := by decide +kernel
theorem d_M_type_46 : decode prog_7_method_2_code 46 = .ok (.bipush 8, 2) := by decide +kernel
theorem d_M_type_48 : decode prog_7_method_2_code 48 = .ok (.iload 4, 2) := by decide +kernel
theorem d_M_type_50 : decode prog_7_method_2_code 50 = .ok (.imul, 1) := by decide +kernel
theorem d_M_type_51 : decode prog_7_method_2_code 51 = .ok (.lshr, 1) := by decide +kernel
theorem d_M_type_52 : decode prog_7_method_2_code 52 = .ok (.l2i, 1) := by decide +kernel
theorem d_M_type_53 : decode prog_7_method_2_code 53 = .ok (.i2b, 1) := by decide +kernel
theorem d_M_type_54 : decode prog_7_method_2_code 54 = .ok (.bastore, 1) := by decide +kernel
theorem d_M_type_55 : decode prog_7_method_2_code 55 = .ok (.aload_n 0, 1) := by decide +kernel
theorem d_M_type_56 : decode prog_7_method_2_code 56 = .ok (.dup, 1) := by decide +kernel
theorem d_M_type_57 : decode prog_7_method_2_code 57 = .ok (.getfield 43, 3) := by decide +kernel
theorem d_M_type_60 : decode prog_7_method_2_code 60 = .ok (.iconst 1, 1) := by decide +kernel
theorem d_M_type_61 : decode prog_7_method_2_code 61 = .ok (.iadd, 1) := by decide +kernel
theorem d_M_type_62 : decode prog_7_method_2_code 62 = .ok (.putfield 43, 3) := by decide +kernel
theorem d_M_type_65 : decode prog_7_method_2_code 65 = .ok (.iinc 4 (-1), 3) := by decide +kernel
theorem d_M_type_68 : decode prog_7_method_2_code 68 = .ok (.goto (-36), 3) := by decide +kernel
theorem d_M_type_71 : decode prog_7_method_2_code 71 = .ok (.aload_n 0, 1) := by decide +kernel
theorem d_M_type_72 : decode prog_7_method_2_code 72 = .ok (.getfield 43, 3) := by decide +kernel
theorem d_M_type_75 : decode prog_7_method_2_code 75 = .ok (.ireturn, 1) := by decide +kernel
abbrev T_M_type : List (Nat × ct_PT) := [(0, o_iload 3 1), (1, o_push (.int 1) 1), (2, o_ic (fun x y => x < y) (fun x y => ¬ x < y) 11), (5, o_iload 3 1), (6, o_push (.int 8) 2), (8, o_ic (fun x y => x ≤ y) (fun x y => ¬ x ≤ y) 13), (11, o_push (.int (-1)) 1), (13, o_aload 0 1), (14, o_getI 4 24 1), (17, o_iload 3 1), (18, o_ii fun x y => x + y), (19, o_push (.int 65536) 2), (21, o_ic (fun x y => x ≤ y) (fun x y => ¬ x ≤ y) 27), (24, o_push (.int (-3)) 2), (27, o_iload 3 1), (28, o_push (.int 1) 1), (29, o_ii fun x y => x - y), (30, o_istore 4 2), (32, o_iload 4 2), (34, o_if (fun x => x < 0) (fun x => ¬ x < 0) 71), (37, o_aload 0 1), (38, o_getR 4 24 0), (41, o_aload 0 1), (42, o_getI 4 24 1), (45, o_lload 1 1), (46, o_push (.int 8) 2), (48, o_iload 4 2), (50, o_ii fun x y => x * y), (51, o_li fun x y => x >>> (y.toInt64 &&& 63)), (52, o_l2i), (53, o_i1 fun x => x.toInt8.toInt32), (54, o_bast), (55, o_aload 0 1), (56, o_dup), (57, o_getI 4 24 1), (60, o_push (.int 1) 1), (61, o_ii fun x y => x + y), (62, o_putI 4 24 1), (65, o_iinc 4 (-1)), (68, o_goto 32), (71, o_aload 0 1), (72, o_getI 4 24 1)]
set_option maxRecDepth 100000 in
theorem A_M_type (l : ct_Lx) : ct_al l M_M_type (T_M_type) := by
  refine ct_al.cons (so_iload_n d_M_type_0 rfl) ?_
  refine ct_al.cons (so_iconst d_M_type_1 (by decide)) ?_
  refine ct_al.cons (so_ic_lt d_M_type_2 (by decide)) ?_
  refine ct_al.cons (so_iload_n d_M_type_5 rfl) ?_
  refine ct_al.cons (so_bipush d_M_type_6 (by decide)) ?_
  refine ct_al.cons (so_ic_le d_M_type_8 (by decide)) ?_
  refine ct_al.cons (so_iconst d_M_type_11 (by decide)) ?_
  refine ct_al.cons (so_aload_n d_M_type_13 rfl) ?_
  refine ct_al.cons (so_getI (Cn := "CodeTablesModel") (T := ct_T4) kc_4 (by decide) rfl rfl wd_350 d_M_type_14) ?_
  refine ct_al.cons (so_iload_n d_M_type_17 rfl) ?_
  refine ct_al.cons (so_iadd d_M_type_18) ?_
  refine ct_al.cons (so_ldc wd_338 d_M_type_19) ?_
  refine ct_al.cons (so_ic_le d_M_type_21 (by decide)) ?_
  refine ct_al.cons (so_bipush d_M_type_24 (by decide)) ?_
  refine ct_al.cons (so_iload_n d_M_type_27 rfl) ?_
  refine ct_al.cons (so_iconst d_M_type_28 (by decide)) ?_
  refine ct_al.cons (so_isub d_M_type_29) ?_
  refine ct_al.cons (so_istore d_M_type_30 (by decide)) ?_
  refine ct_al.cons (so_iload d_M_type_32) ?_
  refine ct_al.cons (so_if_lt d_M_type_34 (by decide)) ?_
  refine ct_al.cons (so_aload_n d_M_type_37 rfl) ?_
  refine ct_al.cons (so_getR (Cn := "CodeTablesModel") (T := ct_T4) kc_4 (by decide) rfl rfl wd_339 d_M_type_38) ?_
  refine ct_al.cons (so_aload_n d_M_type_41 rfl) ?_
  refine ct_al.cons (so_getI (Cn := "CodeTablesModel") (T := ct_T4) kc_4 (by decide) rfl rfl wd_350 d_M_type_42) ?_
  refine ct_al.cons (so_lload_n d_M_type_45 rfl) ?_
  refine ct_al.cons (so_bipush d_M_type_46 (by decide)) ?_
  refine ct_al.cons (so_iload d_M_type_48) ?_
  refine ct_al.cons (so_imul d_M_type_50) ?_
  refine ct_al.cons (so_lshr d_M_type_51) ?_
  refine ct_al.cons (so_l2i d_M_type_52) ?_
  refine ct_al.cons (so_i2b d_M_type_53) ?_
  refine ct_al.cons (so_bast d_M_type_54) ?_
  refine ct_al.cons (so_aload_n d_M_type_55 rfl) ?_
  refine ct_al.cons (so_dup d_M_type_56) ?_
  refine ct_al.cons (so_getI (Cn := "CodeTablesModel") (T := ct_T4) kc_4 (by decide) rfl rfl wd_350 d_M_type_57) ?_
  refine ct_al.cons (so_iconst d_M_type_60 (by decide)) ?_
  refine ct_al.cons (so_iadd d_M_type_61) ?_
  refine ct_al.cons (so_putI (Cn := "CodeTablesModel") (T := ct_T4) kc_4 (by decide) rfl rfl (Or.inl rfl) wd_350 d_M_type_62) ?_
  refine ct_al.cons (so_iinc d_M_type_65 (by decide) (by decide)) ?_
  refine ct_al.cons (so_goto d_M_type_68 (by decide)) ?_
  refine ct_al.cons (so_aload_n d_M_type_71 rfl) ?_
  refine ct_al.cons (so_getI (Cn := "CodeTablesModel") (T := ct_T4) kc_4 (by decide) rfl rfl wd_350 d_M_type_72) ?_
  exact ct_al.nil
theorem e_M_type_0 : ct_tab (T_M_type) 0 = some (o_iload 3 1) := rfl
theorem e_M_type_1 : ct_tab (T_M_type) 1 = some (o_push (.int 1) 1) := rfl
theorem e_M_type_2 : ct_tab (T_M_type) 2 = some (o_ic (fun x y => x < y) (fun x y => ¬ x < y) 11) := rfl
theorem e_M_type_5 : ct_tab (T_M_type) 5 = some (o_iload 3 1) := rfl
theorem e_M_type_6 : ct_tab (T_M_type) 6 = some (o_push (.int 8) 2) := rfl
theorem e_M_type_8 : ct_tab (T_M_type) 8 = some (o_ic (fun x y => x ≤ y) (fun x y => ¬ x ≤ y) 13) := rfl
theorem e_M_type_11 : ct_tab (T_M_type) 11 = some (o_push (.int (-1)) 1) := rfl
theorem e_M_type_13 : ct_tab (T_M_type) 13 = some (o_aload 0 1) := rfl
theorem e_M_type_14 : ct_tab (T_M_type) 14 = some (o_getI 4 24 1) := rfl
theorem e_M_type_17 : ct_tab (T_M_type) 17 = some (o_iload 3 1) := rfl
theorem e_M_type_18 : ct_tab (T_M_type) 18 = some (o_ii fun x y => x + y) := rfl
theorem e_M_type_19 : ct_tab (T_M_type) 19 = some (o_push (.int 65536) 2) := rfl
theorem e_M_type_21 : ct_tab (T_M_type) 21 = some (o_ic (fun x y => x ≤ y) (fun x y => ¬ x ≤ y) 27) := rfl
theorem e_M_type_24 : ct_tab (T_M_type) 24 = some (o_push (.int (-3)) 2) := rfl
theorem e_M_type_27 : ct_tab (T_M_type) 27 = some (o_iload 3 1) := rfl
theorem e_M_type_28 : ct_tab (T_M_type) 28 = some (o_push (.int 1) 1) := rfl
theorem e_M_type_29 : ct_tab (T_M_type) 29 = some (o_ii fun x y => x - y) := rfl
theorem e_M_type_30 : ct_tab (T_M_type) 30 = some (o_istore 4 2) := rfl
theorem e_M_type_32 : ct_tab (T_M_type) 32 = some (o_iload 4 2) := rfl
theorem e_M_type_34 : ct_tab (T_M_type) 34 = some (o_if (fun x => x < 0) (fun x => ¬ x < 0) 71) := rfl
theorem e_M_type_37 : ct_tab (T_M_type) 37 = some (o_aload 0 1) := rfl
theorem e_M_type_38 : ct_tab (T_M_type) 38 = some (o_getR 4 24 0) := rfl
theorem e_M_type_41 : ct_tab (T_M_type) 41 = some (o_aload 0 1) := rfl
theorem e_M_type_42 : ct_tab (T_M_type) 42 = some (o_getI 4 24 1) := rfl
theorem e_M_type_45 : ct_tab (T_M_type) 45 = some (o_lload 1 1) := rfl
theorem e_M_type_46 : ct_tab (T_M_type) 46 = some (o_push (.int 8) 2) := rfl
theorem e_M_type_48 : ct_tab (T_M_type) 48 = some (o_iload 4 2) := rfl
theorem e_M_type_50 : ct_tab (T_M_type) 50 = some (o_ii fun x y => x * y) := rfl
theorem e_M_type_51 : ct_tab (T_M_type) 51 = some (o_li fun x y => x >>> (y.toInt64 &&& 63)) := rfl
theorem e_M_type_52 : ct_tab (T_M_type) 52 = some (o_l2i) := rfl
theorem e_M_type_53 : ct_tab (T_M_type) 53 = some (o_i1 fun x => x.toInt8.toInt32) := rfl
theorem e_M_type_54 : ct_tab (T_M_type) 54 = some (o_bast) := rfl
theorem e_M_type_55 : ct_tab (T_M_type) 55 = some (o_aload 0 1) := rfl
theorem e_M_type_56 : ct_tab (T_M_type) 56 = some (o_dup) := rfl
theorem e_M_type_57 : ct_tab (T_M_type) 57 = some (o_getI 4 24 1) := rfl
theorem e_M_type_60 : ct_tab (T_M_type) 60 = some (o_push (.int 1) 1) := rfl
theorem e_M_type_61 : ct_tab (T_M_type) 61 = some (o_ii fun x y => x + y) := rfl
theorem e_M_type_62 : ct_tab (T_M_type) 62 = some (o_putI 4 24 1) := rfl
theorem e_M_type_65 : ct_tab (T_M_type) 65 = some (o_iinc 4 (-1)) := rfl
theorem e_M_type_68 : ct_tab (T_M_type) 68 = some (o_goto 32) := rfl
theorem e_M_type_71 : ct_tab (T_M_type) 71 = some (o_aload 0 1) := rfl
theorem e_M_type_72 : ct_tab (T_M_type) 72 = some (o_getI 4 24 1) := rfl
theorem d_M_fail_0 : decode prog_7_method_3_code 0 = .ok (.aload_n 0, 1) := by decide +kernel
theorem d_M_fail_1 : decode prog_7_method_3_code 1 = .ok (.getfield 47, 3) := by decide +kernel
theorem d_M_fail_4 : decode prog_7_method_3_code 4 = .ok (.ifCond .eq 4, 3) := by decide +kernel
theorem d_M_fail_7 : decode prog_7_method_3_code 7 = .ok (.return_, 1) := by decide +kernel
theorem d_M_fail_8 : decode prog_7_method_3_code 8 = .ok (.aload_n 0, 1) := by decide +kernel
theorem d_M_fail_9 : decode prog_7_method_3_code 9 = .ok (.iload_n 1, 1) := by decide +kernel
theorem d_M_fail_10 : decode prog_7_method_3_code 10 = .ok (.putfield 47, 3) := by decide +kernel
theorem d_M_fail_13 : decode prog_7_method_3_code 13 = .ok (.aload_n 0, 1) := by decide +kernel
theorem d_M_fail_14 : decode prog_7_method_3_code 14 = .ok (.iload_n 2, 1) := by decide +kernel
theorem d_M_fail_15 : decode prog_7_method_3_code 15 = .ok (.putfield 50, 3) := by decide +kernel
theorem d_M_fail_18 : decode prog_7_method_3_code 18 = .ok (.return_, 1) := by decide +kernel
abbrev T_M_fail : List (Nat × ct_PT) := [(0, o_aload 0 1), (1, o_getI 4 24 6), (4, o_if (fun x => x = 0) (fun x => ¬ x = 0) 8), (8, o_aload 0 1), (9, o_iload 1 1), (10, o_putI 4 24 6), (13, o_aload 0 1), (14, o_iload 2 1), (15, o_putI 4 24 7)]
set_option maxRecDepth 100000 in
theorem A_M_fail (l : ct_Lx) : ct_al l M_M_fail (T_M_fail) := by
  refine ct_al.cons (so_aload_n d_M_fail_0 rfl) ?_
  refine ct_al.cons (so_getI (Cn := "CodeTablesModel") (T := ct_T4) kc_4 (by decide) rfl rfl wd_351 d_M_fail_1) ?_
  refine ct_al.cons (so_if_eq d_M_fail_4 (by decide)) ?_
  refine ct_al.cons (so_aload_n d_M_fail_8 rfl) ?_
  refine ct_al.cons (so_iload_n d_M_fail_9 rfl) ?_
  refine ct_al.cons (so_putI (Cn := "CodeTablesModel") (T := ct_T4) kc_4 (by decide) rfl rfl (Or.inl rfl) wd_351 d_M_fail_10) ?_
  refine ct_al.cons (so_aload_n d_M_fail_13 rfl) ?_
  refine ct_al.cons (so_iload_n d_M_fail_14 rfl) ?_
  refine ct_al.cons (so_putI (Cn := "CodeTablesModel") (T := ct_T4) kc_4 (by decide) rfl rfl (Or.inl rfl) wd_352 d_M_fail_15) ?_
  exact ct_al.nil
theorem e_M_fail_0 : ct_tab (T_M_fail) 0 = some (o_aload 0 1) := rfl
theorem e_M_fail_1 : ct_tab (T_M_fail) 1 = some (o_getI 4 24 6) := rfl
theorem e_M_fail_4 : ct_tab (T_M_fail) 4 = some (o_if (fun x => x = 0) (fun x => ¬ x = 0) 8) := rfl
theorem e_M_fail_8 : ct_tab (T_M_fail) 8 = some (o_aload 0 1) := rfl
theorem e_M_fail_9 : ct_tab (T_M_fail) 9 = some (o_iload 1 1) := rfl
theorem e_M_fail_10 : ct_tab (T_M_fail) 10 = some (o_putI 4 24 6) := rfl
theorem e_M_fail_13 : ct_tab (T_M_fail) 13 = some (o_aload 0 1) := rfl
theorem e_M_fail_14 : ct_tab (T_M_fail) 14 = some (o_iload 2 1) := rfl
theorem e_M_fail_15 : ct_tab (T_M_fail) 15 = some (o_putI 4 24 7) := rfl
theorem d_M_isGood_0 : decode prog_7_method_4_code 0 = .ok (.aload_n 0, 1) := by decide +kernel
theorem d_M_isGood_1 : decode prog_7_method_4_code 1 = .ok (.getfield 47, 3) := by decide +kernel
theorem d_M_isGood_4 : decode prog_7_method_4_code 4 = .ok (.ifCond .ne 7, 3) := by decide +kernel
theorem d_M_isGood_7 : decode prog_7_method_4_code 7 = .ok (.iconst 1, 1) := by decide +kernel
theorem d_M_isGood_8 : decode prog_7_method_4_code 8 = .ok (.goto 4, 3) := by decide +kernel
theorem d_M_isGood_11 : decode prog_7_method_4_code 11 = .ok (.iconst 0, 1) := by decide +kernel
theorem d_M_isGood_12 : decode prog_7_method_4_code 12 = .ok (.ireturn, 1) := by decide +kernel
abbrev T_M_isGood : List (Nat × ct_PT) := [(0, o_aload 0 1), (1, o_getI 4 24 6), (4, o_if (fun x => ¬ x = 0) (fun x => x = 0) 11), (7, o_push (.int 1) 1), (8, o_goto 12), (11, o_push (.int 0) 1)]
set_option maxRecDepth 100000 in
theorem A_M_isGood (l : ct_Lx) : ct_al l M_M_isGood (T_M_isGood) := by
  refine ct_al.cons (so_aload_n d_M_isGood_0 rfl) ?_
  refine ct_al.cons (so_getI (Cn := "CodeTablesModel") (T := ct_T4) kc_4 (by decide) rfl rfl wd_351 d_M_isGood_1) ?_
  refine ct_al.cons (so_if_ne d_M_isGood_4 (by decide)) ?_
  refine ct_al.cons (so_iconst d_M_isGood_7 (by decide)) ?_
  refine ct_al.cons (so_goto d_M_isGood_8 (by decide)) ?_
  refine ct_al.cons (so_iconst d_M_isGood_11 (by decide)) ?_
  exact ct_al.nil
theorem e_M_isGood_0 : ct_tab (T_M_isGood) 0 = some (o_aload 0 1) := rfl
theorem e_M_isGood_1 : ct_tab (T_M_isGood) 1 = some (o_getI 4 24 6) := rfl
theorem e_M_isGood_4 : ct_tab (T_M_isGood) 4 = some (o_if (fun x => ¬ x = 0) (fun x => x = 0) 11) := rfl
theorem e_M_isGood_7 : ct_tab (T_M_isGood) 7 = some (o_push (.int 1) 1) := rfl
theorem e_M_isGood_8 : ct_tab (T_M_isGood) 8 = some (o_goto 12) := rfl
theorem e_M_isGood_11 : ct_tab (T_M_isGood) 11 = some (o_push (.int 0) 1) := rfl
theorem d_M_byteAt_0 : decode prog_7_method_5_code 0 = .ok (.iload_n 1, 1) := by decide +kernel
theorem d_M_byteAt_1 : decode prog_7_method_5_code 1 = .ok (.aload_n 0, 1) := by decide +kernel
theorem d_M_byteAt_2 : decode prog_7_method_5_code 2 = .ok (.getfield 53, 3) := by decide +kernel
theorem d_M_byteAt_5 : decode prog_7_method_5_code 5 = .ok (.if_icmp .ge 16, 3) := by decide +kernel
theorem d_M_byteAt_8 : decode prog_7_method_5_code 8 = .ok (.aload_n 0, 1) := by decide +kernel
theorem d_M_byteAt_9 : decode prog_7_method_5_code 9 = .ok (.getfield 14, 3) := by decide +kernel
theorem d_M_byteAt_12 : decode prog_7_method_5_code 12 = .ok (.iload_n 1, 1) := by decide +kernel
theorem d_M_byteAt_13 : decode prog_7_method_5_code 13 = .ok (.baload, 1) := by decide +kernel
theorem d_M_byteAt_14 : decode prog_7_method_5_code 14 = .ok (.sipush 255, 3) := by decide +kernel
theorem d_M_byteAt_17 : decode prog_7_method_5_code 17 = .ok (.iand, 1) := by decide +kernel
theorem d_M_byteAt_18 : decode prog_7_method_5_code 18 = .ok (.goto 4, 3) := by decide +kernel
theorem d_M_byteAt_21 : decode prog_7_method_5_code 21 = .ok (.iconst 0, 1) := by decide +kernel
theorem d_M_byteAt_22 : decode prog_7_method_5_code 22 = .ok (.ireturn, 1) := by decide +kernel
abbrev T_M_byteAt : List (Nat × ct_PT) := [(0, o_iload 1 1), (1, o_aload 0 1), (2, o_getI 4 24 3), (5, o_ic (fun x y => y ≤ x) (fun x y => ¬ y ≤ x) 21), (8, o_aload 0 1), (9, o_getR 4 24 2), (12, o_iload 1 1), (13, o_bald), (14, o_push (.int 255) 3), (17, o_ii fun x y => x &&& y), (18, o_goto 22), (21, o_push (.int 0) 1)]
set_option maxRecDepth 100000 in
theorem A_M_byteAt (l : ct_Lx) : ct_al l M_M_byteAt (T_M_byteAt) := by
  refine ct_al.cons (so_iload_n d_M_byteAt_0 rfl) ?_
  refine ct_al.cons (so_aload_n d_M_byteAt_1 rfl) ?_
  refine ct_al.cons (so_getI (Cn := "CodeTablesModel") (T := ct_T4) kc_4 (by decide) rfl rfl wd_353 d_M_byteAt_2) ?_
  refine ct_al.cons (so_ic_ge d_M_byteAt_5 (by decide)) ?_
  refine ct_al.cons (so_aload_n d_M_byteAt_8 rfl) ?_
  refine ct_al.cons (so_getR (Cn := "CodeTablesModel") (T := ct_T4) kc_4 (by decide) rfl rfl wd_340 d_M_byteAt_9) ?_
  refine ct_al.cons (so_iload_n d_M_byteAt_12 rfl) ?_
  refine ct_al.cons (so_bald d_M_byteAt_13) ?_
  refine ct_al.cons (so_sipush d_M_byteAt_14 (by decide)) ?_
  refine ct_al.cons (so_iand d_M_byteAt_17) ?_
  refine ct_al.cons (so_goto d_M_byteAt_18 (by decide)) ?_
  refine ct_al.cons (so_iconst d_M_byteAt_21 (by decide)) ?_
  exact ct_al.nil
theorem e_M_byteAt_0 : ct_tab (T_M_byteAt) 0 = some (o_iload 1 1) := rfl
theorem e_M_byteAt_1 : ct_tab (T_M_byteAt) 1 = some (o_aload 0 1) := rfl
theorem e_M_byteAt_2 : ct_tab (T_M_byteAt) 2 = some (o_getI 4 24 3) := rfl
theorem e_M_byteAt_5 : ct_tab (T_M_byteAt) 5 = some (o_ic (fun x y => y ≤ x) (fun x y => ¬ y ≤ x) 21) := rfl
theorem e_M_byteAt_8 : ct_tab (T_M_byteAt) 8 = some (o_aload 0 1) := rfl
theorem e_M_byteAt_9 : ct_tab (T_M_byteAt) 9 = some (o_getR 4 24 2) := rfl
theorem e_M_byteAt_12 : ct_tab (T_M_byteAt) 12 = some (o_iload 1 1) := rfl
theorem e_M_byteAt_13 : ct_tab (T_M_byteAt) 13 = some (o_bald) := rfl
theorem e_M_byteAt_14 : ct_tab (T_M_byteAt) 14 = some (o_push (.int 255) 3) := rfl
theorem e_M_byteAt_17 : ct_tab (T_M_byteAt) 17 = some (o_ii fun x y => x &&& y) := rfl
theorem e_M_byteAt_18 : ct_tab (T_M_byteAt) 18 = some (o_goto 22) := rfl
theorem e_M_byteAt_21 : ct_tab (T_M_byteAt) 21 = some (o_push (.int 0) 1) := rfl
theorem d_M_shortAt_0 : decode prog_7_method_6_code 0 = .ok (.sipush 256, 3) := by decide +kernel
theorem d_M_shortAt_3 : decode prog_7_method_6_code 3 = .ok (.aload_n 0, 1) := by decide +kernel
theorem d_M_shortAt_4 : decode prog_7_method_6_code 4 = .ok (.iload_n 1, 1) := by decide +kernel
theorem d_M_shortAt_5 : decode prog_7_method_6_code 5 = .ok (.invokevirtual 56, 3) := by decide +kernel
theorem d_M_shortAt_8 : decode prog_7_method_6_code 8 = .ok (.imul, 1) := by decide +kernel
theorem d_M_shortAt_9 : decode prog_7_method_6_code 9 = .ok (.aload_n 0, 1) := by decide +kernel
theorem d_M_shortAt_10 : decode prog_7_method_6_code 10 = .ok (.iload_n 1, 1) := by decide +kernel
theorem d_M_shortAt_11 : decode prog_7_method_6_code 11 = .ok (.iconst 1, 1) := by decide +kernel
theorem d_M_shortAt_12 : decode prog_7_method_6_code 12 = .ok (.iadd, 1) := by decide +kernel
theorem d_M_shortAt_13 : decode prog_7_method_6_code 13 = .ok (.invokevirtual 56, 3) := by decide +kernel
theorem d_M_shortAt_16 : decode prog_7_method_6_code 16 = .ok (.iadd, 1) := by decide +kernel
theorem d_M_shortAt_17 : decode prog_7_method_6_code 17 = .ok (.ireturn, 1) := by decide +kernel
abbrev T_M_shortAt : List (Nat × ct_PT) := [(0, o_push (.int 256) 3), (3, o_aload 0 1), (4, o_iload 1 1), (8, o_ii fun x y => x * y), (9, o_aload 0 1), (10, o_iload 1 1), (11, o_push (.int 1) 1), (12, o_ii fun x y => x + y), (16, o_ii fun x y => x + y)]
set_option maxRecDepth 100000 in
theorem A_M_shortAt (l : ct_Lx) : ct_al l M_M_shortAt (T_M_shortAt) := by
  refine ct_al.cons (so_sipush d_M_shortAt_0 (by decide)) ?_
  refine ct_al.cons (so_aload_n d_M_shortAt_3 rfl) ?_
  refine ct_al.cons (so_iload_n d_M_shortAt_4 rfl) ?_
  refine ct_al.cons (so_imul d_M_shortAt_8) ?_
  refine ct_al.cons (so_aload_n d_M_shortAt_9 rfl) ?_
  refine ct_al.cons (so_iload_n d_M_shortAt_10 rfl) ?_
  refine ct_al.cons (so_iconst d_M_shortAt_11 (by decide)) ?_
  refine ct_al.cons (so_iadd d_M_shortAt_12) ?_
  refine ct_al.cons (so_iadd d_M_shortAt_16) ?_
  exact ct_al.nil
theorem e_M_shortAt_0 : ct_tab (T_M_shortAt) 0 = some (o_push (.int 256) 3) := rfl
theorem e_M_shortAt_3 : ct_tab (T_M_shortAt) 3 = some (o_aload 0 1) := rfl
theorem e_M_shortAt_4 : ct_tab (T_M_shortAt) 4 = some (o_iload 1 1) := rfl
theorem e_M_shortAt_8 : ct_tab (T_M_shortAt) 8 = some (o_ii fun x y => x * y) := rfl
theorem e_M_shortAt_9 : ct_tab (T_M_shortAt) 9 = some (o_aload 0 1) := rfl
theorem e_M_shortAt_10 : ct_tab (T_M_shortAt) 10 = some (o_iload 1 1) := rfl
theorem e_M_shortAt_11 : ct_tab (T_M_shortAt) 11 = some (o_push (.int 1) 1) := rfl
theorem e_M_shortAt_12 : ct_tab (T_M_shortAt) 12 = some (o_ii fun x y => x + y) := rfl
theorem e_M_shortAt_16 : ct_tab (T_M_shortAt) 16 = some (o_ii fun x y => x + y) := rfl
theorem cl_M_shortAt_5 {l : ct_Lx} {d d1 : Nat} {Post Post1 : Option Value → ct_Sg → Prop} {lv : ct_Lv} {st : List Value} {g : ct_Sg} {bc bs c1 s1 : Nat} {a1 : Value} {h : Nat} (hsh : g.2.1 h = (10 + 4, 24)) (hM : ct_Me l M_M_byteAt d1 c1 s1 [.ref h, a1] g Post1) (hdd : d1 + 1 ≤ d) (hk : (st.map fun v => v.category).sum ≤ 8) (hcc : c1 ≤ bc) (hss : s1 ≤ bs) (kk : ∀ (v : Option Value) (g' : ct_Sg), Post1 v g' → ct_Wp l M_M_shortAt d Post (8, lv, v.toList ++ st, g', bc - c1, bs - s1)) : ct_Wp l M_M_shortAt d Post (5, lv, a1 :: .ref h :: st, g, bc, bs) := ct_Wp.callV (ci := 4) (N := 24) (T := ct_T4) (As := [a1]) lk_M_byteAt (Or.inl wd_357) wd_358 wd_359 rfl d_M_shortAt_5 hsh hM rfl hdd hk hcc hss kk
theorem cl_M_shortAt_13 {l : ct_Lx} {d d1 : Nat} {Post Post1 : Option Value → ct_Sg → Prop} {lv : ct_Lv} {st : List Value} {g : ct_Sg} {bc bs c1 s1 : Nat} {a1 : Value} {h : Nat} (hsh : g.2.1 h = (10 + 4, 24)) (hM : ct_Me l M_M_byteAt d1 c1 s1 [.ref h, a1] g Post1) (hdd : d1 + 1 ≤ d) (hk : (st.map fun v => v.category).sum ≤ 8) (hcc : c1 ≤ bc) (hss : s1 ≤ bs) (kk : ∀ (v : Option Value) (g' : ct_Sg), Post1 v g' → ct_Wp l M_M_shortAt d Post (16, lv, v.toList ++ st, g', bc - c1, bs - s1)) : ct_Wp l M_M_shortAt d Post (13, lv, a1 :: .ref h :: st, g, bc, bs) := ct_Wp.callV (ci := 4) (N := 24) (T := ct_T4) (As := [a1]) lk_M_byteAt (Or.inl wd_357) wd_358 wd_359 rfl d_M_shortAt_13 hsh hM rfl hdd hk hcc hss kk
theorem d_M_over_0 : decode prog_7_method_7_code 0 = .ok (.aload_n 0, 1) := by decide +kernel
theorem d_M_over_1 : decode prog_7_method_7_code 1 = .ok (.getfield 60, 3) := by decide +kernel
theorem d_M_over_4 : decode prog_7_method_7_code 4 = .ok (.istore_n 2, 1) := by decide +kernel
theorem d_M_over_5 : decode prog_7_method_7_code 5 = .ok (.aload_n 0, 1) := by decide +kernel
theorem d_M_over_6 : decode prog_7_method_7_code 6 = .ok (.getfield 60, 3) := by decide +kernel
theorem d_M_over_9 : decode prog_7_method_7_code 9 = .ok (.iload_n 1, 1) := by decide +kernel
theorem d_M_over_10 : decode prog_7_method_7_code 10 = .ok (.iadd, 1) := by decide +kernel
theorem d_M_over_11 : decode prog_7_method_7_code 11 = .ok (.aload_n 0, 1) := by decide +kernel
theorem d_M_over_12 : decode prog_7_method_7_code 12 = .ok (.getfield 53, 3) := by decide +kernel
theorem d_M_over_15 : decode prog_7_method_7_code 15 = .ok (.if_icmp .le 15, 3) := by decide +kernel
theorem d_M_over_18 : decode prog_7_method_7_code 18 = .ok (.aload_n 0, 1) := by decide +kernel
theorem d_M_over_19 : decode prog_7_method_7_code 19 = .ok (.iconst 2, 1) := by decide +kernel
theorem d_M_over_20 : decode prog_7_method_7_code 20 = .ok (.aload_n 0, 1) := by decide +kernel
theorem d_M_over_21 : decode prog_7_method_7_code 21 = .ok (.getfield 53, 3) := by decide +kernel
theorem d_M_over_24 : decode prog_7_method_7_code 24 = .ok (.invokevirtual 63, 3) := by decide +kernel
theorem d_M_over_27 : decode prog_7_method_7_code 27 = .ok (.goto 13, 3) := by decide +kernel
theorem d_M_over_30 : decode prog_7_method_7_code 30 = .ok (.aload_n 0, 1) := by decide +kernel
theorem d_M_over_31 : decode prog_7_method_7_code 31 = .ok (.dup, 1) := by decide +kernel
theorem d_M_over_32 : decode prog_7_method_7_code 32 = .ok (.getfield 60, 3) := by decide +kernel
theorem d_M_over_35 : decode prog_7_method_7_code 35 = .ok (.iload_n 1, 1) := by decide +kernel
theorem d_M_over_36 : decode prog_7_method_7_code 36 = .ok (.iadd, 1) := by decide +kernel
theorem d_M_over_37 : decode prog_7_method_7_code 37 = .ok (.putfield 60, 3) := by decide +kernel
theorem d_M_over_40 : decode prog_7_method_7_code 40 = .ok (.iload_n 2, 1) := by decide +kernel
theorem d_M_over_41 : decode prog_7_method_7_code 41 = .ok (.ireturn, 1) := by decide +kernel
abbrev T_M_over : List (Nat × ct_PT) := [(0, o_aload 0 1), (1, o_getI 4 24 5), (4, o_istore 2 1), (5, o_aload 0 1), (6, o_getI 4 24 5), (9, o_iload 1 1), (10, o_ii fun x y => x + y), (11, o_aload 0 1), (12, o_getI 4 24 3), (15, o_ic (fun x y => x ≤ y) (fun x y => ¬ x ≤ y) 30), (18, o_aload 0 1), (19, o_push (.int 2) 1), (20, o_aload 0 1), (21, o_getI 4 24 3), (27, o_goto 40), (30, o_aload 0 1), (31, o_dup), (32, o_getI 4 24 5), (35, o_iload 1 1), (36, o_ii fun x y => x + y), (37, o_putI 4 24 5), (40, o_iload 2 1)]
set_option maxRecDepth 100000 in
theorem A_M_over (l : ct_Lx) : ct_al l M_M_over (T_M_over) := by
  refine ct_al.cons (so_aload_n d_M_over_0 rfl) ?_
  refine ct_al.cons (so_getI (Cn := "CodeTablesModel") (T := ct_T4) kc_4 (by decide) rfl rfl wd_360 d_M_over_1) ?_
  refine ct_al.cons (so_istore_n d_M_over_4 rfl (by decide)) ?_
  refine ct_al.cons (so_aload_n d_M_over_5 rfl) ?_
  refine ct_al.cons (so_getI (Cn := "CodeTablesModel") (T := ct_T4) kc_4 (by decide) rfl rfl wd_360 d_M_over_6) ?_
  refine ct_al.cons (so_iload_n d_M_over_9 rfl) ?_
  refine ct_al.cons (so_iadd d_M_over_10) ?_
  refine ct_al.cons (so_aload_n d_M_over_11 rfl) ?_
  refine ct_al.cons (so_getI (Cn := "CodeTablesModel") (T := ct_T4) kc_4 (by decide) rfl rfl wd_353 d_M_over_12) ?_
  refine ct_al.cons (so_ic_le d_M_over_15 (by decide)) ?_
  refine ct_al.cons (so_aload_n d_M_over_18 rfl) ?_
  refine ct_al.cons (so_iconst d_M_over_19 (by decide)) ?_
  refine ct_al.cons (so_aload_n d_M_over_20 rfl) ?_
  refine ct_al.cons (so_getI (Cn := "CodeTablesModel") (T := ct_T4) kc_4 (by decide) rfl rfl wd_353 d_M_over_21) ?_
  refine ct_al.cons (so_goto d_M_over_27 (by decide)) ?_
  refine ct_al.cons (so_aload_n d_M_over_30 rfl) ?_
  refine ct_al.cons (so_dup d_M_over_31) ?_
  refine ct_al.cons (so_getI (Cn := "CodeTablesModel") (T := ct_T4) kc_4 (by decide) rfl rfl wd_360 d_M_over_32) ?_
  refine ct_al.cons (so_iload_n d_M_over_35 rfl) ?_
  refine ct_al.cons (so_iadd d_M_over_36) ?_
  refine ct_al.cons (so_putI (Cn := "CodeTablesModel") (T := ct_T4) kc_4 (by decide) rfl rfl (Or.inl rfl) wd_360 d_M_over_37) ?_
  refine ct_al.cons (so_iload_n d_M_over_40 rfl) ?_
  exact ct_al.nil
theorem e_M_over_0 : ct_tab (T_M_over) 0 = some (o_aload 0 1) := rfl
theorem e_M_over_1 : ct_tab (T_M_over) 1 = some (o_getI 4 24 5) := rfl
theorem e_M_over_4 : ct_tab (T_M_over) 4 = some (o_istore 2 1) := rfl
theorem e_M_over_5 : ct_tab (T_M_over) 5 = some (o_aload 0 1) := rfl
theorem e_M_over_6 : ct_tab (T_M_over) 6 = some (o_getI 4 24 5) := rfl
theorem e_M_over_9 : ct_tab (T_M_over) 9 = some (o_iload 1 1) := rfl
theorem e_M_over_10 : ct_tab (T_M_over) 10 = some (o_ii fun x y => x + y) := rfl
theorem e_M_over_11 : ct_tab (T_M_over) 11 = some (o_aload 0 1) := rfl
theorem e_M_over_12 : ct_tab (T_M_over) 12 = some (o_getI 4 24 3) := rfl
theorem e_M_over_15 : ct_tab (T_M_over) 15 = some (o_ic (fun x y => x ≤ y) (fun x y => ¬ x ≤ y) 30) := rfl
theorem e_M_over_18 : ct_tab (T_M_over) 18 = some (o_aload 0 1) := rfl
theorem e_M_over_19 : ct_tab (T_M_over) 19 = some (o_push (.int 2) 1) := rfl
theorem e_M_over_20 : ct_tab (T_M_over) 20 = some (o_aload 0 1) := rfl
theorem e_M_over_21 : ct_tab (T_M_over) 21 = some (o_getI 4 24 3) := rfl
theorem e_M_over_27 : ct_tab (T_M_over) 27 = some (o_goto 40) := rfl
theorem e_M_over_30 : ct_tab (T_M_over) 30 = some (o_aload 0 1) := rfl
theorem e_M_over_31 : ct_tab (T_M_over) 31 = some (o_dup) := rfl
theorem e_M_over_32 : ct_tab (T_M_over) 32 = some (o_getI 4 24 5) := rfl
theorem e_M_over_35 : ct_tab (T_M_over) 35 = some (o_iload 1 1) := rfl
theorem e_M_over_36 : ct_tab (T_M_over) 36 = some (o_ii fun x y => x + y) := rfl
theorem e_M_over_37 : ct_tab (T_M_over) 37 = some (o_putI 4 24 5) := rfl
theorem e_M_over_40 : ct_tab (T_M_over) 40 = some (o_iload 2 1) := rfl
theorem cl_M_over_24 {l : ct_Lx} {d d1 : Nat} {Post Post1 : Option Value → ct_Sg → Prop} {lv : ct_Lv} {st : List Value} {g : ct_Sg} {bc bs c1 s1 : Nat} {a1 a2 : Value} {h : Nat} (hsh : g.2.1 h = (10 + 4, 24)) (hM : ct_Me l M_M_fail d1 c1 s1 [.ref h, a1, a2] g Post1) (hdd : d1 + 1 ≤ d) (hk : (st.map fun v => v.category).sum ≤ 8) (hcc : c1 ≤ bc) (hss : s1 ≤ bs) (kk : ∀ (v : Option Value) (g' : ct_Sg), Post1 v g' → ct_Wp l M_M_over d Post (27, lv, v.toList ++ st, g', bc - c1, bs - s1)) : ct_Wp l M_M_over d Post (24, lv, a2 :: a1 :: .ref h :: st, g, bc, bs) := ct_Wp.callV (ci := 4) (N := 24) (T := ct_T4) (As := [a1, a2]) lk_M_fail (Or.inl wd_363) wd_364 wd_365 rfl d_M_over_24 hsh hM rfl hdd hk hcc hss kk
theorem d_M_count_0 : decode prog_7_method_8_code 0 = .ok (.aload_n 0, 1) := by decide +kernel
theorem d_M_count_1 : decode prog_7_method_8_code 1 = .ok (.iconst 1, 1) := by decide +kernel
theorem d_M_count_2 : decode prog_7_method_8_code 2 = .ok (.invokevirtual 67, 3) := by decide +kernel
theorem d_M_count_5 : decode prog_7_method_8_code 5 = .ok (.istore_n 3, 1) := by decide +kernel
theorem d_M_count_6 : decode prog_7_method_8_code 6 = .ok (.aload_n 0, 1) := by decide +kernel
theorem d_M_count_7 : decode prog_7_method_8_code 7 = .ok (.invokevirtual 70, 3) := by decide +kernel
theorem d_M_count_10 : decode prog_7_method_8_code 10 = .ok (.ifCond .eq 27, 3) := by decide +kernel
theorem d_M_count_13 : decode prog_7_method_8_code 13 = .ok (.aload_n 0, 1) := by decide +kernel
theorem d_M_count_14 : decode prog_7_method_8_code 14 = .ok (.iload_n 3, 1) := by decide +kernel
theorem d_M_count_15 : decode prog_7_method_8_code 15 = .ok (.invokevirtual 56, 3) := by decide +kernel
theorem d_M_count_18 : decode prog_7_method_8_code 18 = .ok (.iload_n 1, 1) := by decide +kernel
theorem d_M_count_19 : decode prog_7_method_8_code 19 = .ok (.if_icmp .lt 12, 3) := by decide +kernel
theorem d_M_count_22 : decode prog_7_method_8_code 22 = .ok (.aload_n 0, 1) := by decide +kernel
theorem d_M_count_23 : decode prog_7_method_8_code 23 = .ok (.iload_n 3, 1) := by decide +kernel
theorem d_M_count_24 : decode prog_7_method_8_code 24 = .ok (.invokevirtual 56, 3) := by decide +kernel
theorem d_M_count_27 : decode prog_7_method_8_code 27 = .ok (.iload_n 2, 1) := by decide +kernel
theorem d_M_count_28 : decode prog_7_method_8_code 28 = .ok (.if_icmp .le 9, 3) := by decide +kernel
theorem d_M_count_31 : decode prog_7_method_8_code 31 = .ok (.aload_n 0, 1) := by decide +kernel
theorem d_M_count_32 : decode prog_7_method_8_code 32 = .ok (.iconst 3, 1) := by decide +kernel
theorem d_M_count_33 : decode prog_7_method_8_code 33 = .ok (.iload_n 3, 1) := by decide +kernel
theorem d_M_count_34 : decode prog_7_method_8_code 34 = .ok (.invokevirtual 63, 3) := by decide +kernel
theorem d_M_count_37 : decode prog_7_method_8_code 37 = .ok (.aload_n 0, 1) := by decide +kernel
theorem d_M_count_38 : decode prog_7_method_8_code 38 = .ok (.invokevirtual 70, 3) := by decide +kernel
theorem d_M_count_41 : decode prog_7_method_8_code 41 = .ok (.ifCond .eq 11, 3) := by decide +kernel
theorem d_M_count_44 : decode prog_7_method_8_code 44 = .ok (.aload_n 0, 1) := by decide +kernel
theorem d_M_count_45 : decode prog_7_method_8_code 45 = .ok (.iload_n 3, 1) := by decide +kernel
theorem d_M_count_46 : decode prog_7_method_8_code 46 = .ok (.invokevirtual 56, 3) := by decide +kernel
theorem d_M_count_49 : decode prog_7_method_8_code 49 = .ok (.goto 4, 3) := by decide +kernel
theorem d_M_count_52 : decode prog_7_method_8_code 52 = .ok (.iconst 0, 1) := by decide +kernel
theorem d_M_count_53 : decode prog_7_method_8_code 53 = .ok (.ireturn, 1) := by decide +kernel
abbrev T_M_count : List (Nat × ct_PT) := [(0, o_aload 0 1), (1, o_push (.int 1) 1), (5, o_istore 3 1), (6, o_aload 0 1), (10, o_if (fun x => x = 0) (fun x => ¬ x = 0) 37), (13, o_aload 0 1), (14, o_iload 3 1), (18, o_iload 1 1), (19, o_ic (fun x y => x < y) (fun x y => ¬ x < y) 31), (22, o_aload 0 1), (23, o_iload 3 1), (27, o_iload 2 1), (28, o_ic (fun x y => x ≤ y) (fun x y => ¬ x ≤ y) 37), (31, o_aload 0 1), (32, o_push (.int 3) 1), (33, o_iload 3 1), (37, o_aload 0 1), (41, o_if (fun x => x = 0) (fun x => ¬ x = 0) 52), (44, o_aload 0 1), (45, o_iload 3 1), (49, o_goto 53), (52, o_push (.int 0) 1)]
set_option maxRecDepth 100000 in
theorem A_M_count (l : ct_Lx) : ct_al l M_M_count (T_M_count) := by
  refine ct_al.cons (so_aload_n d_M_count_0 rfl) ?_
  refine ct_al.cons (so_iconst d_M_count_1 (by decide)) ?_
  refine ct_al.cons (so_istore_n d_M_count_5 rfl (by decide)) ?_
  refine ct_al.cons (so_aload_n d_M_count_6 rfl) ?_
  refine ct_al.cons (so_if_eq d_M_count_10 (by decide)) ?_
  refine ct_al.cons (so_aload_n d_M_count_13 rfl) ?_
  refine ct_al.cons (so_iload_n d_M_count_14 rfl) ?_
  refine ct_al.cons (so_iload_n d_M_count_18 rfl) ?_
  refine ct_al.cons (so_ic_lt d_M_count_19 (by decide)) ?_
  refine ct_al.cons (so_aload_n d_M_count_22 rfl) ?_
  refine ct_al.cons (so_iload_n d_M_count_23 rfl) ?_
  refine ct_al.cons (so_iload_n d_M_count_27 rfl) ?_
  refine ct_al.cons (so_ic_le d_M_count_28 (by decide)) ?_
  refine ct_al.cons (so_aload_n d_M_count_31 rfl) ?_
  refine ct_al.cons (so_iconst d_M_count_32 (by decide)) ?_
  refine ct_al.cons (so_iload_n d_M_count_33 rfl) ?_
  refine ct_al.cons (so_aload_n d_M_count_37 rfl) ?_
  refine ct_al.cons (so_if_eq d_M_count_41 (by decide)) ?_
  refine ct_al.cons (so_aload_n d_M_count_44 rfl) ?_
  refine ct_al.cons (so_iload_n d_M_count_45 rfl) ?_
  refine ct_al.cons (so_goto d_M_count_49 (by decide)) ?_
  refine ct_al.cons (so_iconst d_M_count_52 (by decide)) ?_
  exact ct_al.nil
theorem e_M_count_0 : ct_tab (T_M_count) 0 = some (o_aload 0 1) := rfl
theorem e_M_count_1 : ct_tab (T_M_count) 1 = some (o_push (.int 1) 1) := rfl
theorem e_M_count_5 : ct_tab (T_M_count) 5 = some (o_istore 3 1) := rfl
theorem e_M_count_6 : ct_tab (T_M_count) 6 = some (o_aload 0 1) := rfl
theorem e_M_count_10 : ct_tab (T_M_count) 10 = some (o_if (fun x => x = 0) (fun x => ¬ x = 0) 37) := rfl
theorem e_M_count_13 : ct_tab (T_M_count) 13 = some (o_aload 0 1) := rfl
theorem e_M_count_14 : ct_tab (T_M_count) 14 = some (o_iload 3 1) := rfl
theorem e_M_count_18 : ct_tab (T_M_count) 18 = some (o_iload 1 1) := rfl
theorem e_M_count_19 : ct_tab (T_M_count) 19 = some (o_ic (fun x y => x < y) (fun x y => ¬ x < y) 31) := rfl
theorem e_M_count_22 : ct_tab (T_M_count) 22 = some (o_aload 0 1) := rfl
theorem e_M_count_23 : ct_tab (T_M_count) 23 = some (o_iload 3 1) := rfl
theorem e_M_count_27 : ct_tab (T_M_count) 27 = some (o_iload 2 1) := rfl
theorem e_M_count_28 : ct_tab (T_M_count) 28 = some (o_ic (fun x y => x ≤ y) (fun x y => ¬ x ≤ y) 37) := rfl
theorem e_M_count_31 : ct_tab (T_M_count) 31 = some (o_aload 0 1) := rfl
theorem e_M_count_32 : ct_tab (T_M_count) 32 = some (o_push (.int 3) 1) := rfl
theorem e_M_count_33 : ct_tab (T_M_count) 33 = some (o_iload 3 1) := rfl
theorem e_M_count_37 : ct_tab (T_M_count) 37 = some (o_aload 0 1) := rfl
theorem e_M_count_41 : ct_tab (T_M_count) 41 = some (o_if (fun x => x = 0) (fun x => ¬ x = 0) 52) := rfl
theorem e_M_count_44 : ct_tab (T_M_count) 44 = some (o_aload 0 1) := rfl
theorem e_M_count_45 : ct_tab (T_M_count) 45 = some (o_iload 3 1) := rfl
theorem e_M_count_49 : ct_tab (T_M_count) 49 = some (o_goto 53) := rfl
theorem e_M_count_52 : ct_tab (T_M_count) 52 = some (o_push (.int 0) 1) := rfl
theorem cl_M_count_2 {l : ct_Lx} {d d1 : Nat} {Post Post1 : Option Value → ct_Sg → Prop} {lv : ct_Lv} {st : List Value} {g : ct_Sg} {bc bs c1 s1 : Nat} {a1 : Value} {h : Nat} (hsh : g.2.1 h = (10 + 4, 24)) (hM : ct_Me l M_M_over d1 c1 s1 [.ref h, a1] g Post1) (hdd : d1 + 1 ≤ d) (hk : (st.map fun v => v.category).sum ≤ 8) (hcc : c1 ≤ bc) (hss : s1 ≤ bs) (kk : ∀ (v : Option Value) (g' : ct_Sg), Post1 v g' → ct_Wp l M_M_count d Post (5, lv, v.toList ++ st, g', bc - c1, bs - s1)) : ct_Wp l M_M_count d Post (2, lv, a1 :: .ref h :: st, g, bc, bs) := ct_Wp.callV (ci := 4) (N := 24) (T := ct_T4) (As := [a1]) lk_M_over (Or.inl wd_368) wd_369 wd_370 rfl d_M_count_2 hsh hM rfl hdd hk hcc hss kk
theorem cl_M_count_7 {l : ct_Lx} {d d1 : Nat} {Post Post1 : Option Value → ct_Sg → Prop} {lv : ct_Lv} {st : List Value} {g : ct_Sg} {bc bs c1 s1 : Nat} {h : Nat} (hsh : g.2.1 h = (10 + 4, 24)) (hM : ct_Me l M_M_isGood d1 c1 s1 [.ref h] g Post1) (hdd : d1 + 1 ≤ d) (hk : (st.map fun v => v.category).sum ≤ 8) (hcc : c1 ≤ bc) (hss : s1 ≤ bs) (kk : ∀ (v : Option Value) (g' : ct_Sg), Post1 v g' → ct_Wp l M_M_count d Post (10, lv, v.toList ++ st, g', bc - c1, bs - s1)) : ct_Wp l M_M_count d Post (7, lv, .ref h :: st, g, bc, bs) := ct_Wp.callV (ci := 4) (N := 24) (T := ct_T4) (As := []) lk_M_isGood (Or.inl wd_373) wd_374 wd_375 rfl d_M_count_7 hsh hM rfl hdd hk hcc hss kk
theorem cl_M_count_15 {l : ct_Lx} {d d1 : Nat} {Post Post1 : Option Value → ct_Sg → Prop} {lv : ct_Lv} {st : List Value} {g : ct_Sg} {bc bs c1 s1 : Nat} {a1 : Value} {h : Nat} (hsh : g.2.1 h = (10 + 4, 24)) (hM : ct_Me l M_M_byteAt d1 c1 s1 [.ref h, a1] g Post1) (hdd : d1 + 1 ≤ d) (hk : (st.map fun v => v.category).sum ≤ 8) (hcc : c1 ≤ bc) (hss : s1 ≤ bs) (kk : ∀ (v : Option Value) (g' : ct_Sg), Post1 v g' → ct_Wp l M_M_count d Post (18, lv, v.toList ++ st, g', bc - c1, bs - s1)) : ct_Wp l M_M_count d Post (15, lv, a1 :: .ref h :: st, g, bc, bs) := ct_Wp.callV (ci := 4) (N := 24) (T := ct_T4) (As := [a1]) lk_M_byteAt (Or.inl wd_357) wd_358 wd_359 rfl d_M_count_15 hsh hM rfl hdd hk hcc hss kk
theorem cl_M_count_24 {l : ct_Lx} {d d1 : Nat} {Post Post1 : Option Value → ct_Sg → Prop} {lv : ct_Lv} {st : List Value} {g : ct_Sg} {bc bs c1 s1 : Nat} {a1 : Value} {h : Nat} (hsh : g.2.1 h = (10 + 4, 24)) (hM : ct_Me l M_M_byteAt d1 c1 s1 [.ref h, a1] g Post1) (hdd : d1 + 1 ≤ d) (hk : (st.map fun v => v.category).sum ≤ 8) (hcc : c1 ≤ bc) (hss : s1 ≤ bs) (kk : ∀ (v : Option Value) (g' : ct_Sg), Post1 v g' → ct_Wp l M_M_count d Post (27, lv, v.toList ++ st, g', bc - c1, bs - s1)) : ct_Wp l M_M_count d Post (24, lv, a1 :: .ref h :: st, g, bc, bs) := ct_Wp.callV (ci := 4) (N := 24) (T := ct_T4) (As := [a1]) lk_M_byteAt (Or.inl wd_357) wd_358 wd_359 rfl d_M_count_24 hsh hM rfl hdd hk hcc hss kk
theorem cl_M_count_34 {l : ct_Lx} {d d1 : Nat} {Post Post1 : Option Value → ct_Sg → Prop} {lv : ct_Lv} {st : List Value} {g : ct_Sg} {bc bs c1 s1 : Nat} {a1 a2 : Value} {h : Nat} (hsh : g.2.1 h = (10 + 4, 24)) (hM : ct_Me l M_M_fail d1 c1 s1 [.ref h, a1, a2] g Post1) (hdd : d1 + 1 ≤ d) (hk : (st.map fun v => v.category).sum ≤ 8) (hcc : c1 ≤ bc) (hss : s1 ≤ bs) (kk : ∀ (v : Option Value) (g' : ct_Sg), Post1 v g' → ct_Wp l M_M_count d Post (37, lv, v.toList ++ st, g', bc - c1, bs - s1)) : ct_Wp l M_M_count d Post (34, lv, a2 :: a1 :: .ref h :: st, g, bc, bs) := ct_Wp.callV (ci := 4) (N := 24) (T := ct_T4) (As := [a1, a2]) lk_M_fail (Or.inl wd_363) wd_364 wd_365 rfl d_M_count_34 hsh hM rfl hdd hk hcc hss kk
theorem cl_M_count_38 {l : ct_Lx} {d d1 : Nat} {Post Post1 : Option Value → ct_Sg → Prop} {lv : ct_Lv} {st : List Value} {g : ct_Sg} {bc bs c1 s1 : Nat} {h : Nat} (hsh : g.2.1 h = (10 + 4, 24)) (hM : ct_Me l M_M_isGood d1 c1 s1 [.ref h] g Post1) (hdd : d1 + 1 ≤ d) (hk : (st.map fun v => v.category).sum ≤ 8) (hcc : c1 ≤ bc) (hss : s1 ≤ bs) (kk : ∀ (v : Option Value) (g' : ct_Sg), Post1 v g' → ct_Wp l M_M_count d Post (41, lv, v.toList ++ st, g', bc - c1, bs - s1)) : ct_Wp l M_M_count d Post (38, lv, .ref h :: st, g, bc, bs) := ct_Wp.callV (ci := 4) (N := 24) (T := ct_T4) (As := []) lk_M_isGood (Or.inl wd_373) wd_374 wd_375 rfl d_M_count_38 hsh hM rfl hdd hk hcc hss kk
theorem cl_M_count_46 {l : ct_Lx} {d d1 : Nat} {Post Post1 : Option Value → ct_Sg → Prop} {lv : ct_Lv} {st : List Value} {g : ct_Sg} {bc bs c1 s1 : Nat} {a1 : Value} {h : Nat} (hsh : g.2.1 h = (10 + 4, 24)) (hM : ct_Me l M_M_byteAt d1 c1 s1 [.ref h, a1] g Post1) (hdd : d1 + 1 ≤ d) (hk : (st.map fun v => v.category).sum ≤ 8) (hcc : c1 ≤ bc) (hss : s1 ≤ bs) (kk : ∀ (v : Option Value) (g' : ct_Sg), Post1 v g' → ct_Wp l M_M_count d Post (49, lv, v.toList ++ st, g', bc - c1, bs - s1)) : ct_Wp l M_M_count d Post (46, lv, a1 :: .ref h :: st, g, bc, bs) := ct_Wp.callV (ci := 4) (N := 24) (T := ct_T4) (As := [a1]) lk_M_byteAt (Or.inl wd_357) wd_358 wd_359 rfl d_M_count_46 hsh hM rfl hdd hk hcc hss kk
theorem d_M_overType_0 : decode prog_7_method_9_code 0 = .ok (.aload_n 0, 1) := by decide +kernel
theorem d_M_overType_1 : decode prog_7_method_9_code 1 = .ok (.iconst 1, 1) := by decide +kernel
theorem d_M_overType_2 : decode prog_7_method_9_code 2 = .ok (.invokevirtual 67, 3) := by decide +kernel
theorem d_M_overType_5 : decode prog_7_method_9_code 5 = .ok (.istore_n 2, 1) := by decide +kernel
theorem d_M_overType_6 : decode prog_7_method_9_code 6 = .ok (.aload_n 0, 1) := by decide +kernel
theorem d_M_overType_7 : decode prog_7_method_9_code 7 = .ok (.invokevirtual 70, 3) := by decide +kernel
theorem d_M_overType_10 : decode prog_7_method_9_code 10 = .ok (.ifCond .ne 4, 3) := by decide +kernel
theorem d_M_overType_13 : decode prog_7_method_9_code 13 = .ok (.return_, 1) := by decide +kernel
theorem d_M_overType_14 : decode prog_7_method_9_code 14 = .ok (.iload_n 1, 1) := by decide +kernel
theorem d_M_overType_15 : decode prog_7_method_9_code 15 = .ok (.ifCond .eq 29, 3) := by decide +kernel
theorem d_M_overType_18 : decode prog_7_method_9_code 18 = .ok (.aload_n 0, 1) := by decide +kernel
theorem d_M_overType_19 : decode prog_7_method_9_code 19 = .ok (.iload_n 2, 1) := by decide +kernel
theorem d_M_overType_20 : decode prog_7_method_9_code 20 = .ok (.invokevirtual 56, 3) := by decide +kernel
theorem d_M_overType_23 : decode prog_7_method_9_code 23 = .ok (.bipush 8, 2) := by decide +kernel
theorem d_M_overType_25 : decode prog_7_method_9_code 25 = .ok (.if_icmp .eq 13, 3) := by decide +kernel
theorem d_M_overType_28 : decode prog_7_method_9_code 28 = .ok (.aload_n 0, 1) := by decide +kernel
theorem d_M_overType_29 : decode prog_7_method_9_code 29 = .ok (.iload_n 2, 1) := by decide +kernel
theorem d_M_overType_30 : decode prog_7_method_9_code 30 = .ok (.invokevirtual 56, 3) := by decide +kernel
theorem d_M_overType_33 : decode prog_7_method_9_code 33 = .ok (.bipush 9, 2) := by decide +kernel
theorem d_M_overType_35 : decode prog_7_method_9_code 35 = .ok (.if_icmp .ne 9, 3) := by decide +kernel
theorem d_M_overType_38 : decode prog_7_method_9_code 38 = .ok (.aload_n 0, 1) := by decide +kernel
theorem d_M_overType_39 : decode prog_7_method_9_code 39 = .ok (.iconst 1, 1) := by decide +kernel
theorem d_M_overType_40 : decode prog_7_method_9_code 40 = .ok (.invokevirtual 67, 3) := by decide +kernel
theorem d_M_overType_43 : decode prog_7_method_9_code 43 = .ok (.istore_n 2, 1) := by decide +kernel
theorem d_M_overType_44 : decode prog_7_method_9_code 44 = .ok (.iconst 0, 1) := by decide +kernel
theorem d_M_overType_45 : decode prog_7_method_9_code 45 = .ok (.istore_n 3, 1) := by decide +kernel
theorem d_M_overType_46 : decode prog_7_method_9_code 46 = .ok (.aload_n 0, 1) := by decide +kernel
theorem d_M_overType_47 : decode prog_7_method_9_code 47 = .ok (.invokevirtual 70, 3) := by decide +kernel
theorem d_M_overType_50 : decode prog_7_method_9_code 50 = .ok (.ifCond .eq 30, 3) := by decide +kernel
theorem d_M_overType_53 : decode prog_7_method_9_code 53 = .ok (.aload_n 0, 1) := by decide +kernel
theorem d_M_overType_54 : decode prog_7_method_9_code 54 = .ok (.iload_n 2, 1) := by decide +kernel
theorem d_M_overType_55 : decode prog_7_method_9_code 55 = .ok (.invokevirtual 56, 3) := by decide +kernel
theorem d_M_overType_58 : decode prog_7_method_9_code 58 = .ok (.bipush 7, 2) := by decide +kernel
theorem d_M_overType_60 : decode prog_7_method_9_code 60 = .ok (.if_icmp .ne 20, 3) := by decide +kernel
theorem d_M_overType_63 : decode prog_7_method_9_code 63 = .ok (.iload_n 3, 1) := by decide +kernel
theorem d_M_overType_64 : decode prog_7_method_9_code 64 = .ok (.iconst 4, 1) := by decide +kernel
theorem d_M_overType_65 : decode prog_7_method_9_code 65 = .ok (.if_icmp .ge 15, 3) := by decide +kernel
theorem d_M_overType_68 : decode prog_7_method_9_code 68 = .ok (.iinc 3 1, 3) := by decide +kernel
theorem d_M_overType_71 : decode prog_7_method_9_code 71 = .ok (.aload_n 0, 1) := by decide +kernel
theorem d_M_overType_72 : decode prog_7_method_9_code 72 = .ok (.iconst 1, 1) := by decide +kernel
theorem d_M_overType_73 : decode prog_7_method_9_code 73 = .ok (.invokevirtual 67, 3) := by decide +kernel
theorem d_M_overType_76 : decode prog_7_method_9_code 76 = .ok (.istore_n 2, 1) := by decide +kernel
theorem d_M_overType_77 : decode prog_7_method_9_code 77 = .ok (.goto (-31), 3) := by decide +kernel
theorem d_M_overType_80 : decode prog_7_method_9_code 80 = .ok (.aload_n 0, 1) := by decide +kernel
theorem d_M_overType_81 : decode prog_7_method_9_code 81 = .ok (.invokevirtual 70, 3) := by decide +kernel
theorem d_M_overType_84 : decode prog_7_method_9_code 84 = .ok (.ifCond .ne 4, 3) := by decide +kernel
theorem d_M_overType_87 : decode prog_7_method_9_code 87 = .ok (.return_, 1) := by decide +kernel
theorem d_M_overType_88 : decode prog_7_method_9_code 88 = .ok (.aload_n 0, 1) := by decide +kernel
theorem d_M_overType_89 : decode prog_7_method_9_code 89 = .ok (.iload_n 2, 1) := by decide +kernel
theorem d_M_overType_90 : decode prog_7_method_9_code 90 = .ok (.invokevirtual 56, 3) := by decide +kernel
theorem d_M_overType_93 : decode prog_7_method_9_code 93 = .ok (.istore 4, 2) := by decide +kernel
theorem d_M_overType_95 : decode prog_7_method_9_code 95 = .ok (.iload 4, 2) := by decide +kernel
theorem d_M_overType_97 : decode prog_7_method_9_code 97 = .ok (.iconst 1, 1) := by decide +kernel
theorem d_M_overType_98 : decode prog_7_method_9_code 98 = .ok (.if_icmp .lt 10, 3) := by decide +kernel
theorem d_M_overType_101 : decode prog_7_method_9_code 101 = .ok (.iload 4, 2) := by decide +kernel
theorem d_M_overType_103 : decode prog_7_method_9_code 103 = .ok (.bipush 6, 2) := by decide +kernel
theorem d_M_overType_105 : decode prog_7_method_9_code 105 = .ok (.if_icmp .le 12, 3) := by decide +kernel
theorem d_M_overType_108 : decode prog_7_method_9_code 108 = .ok (.aload_n 0, 1) := by decide +kernel
theorem d_M_overType_109 : decode prog_7_method_9_code 109 = .ok (.iconst 4, 1) := by decide +kernel
theorem d_M_overType_110 : decode prog_7_method_9_code 110 = .ok (.iload_n 2, 1) := by decide +kernel
theorem d_M_overType_111 : decode prog_7_method_9_code 111 = .ok (.invokevirtual 63, 3) := by decide +kernel
theorem d_M_overType_114 : decode prog_7_method_9_code 114 = .ok (.goto 16, 3) := by decide +kernel
theorem d_M_overType_117 : decode prog_7_method_9_code 117 = .ok (.iload 4, 2) := by decide +kernel
theorem d_M_overType_119 : decode prog_7_method_9_code 119 = .ok (.bipush 6, 2) := by decide +kernel
theorem d_M_overType_121 : decode prog_7_method_9_code 121 = .ok (.if_icmp .ne 9, 3) := by decide +kernel
theorem d_M_overType_124 : decode prog_7_method_9_code 124 = .ok (.aload_n 0, 1) := by decide +kernel
theorem d_M_overType_125 : decode prog_7_method_9_code 125 = .ok (.iconst 1, 1) := by decide +kernel
theorem d_M_overType_126 : decode prog_7_method_9_code 126 = .ok (.invokevirtual 67, 3) := by decide +kernel
theorem d_M_overType_129 : decode prog_7_method_9_code 129 = .ok (.pop, 1) := by decide +kernel
theorem d_M_overType_130 : decode prog_7_method_9_code 130 = .ok (.return_, 1) := by decide +kernel
abbrev T_M_overType : List (Nat × ct_PT) := [(0, o_aload 0 1), (1, o_push (.int 1) 1), (5, o_istore 2 1), (6, o_aload 0 1), (10, o_if (fun x => ¬ x = 0) (fun x => x = 0) 14), (14, o_iload 1 1), (15, o_if (fun x => x = 0) (fun x => ¬ x = 0) 44), (18, o_aload 0 1), (19, o_iload 2 1), (23, o_push (.int 8) 2), (25, o_ic (fun x y => x = y) (fun x y => ¬ x = y) 38), (28, o_aload 0 1), (29, o_iload 2 1), (33, o_push (.int 9) 2), (35, o_ic (fun x y => ¬ x = y) (fun x y => x = y) 44), (38, o_aload 0 1), (39, o_push (.int 1) 1), (43, o_istore 2 1), (44, o_push (.int 0) 1), (45, o_istore 3 1), (46, o_aload 0 1), (50, o_if (fun x => x = 0) (fun x => ¬ x = 0) 80), (53, o_aload 0 1), (54, o_iload 2 1), (58, o_push (.int 7) 2), (60, o_ic (fun x y => ¬ x = y) (fun x y => x = y) 80), (63, o_iload 3 1), (64, o_push (.int 4) 1), (65, o_ic (fun x y => y ≤ x) (fun x y => ¬ y ≤ x) 80), (68, o_iinc 3 1), (71, o_aload 0 1), (72, o_push (.int 1) 1), (76, o_istore 2 1), (77, o_goto 46), (80, o_aload 0 1), (84, o_if (fun x => ¬ x = 0) (fun x => x = 0) 88), (88, o_aload 0 1), (89, o_iload 2 1), (93, o_istore 4 2), (95, o_iload 4 2), (97, o_push (.int 1) 1), (98, o_ic (fun x y => x < y) (fun x y => ¬ x < y) 108), (101, o_iload 4 2), (103, o_push (.int 6) 2), (105, o_ic (fun x y => x ≤ y) (fun x y => ¬ x ≤ y) 117), (108, o_aload 0 1), (109, o_push (.int 4) 1), (110, o_iload 2 1), (114, o_goto 130), (117, o_iload 4 2), (119, o_push (.int 6) 2), (121, o_ic (fun x y => ¬ x = y) (fun x y => x = y) 130), (124, o_aload 0 1), (125, o_push (.int 1) 1), (129, o_pop)]
set_option maxRecDepth 100000 in
theorem A_M_overType (l : ct_Lx) : ct_al l M_M_overType (T_M_overType) := by
  refine ct_al.cons (so_aload_n d_M_overType_0 rfl) ?_
  refine ct_al.cons (so_iconst d_M_overType_1 (by decide)) ?_
  refine ct_al.cons (so_istore_n d_M_overType_5 rfl (by decide)) ?_
  refine ct_al.cons (so_aload_n d_M_overType_6 rfl) ?_
  refine ct_al.cons (so_if_ne d_M_overType_10 (by decide)) ?_
  refine ct_al.cons (so_iload_n d_M_overType_14 rfl) ?_
  refine ct_al.cons (so_if_eq d_M_overType_15 (by decide)) ?_
  refine ct_al.cons (so_aload_n d_M_overType_18 rfl) ?_
  refine ct_al.cons (so_iload_n d_M_overType_19 rfl) ?_
  refine ct_al.cons (so_bipush d_M_overType_23 (by decide)) ?_
  refine ct_al.cons (so_ic_eq d_M_overType_25 (by decide)) ?_
  refine ct_al.cons (so_aload_n d_M_overType_28 rfl) ?_
  refine ct_al.cons (so_iload_n d_M_overType_29 rfl) ?_
  refine ct_al.cons (so_bipush d_M_overType_33 (by decide)) ?_
  refine ct_al.cons (so_ic_ne d_M_overType_35 (by decide)) ?_
  refine ct_al.cons (so_aload_n d_M_overType_38 rfl) ?_
  refine ct_al.cons (so_iconst d_M_overType_39 (by decide)) ?_
  refine ct_al.cons (so_istore_n d_M_overType_43 rfl (by decide)) ?_
  refine ct_al.cons (so_iconst d_M_overType_44 (by decide)) ?_
  refine ct_al.cons (so_istore_n d_M_overType_45 rfl (by decide)) ?_
  refine ct_al.cons (so_aload_n d_M_overType_46 rfl) ?_
  refine ct_al.cons (so_if_eq d_M_overType_50 (by decide)) ?_
  refine ct_al.cons (so_aload_n d_M_overType_53 rfl) ?_
  refine ct_al.cons (so_iload_n d_M_overType_54 rfl) ?_
  refine ct_al.cons (so_bipush d_M_overType_58 (by decide)) ?_
  refine ct_al.cons (so_ic_ne d_M_overType_60 (by decide)) ?_
  refine ct_al.cons (so_iload_n d_M_overType_63 rfl) ?_
  refine ct_al.cons (so_iconst d_M_overType_64 (by decide)) ?_
  refine ct_al.cons (so_ic_ge d_M_overType_65 (by decide)) ?_
  refine ct_al.cons (so_iinc d_M_overType_68 (by decide) (by decide)) ?_
  refine ct_al.cons (so_aload_n d_M_overType_71 rfl) ?_
  refine ct_al.cons (so_iconst d_M_overType_72 (by decide)) ?_
  refine ct_al.cons (so_istore_n d_M_overType_76 rfl (by decide)) ?_
  refine ct_al.cons (so_goto d_M_overType_77 (by decide)) ?_
  refine ct_al.cons (so_aload_n d_M_overType_80 rfl) ?_
  refine ct_al.cons (so_if_ne d_M_overType_84 (by decide)) ?_
  refine ct_al.cons (so_aload_n d_M_overType_88 rfl) ?_
  refine ct_al.cons (so_iload_n d_M_overType_89 rfl) ?_
  refine ct_al.cons (so_istore d_M_overType_93 (by decide)) ?_
  refine ct_al.cons (so_iload d_M_overType_95) ?_
  refine ct_al.cons (so_iconst d_M_overType_97 (by decide)) ?_
  refine ct_al.cons (so_ic_lt d_M_overType_98 (by decide)) ?_
  refine ct_al.cons (so_iload d_M_overType_101) ?_
  refine ct_al.cons (so_bipush d_M_overType_103 (by decide)) ?_
  refine ct_al.cons (so_ic_le d_M_overType_105 (by decide)) ?_
  refine ct_al.cons (so_aload_n d_M_overType_108 rfl) ?_
  refine ct_al.cons (so_iconst d_M_overType_109 (by decide)) ?_
  refine ct_al.cons (so_iload_n d_M_overType_110 rfl) ?_
  refine ct_al.cons (so_goto d_M_overType_114 (by decide)) ?_
  refine ct_al.cons (so_iload d_M_overType_117) ?_
  refine ct_al.cons (so_bipush d_M_overType_119 (by decide)) ?_
  refine ct_al.cons (so_ic_ne d_M_overType_121 (by decide)) ?_
  refine ct_al.cons (so_aload_n d_M_overType_124 rfl) ?_
  refine ct_al.cons (so_iconst d_M_overType_125 (by decide)) ?_
  refine ct_al.cons (so_pop d_M_overType_129) ?_
  exact ct_al.nil
theorem e_M_overType_0 : ct_tab (T_M_overType) 0 = some (o_aload 0 1) := rfl
theorem e_M_overType_1 : ct_tab (T_M_overType) 1 = some (o_push (.int 1) 1) := rfl
theorem e_M_overType_5 : ct_tab (T_M_overType) 5 = some (o_istore 2 1) := rfl
theorem e_M_overType_6 : ct_tab (T_M_overType) 6 = some (o_aload 0 1) := rfl
theorem e_M_overType_10 : ct_tab (T_M_overType) 10 = some (o_if (fun x => ¬ x = 0) (fun x => x = 0) 14) := rfl
theorem e_M_overType_14 : ct_tab (T_M_overType) 14 = some (o_iload 1 1) := rfl
theorem e_M_overType_15 : ct_tab (T_M_overType) 15 = some (o_if (fun x => x = 0) (fun x => ¬ x = 0) 44) := rfl
theorem e_M_overType_18 : ct_tab (T_M_overType) 18 = some (o_aload 0 1) := rfl
theorem e_M_overType_19 : ct_tab (T_M_overType) 19 = some (o_iload 2 1) := rfl
theorem e_M_overType_23 : ct_tab (T_M_overType) 23 = some (o_push (.int 8) 2) := rfl
theorem e_M_overType_25 : ct_tab (T_M_overType) 25 = some (o_ic (fun x y => x = y) (fun x y => ¬ x = y) 38) := rfl
theorem e_M_overType_28 : ct_tab (T_M_overType) 28 = some (o_aload 0 1) := rfl
theorem e_M_overType_29 : ct_tab (T_M_overType) 29 = some (o_iload 2 1) := rfl
theorem e_M_overType_33 : ct_tab (T_M_overType) 33 = some (o_push (.int 9) 2) := rfl
theorem e_M_overType_35 : ct_tab (T_M_overType) 35 = some (o_ic (fun x y => ¬ x = y) (fun x y => x = y) 44) := rfl
theorem e_M_overType_38 : ct_tab (T_M_overType) 38 = some (o_aload 0 1) := rfl
theorem e_M_overType_39 : ct_tab (T_M_overType) 39 = some (o_push (.int 1) 1) := rfl
theorem e_M_overType_43 : ct_tab (T_M_overType) 43 = some (o_istore 2 1) := rfl
theorem e_M_overType_44 : ct_tab (T_M_overType) 44 = some (o_push (.int 0) 1) := rfl
theorem e_M_overType_45 : ct_tab (T_M_overType) 45 = some (o_istore 3 1) := rfl
theorem e_M_overType_46 : ct_tab (T_M_overType) 46 = some (o_aload 0 1) := rfl
theorem e_M_overType_50 : ct_tab (T_M_overType) 50 = some (o_if (fun x => x = 0) (fun x => ¬ x = 0) 80) := rfl
theorem e_M_overType_53 : ct_tab (T_M_overType) 53 = some (o_aload 0 1) := rfl
theorem e_M_overType_54 : ct_tab (T_M_overType) 54 = some (o_iload 2 1) := rfl
theorem e_M_overType_58 : ct_tab (T_M_overType) 58 = some (o_push (.int 7) 2) := rfl
theorem e_M_overType_60 : ct_tab (T_M_overType) 60 = some (o_ic (fun x y => ¬ x = y) (fun x y => x = y) 80) := rfl
theorem e_M_overType_63 : ct_tab (T_M_overType) 63 = some (o_iload 3 1) := rfl
theorem e_M_overType_64 : ct_tab (T_M_overType) 64 = some (o_push (.int 4) 1) := rfl
theorem e_M_overType_65 : ct_tab (T_M_overType) 65 = some (o_ic (fun x y => y ≤ x) (fun x y => ¬ y ≤ x) 80) := rfl
theorem e_M_overType_68 : ct_tab (T_M_overType) 68 = some (o_iinc 3 1) := rfl
theorem e_M_overType_71 : ct_tab (T_M_overType) 71 = some (o_aload 0 1) := rfl
theorem e_M_overType_72 : ct_tab (T_M_overType) 72 = some (o_push (.int 1) 1) := rfl
theorem e_M_overType_76 : ct_tab (T_M_overType) 76 = some (o_istore 2 1) := rfl
theorem e_M_overType_77 : ct_tab (T_M_overType) 77 = some (o_goto 46) := rfl
theorem e_M_overType_80 : ct_tab (T_M_overType) 80 = some (o_aload 0 1) := rfl
theorem e_M_overType_84 : ct_tab (T_M_overType) 84 = some (o_if (fun x => ¬ x = 0) (fun x => x = 0) 88) := rfl
theorem e_M_overType_88 : ct_tab (T_M_overType) 88 = some (o_aload 0 1) := rfl
theorem e_M_overType_89 : ct_tab (T_M_overType) 89 = some (o_iload 2 1) := rfl
theorem e_M_overType_93 : ct_tab (T_M_overType) 93 = some (o_istore 4 2) := rfl
theorem e_M_overType_95 : ct_tab (T_M_overType) 95 = some (o_iload 4 2) := rfl
theorem e_M_overType_97 : ct_tab (T_M_overType) 97 = some (o_push (.int 1) 1) := rfl
theorem e_M_overType_98 : ct_tab (T_M_overType) 98 = some (o_ic (fun x y => x < y) (fun x y => ¬ x < y) 108) := rfl
theorem e_M_overType_101 : ct_tab (T_M_overType) 101 = some (o_iload 4 2) := rfl
theorem e_M_overType_103 : ct_tab (T_M_overType) 103 = some (o_push (.int 6) 2) := rfl
theorem e_M_overType_105 : ct_tab (T_M_overType) 105 = some (o_ic (fun x y => x ≤ y) (fun x y => ¬ x ≤ y) 117) := rfl
theorem e_M_overType_108 : ct_tab (T_M_overType) 108 = some (o_aload 0 1) := rfl
theorem e_M_overType_109 : ct_tab (T_M_overType) 109 = some (o_push (.int 4) 1) := rfl
theorem e_M_overType_110 : ct_tab (T_M_overType) 110 = some (o_iload 2 1) := rfl
theorem e_M_overType_114 : ct_tab (T_M_overType) 114 = some (o_goto 130) := rfl
theorem e_M_overType_117 : ct_tab (T_M_overType) 117 = some (o_iload 4 2) := rfl
theorem e_M_overType_119 : ct_tab (T_M_overType) 119 = some (o_push (.int 6) 2) := rfl
theorem e_M_overType_121 : ct_tab (T_M_overType) 121 = some (o_ic (fun x y => ¬ x = y) (fun x y => x = y) 130) := rfl
theorem e_M_overType_124 : ct_tab (T_M_overType) 124 = some (o_aload 0 1) := rfl
theorem e_M_overType_125 : ct_tab (T_M_overType) 125 = some (o_push (.int 1) 1) := rfl
theorem e_M_overType_129 : ct_tab (T_M_overType) 129 = some (o_pop) := rfl
theorem cl_M_overType_2 {l : ct_Lx} {d d1 : Nat} {Post Post1 : Option Value → ct_Sg → Prop} {lv : ct_Lv} {st : List Value} {g : ct_Sg} {bc bs c1 s1 : Nat} {a1 : Value} {h : Nat} (hsh : g.2.1 h = (10 + 4, 24)) (hM : ct_Me l M_M_over d1 c1 s1 [.ref h, a1] g Post1) (hdd : d1 + 1 ≤ d) (hk : (st.map fun v => v.category).sum ≤ 8) (hcc : c1 ≤ bc) (hss : s1 ≤ bs) (kk : ∀ (v : Option Value) (g' : ct_Sg), Post1 v g' → ct_Wp l M_M_overType d Post (5, lv, v.toList ++ st, g', bc - c1, bs - s1)) : ct_Wp l M_M_overType d Post (2, lv, a1 :: .ref h :: st, g, bc, bs) := ct_Wp.callV (ci := 4) (N := 24) (T := ct_T4) (As := [a1]) lk_M_over (Or.inl wd_368) wd_369 wd_370 rfl d_M_overType_2 hsh hM rfl hdd hk hcc hss kk
theorem cl_M_overType_7 {l : ct_Lx} {d d1 : Nat} {Post Post1 : Option Value → ct_Sg → Prop} {lv : ct_Lv} {st : List Value} {g : ct_Sg} {bc bs c1 s1 : Nat} {h : Nat} (hsh : g.2.1 h = (10 + 4, 24)) (hM : ct_Me l M_M_isGood d1 c1 s1 [.ref h] g Post1) (hdd : d1 + 1 ≤ d) (hk : (st.map fun v => v.category).sum ≤ 8) (hcc : c1 ≤ bc) (hss : s1 ≤ bs) (kk : ∀ (v : Option Value) (g' : ct_Sg), Post1 v g' → ct_Wp l M_M_overType d Post (10, lv, v.toList ++ st, g', bc - c1, bs - s1)) : ct_Wp l M_M_overType d Post (7, lv, .ref h :: st, g, bc, bs) := ct_Wp.callV (ci := 4) (N := 24) (T := ct_T4) (As := []) lk_M_isGood (Or.inl wd_373) wd_374 wd_375 rfl d_M_overType_7 hsh hM rfl hdd hk hcc hss kk
theorem cl_M_overType_20 {l : ct_Lx} {d d1 : Nat} {Post Post1 : Option Value → ct_Sg → Prop} {lv : ct_Lv} {st : List Value} {g : ct_Sg} {bc bs c1 s1 : Nat} {a1 : Value} {h : Nat} (hsh : g.2.1 h = (10 + 4, 24)) (hM : ct_Me l M_M_byteAt d1 c1 s1 [.ref h, a1] g Post1) (hdd : d1 + 1 ≤ d) (hk : (st.map fun v => v.category).sum ≤ 8) (hcc : c1 ≤ bc) (hss : s1 ≤ bs) (kk : ∀ (v : Option Value) (g' : ct_Sg), Post1 v g' → ct_Wp l M_M_overType d Post (23, lv, v.toList ++ st, g', bc - c1, bs - s1)) : ct_Wp l M_M_overType d Post (20, lv, a1 :: .ref h :: st, g, bc, bs) := ct_Wp.callV (ci := 4) (N := 24) (T := ct_T4) (As := [a1]) lk_M_byteAt (Or.inl wd_357) wd_358 wd_359 rfl d_M_overType_20 hsh hM rfl hdd hk hcc hss kk
theorem cl_M_overType_30 {l : ct_Lx} {d d1 : Nat} {Post Post1 : Option Value → ct_Sg → Prop} {lv : ct_Lv} {st : List Value} {g : ct_Sg} {bc bs c1 s1 : Nat} {a1 : Value} {h : Nat} (hsh : g.2.1 h = (10 + 4, 24)) (hM : ct_Me l M_M_byteAt d1 c1 s1 [.ref h, a1] g Post1) (hdd : d1 + 1 ≤ d) (hk : (st.map fun v => v.category).sum ≤ 8) (hcc : c1 ≤ bc) (hss : s1 ≤ bs) (kk : ∀ (v : Option Value) (g' : ct_Sg), Post1 v g' → ct_Wp l M_M_overType d Post (33, lv, v.toList ++ st, g', bc - c1, bs - s1)) : ct_Wp l M_M_overType d Post (30, lv, a1 :: .ref h :: st, g, bc, bs) := ct_Wp.callV (ci := 4) (N := 24) (T := ct_T4) (As := [a1]) lk_M_byteAt (Or.inl wd_357) wd_358 wd_359 rfl d_M_overType_30 hsh hM rfl hdd hk hcc hss kk
theorem cl_M_overType_40 {l : ct_Lx} {d d1 : Nat} {Post Post1 : Option Value → ct_Sg → Prop} {lv : ct_Lv} {st : List Value} {g : ct_Sg} {bc bs c1 s1 : Nat} {a1 : Value} {h : Nat} (hsh : g.2.1 h = (10 + 4, 24)) (hM : ct_Me l M_M_over d1 c1 s1 [.ref h, a1] g Post1) (hdd : d1 + 1 ≤ d) (hk : (st.map fun v => v.category).sum ≤ 8) (hcc : c1 ≤ bc) (hss : s1 ≤ bs) (kk : ∀ (v : Option Value) (g' : ct_Sg), Post1 v g' → ct_Wp l M_M_overType d Post (43, lv, v.toList ++ st, g', bc - c1, bs - s1)) : ct_Wp l M_M_overType d Post (40, lv, a1 :: .ref h :: st, g, bc, bs) := ct_Wp.callV (ci := 4) (N := 24) (T := ct_T4) (As := [a1]) lk_M_over (Or.inl wd_368) wd_369 wd_370 rfl d_M_overType_40 hsh hM rfl hdd hk hcc hss kk
theorem cl_M_overType_47 {l : ct_Lx} {d d1 : Nat} {Post Post1 : Option Value → ct_Sg → Prop} {lv : ct_Lv} {st : List Value} {g : ct_Sg} {bc bs c1 s1 : Nat} {h : Nat} (hsh : g.2.1 h = (10 + 4, 24)) (hM : ct_Me l M_M_isGood d1 c1 s1 [.ref h] g Post1) (hdd : d1 + 1 ≤ d) (hk : (st.map fun v => v.category).sum ≤ 8) (hcc : c1 ≤ bc) (hss : s1 ≤ bs) (kk : ∀ (v : Option Value) (g' : ct_Sg), Post1 v g' → ct_Wp l M_M_overType d Post (50, lv, v.toList ++ st, g', bc - c1, bs - s1)) : ct_Wp l M_M_overType d Post (47, lv, .ref h :: st, g, bc, bs) := ct_Wp.callV (ci := 4) (N := 24) (T := ct_T4) (As := []) lk_M_isGood (Or.inl wd_373) wd_374 wd_375 rfl d_M_overType_47 hsh hM rfl hdd hk hcc hss kk
theorem cl_M_overType_55 {l : ct_Lx} {d d1 : Nat} {Post Post1 : Option Value → ct_Sg → Prop} {lv : ct_Lv} {st : List Value} {g : ct_Sg} {bc bs c1 s1 : Nat} {a1 : Value} {h : Nat} (hsh : g.2.1 h = (10 + 4, 24)) (hM : ct_Me l M_M_byteAt d1 c1 s1 [.ref h, a1] g Post1) (hdd : d1 + 1 ≤ d) (hk : (st.map fun v => v.category).sum ≤ 8) (hcc : c1 ≤ bc) (hss : s1 ≤ bs) (kk : ∀ (v : Option Value) (g' : ct_Sg), Post1 v g' → ct_Wp l M_M_overType d Post (58, lv, v.toList ++ st, g', bc - c1, bs - s1)) : ct_Wp l M_M_overType d Post (55, lv, a1 :: .ref h :: st, g, bc, bs) := ct_Wp.callV (ci := 4) (N := 24) (T := ct_T4) (As := [a1]) lk_M_byteAt (Or.inl wd_357) wd_358 wd_359 rfl d_M_overType_55 hsh hM rfl hdd hk hcc hss kk
theorem cl_M_overType_73 {l : ct_Lx} {d d1 : Nat} {Post Post1 : Option Value → ct_Sg → Prop} {lv : ct_Lv} {st : List Value} {g : ct_Sg} {bc bs c1 s1 : Nat} {a1 : Value} {h : Nat} (hsh : g.2.1 h = (10 + 4, 24)) (hM : ct_Me l M_M_over d1 c1 s1 [.ref h, a1] g Post1) (hdd : d1 + 1 ≤ d) (hk : (st.map fun v => v.category).sum ≤ 8) (hcc : c1 ≤ bc) (hss : s1 ≤ bs) (kk : ∀ (v : Option Value) (g' : ct_Sg), Post1 v g' → ct_Wp l M_M_overType d Post (76, lv, v.toList ++ st, g', bc - c1, bs - s1)) : ct_Wp l M_M_overType d Post (73, lv, a1 :: .ref h :: st, g, bc, bs) := ct_Wp.callV (ci := 4) (N := 24) (T := ct_T4) (As := [a1]) lk_M_over (Or.inl wd_368) wd_369 wd_370 rfl d_M_overType_73 hsh hM rfl hdd hk hcc hss kk
theorem cl_M_overType_81 {l : ct_Lx} {d d1 : Nat} {Post Post1 : Option Value → ct_Sg → Prop} {lv : ct_Lv} {st : List Value} {g : ct_Sg} {bc bs c1 s1 : Nat} {h : Nat} (hsh : g.2.1 h = (10 + 4, 24)) (hM : ct_Me l M_M_isGood d1 c1 s1 [.ref h] g Post1) (hdd : d1 + 1 ≤ d) (hk : (st.map fun v => v.category).sum ≤ 8) (hcc : c1 ≤ bc) (hss : s1 ≤ bs) (kk : ∀ (v : Option Value) (g' : ct_Sg), Post1 v g' → ct_Wp l M_M_overType d Post (84, lv, v.toList ++ st, g', bc - c1, bs - s1)) : ct_Wp l M_M_overType d Post (81, lv, .ref h :: st, g, bc, bs) := ct_Wp.callV (ci := 4) (N := 24) (T := ct_T4) (As := []) lk_M_isGood (Or.inl wd_373) wd_374 wd_375 rfl d_M_overType_81 hsh hM rfl hdd hk hcc hss kk
theorem cl_M_overType_90 {l : ct_Lx} {d d1 : Nat} {Post Post1 : Option Value → ct_Sg → Prop} {lv : ct_Lv} {st : List Value} {g : ct_Sg} {bc bs c1 s1 : Nat} {a1 : Value} {h : Nat} (hsh : g.2.1 h = (10 + 4, 24)) (hM : ct_Me l M_M_byteAt d1 c1 s1 [.ref h, a1] g Post1) (hdd : d1 + 1 ≤ d) (hk : (st.map fun v => v.category).sum ≤ 8) (hcc : c1 ≤ bc) (hss : s1 ≤ bs) (kk : ∀ (v : Option Value) (g' : ct_Sg), Post1 v g' → ct_Wp l M_M_overType d Post (93, lv, v.toList ++ st, g', bc - c1, bs - s1)) : ct_Wp l M_M_overType d Post (90, lv, a1 :: .ref h :: st, g, bc, bs) := ct_Wp.callV (ci := 4) (N := 24) (T := ct_T4) (As := [a1]) lk_M_byteAt (Or.inl wd_357) wd_358 wd_359 rfl d_M_overType_90 hsh hM rfl hdd hk hcc hss kk
theorem cl_M_overType_111 {l : ct_Lx} {d d1 : Nat} {Post Post1 : Option Value → ct_Sg → Prop} {lv : ct_Lv} {st : List Value} {g : ct_Sg} {bc bs c1 s1 : Nat} {a1 a2 : Value} {h : Nat} (hsh : g.2.1 h = (10 + 4, 24)) (hM : ct_Me l M_M_fail d1 c1 s1 [.ref h, a1, a2] g Post1) (hdd : d1 + 1 ≤ d) (hk : (st.map fun v => v.category).sum ≤ 8) (hcc : c1 ≤ bc) (hss : s1 ≤ bs) (kk : ∀ (v : Option Value) (g' : ct_Sg), Post1 v g' → ct_Wp l M_M_overType d Post (114, lv, v.toList ++ st, g', bc - c1, bs - s1)) : ct_Wp l M_M_overType d Post (111, lv, a2 :: a1 :: .ref h :: st, g, bc, bs) := ct_Wp.callV (ci := 4) (N := 24) (T := ct_T4) (As := [a1, a2]) lk_M_fail (Or.inl wd_363) wd_364 wd_365 rfl d_M_overType_111 hsh hM rfl hdd hk hcc hss kk
theorem cl_M_overType_126 {l : ct_Lx} {d d1 : Nat} {Post Post1 : Option Value → ct_Sg → Prop} {lv : ct_Lv} {st : List Value} {g : ct_Sg} {bc bs c1 s1 : Nat} {a1 : Value} {h : Nat} (hsh : g.2.1 h = (10 + 4, 24)) (hM : ct_Me l M_M_over d1 c1 s1 [.ref h, a1] g Post1) (hdd : d1 + 1 ≤ d) (hk : (st.map fun v => v.category).sum ≤ 8) (hcc : c1 ≤ bc) (hss : s1 ≤ bs) (kk : ∀ (v : Option Value) (g' : ct_Sg), Post1 v g' → ct_Wp l M_M_overType d Post (129, lv, v.toList ++ st, g', bc - c1, bs - s1)) : ct_Wp l M_M_overType d Post (126, lv, a1 :: .ref h :: st, g, bc, bs) := ct_Wp.callV (ci := 4) (N := 24) (T := ct_T4) (As := [a1]) lk_M_over (Or.inl wd_368) wd_369 wd_370 rfl d_M_overType_126 hsh hM rfl hdd hk hcc hss kk
theorem d_M_overList_0 : decode prog_7_method_10_code 0 = .ok (.aload_n 0, 1) := by decide +kernel
theorem d_M_overList_1 : decode prog_7_method_10_code 1 = .ok (.iconst 0, 1) := by decide +kernel
theorem d_M_overList_2 : decode prog_7_method_10_code 2 = .ok (.iload_n 1, 1) := by decide +kernel
theorem d_M_overList_3 : decode prog_7_method_10_code 3 = .ok (.invokevirtual 74, 3) := by decide +kernel
theorem d_M_overList_6 : decode prog_7_method_10_code 6 = .ok (.istore_n 3, 1) := by decide +kernel
theorem d_M_overList_7 : decode prog_7_method_10_code 7 = .ok (.iconst 0, 1) := by decide +kernel
theorem d_M_overList_8 : decode prog_7_method_10_code 8 = .ok (.istore 4, 2) := by decide +kernel
theorem d_M_overList_10 : decode prog_7_method_10_code 10 = .ok (.iload 4, 2) := by decide +kernel
theorem d_M_overList_12 : decode prog_7_method_10_code 12 = .ok (.iload_n 3, 1) := by decide +kernel
theorem d_M_overList_13 : decode prog_7_method_10_code 13 = .ok (.if_icmp .ge 21, 3) := by decide +kernel
theorem d_M_overList_16 : decode prog_7_method_10_code 16 = .ok (.aload_n 0, 1) := by decide +kernel
theorem d_M_overList_17 : decode prog_7_method_10_code 17 = .ok (.invokevirtual 70, 3) := by decide +kernel
theorem d_M_overList_20 : decode prog_7_method_10_code 20 = .ok (.ifCond .eq 14, 3) := by decide +kernel
theorem d_M_overList_23 : decode prog_7_method_10_code 23 = .ok (.aload_n 0, 1) := by decide +kernel
theorem d_M_overList_24 : decode prog_7_method_10_code 24 = .ok (.iload_n 2, 1) := by decide +kernel
theorem d_M_overList_25 : decode prog_7_method_10_code 25 = .ok (.invokevirtual 78, 3) := by decide +kernel
theorem d_M_overList_28 : decode prog_7_method_10_code 28 = .ok (.iinc 4 1, 3) := by decide +kernel
theorem d_M_overList_31 : decode prog_7_method_10_code 31 = .ok (.goto (-21), 3) := by decide +kernel
theorem d_M_overList_34 : decode prog_7_method_10_code 34 = .ok (.return_, 1) := by decide +kernel
abbrev T_M_overList : List (Nat × ct_PT) := [(0, o_aload 0 1), (1, o_push (.int 0) 1), (2, o_iload 1 1), (6, o_istore 3 1), (7, o_push (.int 0) 1), (8, o_istore 4 2), (10, o_iload 4 2), (12, o_iload 3 1), (13, o_ic (fun x y => y ≤ x) (fun x y => ¬ y ≤ x) 34), (16, o_aload 0 1), (20, o_if (fun x => x = 0) (fun x => ¬ x = 0) 34), (23, o_aload 0 1), (24, o_iload 2 1), (28, o_iinc 4 1), (31, o_goto 10)]
set_option maxRecDepth 100000 in
theorem A_M_overList (l : ct_Lx) : ct_al l M_M_overList (T_M_overList) := by
  refine ct_al.cons (so_aload_n d_M_overList_0 rfl) ?_
  refine ct_al.cons (so_iconst d_M_overList_1 (by decide)) ?_
  refine ct_al.cons (so_iload_n d_M_overList_2 rfl) ?_
  refine ct_al.cons (so_istore_n d_M_overList_6 rfl (by decide)) ?_
  refine ct_al.cons (so_iconst d_M_overList_7 (by decide)) ?_
  refine ct_al.cons (so_istore d_M_overList_8 (by decide)) ?_
  refine ct_al.cons (so_iload d_M_overList_10) ?_
  refine ct_al.cons (so_iload_n d_M_overList_12 rfl) ?_
  refine ct_al.cons (so_ic_ge d_M_overList_13 (by decide)) ?_
  refine ct_al.cons (so_aload_n d_M_overList_16 rfl) ?_
  refine ct_al.cons (so_if_eq d_M_overList_20 (by decide)) ?_
  refine ct_al.cons (so_aload_n d_M_overList_23 rfl) ?_
  refine ct_al.cons (so_iload_n d_M_overList_24 rfl) ?_
  refine ct_al.cons (so_iinc d_M_overList_28 (by decide) (by decide)) ?_
  refine ct_al.cons (so_goto d_M_overList_31 (by decide)) ?_
  exact ct_al.nil
theorem e_M_overList_0 : ct_tab (T_M_overList) 0 = some (o_aload 0 1) := rfl
theorem e_M_overList_1 : ct_tab (T_M_overList) 1 = some (o_push (.int 0) 1) := rfl
theorem e_M_overList_2 : ct_tab (T_M_overList) 2 = some (o_iload 1 1) := rfl
theorem e_M_overList_6 : ct_tab (T_M_overList) 6 = some (o_istore 3 1) := rfl
theorem e_M_overList_7 : ct_tab (T_M_overList) 7 = some (o_push (.int 0) 1) := rfl
theorem e_M_overList_8 : ct_tab (T_M_overList) 8 = some (o_istore 4 2) := rfl
theorem e_M_overList_10 : ct_tab (T_M_overList) 10 = some (o_iload 4 2) := rfl
theorem e_M_overList_12 : ct_tab (T_M_overList) 12 = some (o_iload 3 1) := rfl
theorem e_M_overList_13 : ct_tab (T_M_overList) 13 = some (o_ic (fun x y => y ≤ x) (fun x y => ¬ y ≤ x) 34) := rfl
theorem e_M_overList_16 : ct_tab (T_M_overList) 16 = some (o_aload 0 1) := rfl
theorem e_M_overList_20 : ct_tab (T_M_overList) 20 = some (o_if (fun x => x = 0) (fun x => ¬ x = 0) 34) := rfl
theorem e_M_overList_23 : ct_tab (T_M_overList) 23 = some (o_aload 0 1) := rfl
theorem e_M_overList_24 : ct_tab (T_M_overList) 24 = some (o_iload 2 1) := rfl
theorem e_M_overList_28 : ct_tab (T_M_overList) 28 = some (o_iinc 4 1) := rfl
theorem e_M_overList_31 : ct_tab (T_M_overList) 31 = some (o_goto 10) := rfl
theorem cl_M_overList_3 {l : ct_Lx} {d d1 : Nat} {Post Post1 : Option Value → ct_Sg → Prop} {lv : ct_Lv} {st : List Value} {g : ct_Sg} {bc bs c1 s1 : Nat} {a1 a2 : Value} {h : Nat} (hsh : g.2.1 h = (10 + 4, 24)) (hM : ct_Me l M_M_count d1 c1 s1 [.ref h, a1, a2] g Post1) (hdd : d1 + 1 ≤ d) (hk : (st.map fun v => v.category).sum ≤ 8) (hcc : c1 ≤ bc) (hss : s1 ≤ bs) (kk : ∀ (v : Option Value) (g' : ct_Sg), Post1 v g' → ct_Wp l M_M_overList d Post (6, lv, v.toList ++ st, g', bc - c1, bs - s1)) : ct_Wp l M_M_overList d Post (3, lv, a2 :: a1 :: .ref h :: st, g, bc, bs) := ct_Wp.callV (ci := 4) (N := 24) (T := ct_T4) (As := [a1, a2]) lk_M_count (Or.inl wd_378) wd_379 wd_380 rfl d_M_overList_3 hsh hM rfl hdd hk hcc hss kk
theorem cl_M_overList_17 {l : ct_Lx} {d d1 : Nat} {Post Post1 : Option Value → ct_Sg → Prop} {lv : ct_Lv} {st : List Value} {g : ct_Sg} {bc bs c1 s1 : Nat} {h : Nat} (hsh : g.2.1 h = (10 + 4, 24)) (hM : ct_Me l M_M_isGood d1 c1 s1 [.ref h] g Post1) (hdd : d1 + 1 ≤ d) (hk : (st.map fun v => v.category).sum ≤ 8) (hcc : c1 ≤ bc) (hss : s1 ≤ bs) (kk : ∀ (v : Option Value) (g' : ct_Sg), Post1 v g' → ct_Wp l M_M_overList d Post (20, lv, v.toList ++ st, g', bc - c1, bs - s1)) : ct_Wp l M_M_overList d Post (17, lv, .ref h :: st, g, bc, bs) := ct_Wp.callV (ci := 4) (N := 24) (T := ct_T4) (As := []) lk_M_isGood (Or.inl wd_373) wd_374 wd_375 rfl d_M_overList_17 hsh hM rfl hdd hk hcc hss kk
theorem cl_M_overList_25 {l : ct_Lx} {d d1 : Nat} {Post Post1 : Option Value → ct_Sg → Prop} {lv : ct_Lv} {st : List Value} {g : ct_Sg} {bc bs c1 s1 : Nat} {a1 : Value} {h : Nat} (hsh : g.2.1 h = (10 + 4, 24)) (hM : ct_Me l M_M_overType d1 c1 s1 [.ref h, a1] g Post1) (hdd : d1 + 1 ≤ d) (hk : (st.map fun v => v.category).sum ≤ 8) (hcc : c1 ≤ bc) (hss : s1 ≤ bs) (kk : ∀ (v : Option Value) (g' : ct_Sg), Post1 v g' → ct_Wp l M_M_overList d Post (28, lv, v.toList ++ st, g', bc - c1, bs - s1)) : ct_Wp l M_M_overList d Post (25, lv, a1 :: .ref h :: st, g, bc, bs) := ct_Wp.callV (ci := 4) (N := 24) (T := ct_T4) (As := [a1]) lk_M_overType (Or.inl wd_383) wd_384 wd_385 rfl d_M_overList_25 hsh hM rfl hdd hk hcc hss kk
theorem d_M_operandBytes_0 : decode prog_7_method_11_code 0 = .ok (.iload_n 0, 1) := by decide +kernel
theorem d_M_operandBytes_1 : decode prog_7_method_11_code 1 = .ok (.iconst 5, 1) := by decide +kernel
theorem d_M_operandBytes_2 : decode prog_7_method_11_code 2 = .ok (.if_icmp .eq 51, 3) := by decide +kernel
theorem d_M_operandBytes_5 : decode prog_7_method_11_code 5 = .ok (.iload_n 0, 1) := by decide +kernel
theorem d_M_operandBytes_6 : decode prog_7_method_11_code 6 = .ok (.bipush 10, 2) := by decide +kernel
theorem d_M_operandBytes_8 : decode prog_7_method_11_code 8 = .ok (.if_icmp .le 9, 3) := by decide +kernel
theorem d_M_operandBytes_11 : decode prog_7_method_11_code 11 = .ok (.iload_n 0, 1) := by decide +kernel
theorem d_M_operandBytes_12 : decode prog_7_method_11_code 12 = .ok (.bipush 16, 2) := by decide +kernel
theorem d_M_operandBytes_14 : decode prog_7_method_11_code 14 = .ok (.if_icmp .lt 39, 3) := by decide +kernel
theorem d_M_operandBytes_17 : decode prog_7_method_11_code 17 = .ok (.iload_n 0, 1) := by decide +kernel
theorem d_M_operandBytes_18 : decode prog_7_method_11_code 18 = .ok (.bipush 20, 2) := by decide +kernel
theorem d_M_operandBytes_20 : decode prog_7_method_11_code 20 = .ok (.if_icmp .le 9, 3) := by decide +kernel
theorem d_M_operandBytes_23 : decode prog_7_method_11_code 23 = .ok (.iload_n 0, 1) := by decide +kernel
theorem d_M_operandBytes_24 : decode prog_7_method_11_code 24 = .ok (.bipush 24, 2) := by decide +kernel
theorem d_M_operandBytes_26 : decode prog_7_method_11_code 26 = .ok (.if_icmp .lt 27, 3) := by decide +kernel
theorem d_M_operandBytes_29 : decode prog_7_method_11_code 29 = .ok (.iload_n 0, 1) := by decide +kernel
theorem d_M_operandBytes_30 : decode prog_7_method_11_code 30 = .ok (.bipush 46, 2) := by decide +kernel
theorem d_M_operandBytes_32 : decode prog_7_method_11_code 32 = .ok (.if_icmp .le 9, 3) := by decide +kernel
theorem d_M_operandBytes_35 : decode prog_7_method_11_code 35 = .ok (.iload_n 0, 1) := by decide +kernel
theorem d_M_operandBytes_36 : decode prog_7_method_11_code 36 = .ok (.bipush 52, 2) := by decide +kernel
theorem d_M_operandBytes_38 : decode prog_7_method_11_code 38 = .ok (.if_icmp .lt 15, 3) := by decide +kernel
theorem d_M_operandBytes_41 : decode prog_7_method_11_code 41 = .ok (.iload_n 0, 1) := by decide +kernel
theorem d_M_operandBytes_42 : decode prog_7_method_11_code 42 = .ok (.bipush 52, 2) := by decide +kernel
theorem d_M_operandBytes_44 : decode prog_7_method_11_code 44 = .ok (.if_icmp .le 11, 3) := by decide +kernel
theorem d_M_operandBytes_47 : decode prog_7_method_11_code 47 = .ok (.iload_n 0, 1) := by decide +kernel
theorem d_M_operandBytes_48 : decode prog_7_method_11_code 48 = .ok (.bipush 59, 2) := by decide +kernel
theorem d_M_operandBytes_50 : decode prog_7_method_11_code 50 = .ok (.if_icmp .ge 5, 3) := by decide +kernel
theorem d_M_operandBytes_53 : decode prog_7_method_11_code 53 = .ok (.iconst 1, 1) := by decide +kernel
theorem d_M_operandBytes_54 : decode prog_7_method_11_code 54 = .ok (.ireturn, 1) := by decide +kernel
theorem d_M_operandBytes_55 : decode prog_7_method_11_code 55 = .ok (.iload_n 0, 1) := by decide +kernel
theorem d_M_operandBytes_56 : decode prog_7_method_11_code 56 = .ok (.bipush 16, 2) := by decide +kernel
theorem d_M_operandBytes_58 : decode prog_7_method_11_code 58 = .ok (.if_icmp .eq 25, 3) := by decide +kernel
theorem d_M_operandBytes_61 : decode prog_7_method_11_code 61 = .ok (.iload_n 0, 1) := by decide +kernel
theorem d_M_operandBytes_62 : decode prog_7_method_11_code 62 = .ok (.bipush 17, 2) := by decide +kernel
theorem d_M_operandBytes_64 : decode prog_7_method_11_code 64 = .ok (.if_icmp .eq 19, 3) := by decide +kernel
theorem d_M_operandBytes_67 : decode prog_7_method_11_code 67 = .ok (.iload_n 0, 1) := by decide +kernel
theorem d_M_operandBytes_68 : decode prog_7_method_11_code 68 = .ok (.bipush 52, 2) := by decide +kernel
theorem d_M_operandBytes_70 : decode prog_7_method_11_code 70 = .ok (.if_icmp .eq 13, 3) := by decide +kernel
theorem d_M_operandBytes_73 : decode prog_7_method_11_code 73 = .ok (.iload_n 0, 1) := by decide +kernel
theorem d_M_operandBytes_74 : decode prog_7_method_11_code 74 = .ok (.iconst 1, 1) := by decide +kernel
theorem d_M_operandBytes_75 : decode prog_7_method_11_code 75 = .ok (.if_icmp .le 10, 3) := by decide +kernel
theorem d_M_operandBytes_78 : decode prog_7_method_11_code 78 = .ok (.iload_n 0, 1) := by decide +kernel
theorem d_M_operandBytes_79 : decode prog_7_method_11_code 79 = .ok (.iconst 5, 1) := by decide +kernel
theorem d_M_operandBytes_80 : decode prog_7_method_11_code 80 = .ok (.if_icmp .ge 5, 3) := by decide +kernel
theorem d_M_operandBytes_83 : decode prog_7_method_11_code 83 = .ok (.iconst 2, 1) := by decide +kernel
theorem d_M_operandBytes_84 : decode prog_7_method_11_code 84 = .ok (.ireturn, 1) := by decide +kernel
theorem d_M_operandBytes_85 : decode prog_7_method_11_code 85 = .ok (.iload_n 0, 1) := by decide +kernel
theorem d_M_operandBytes_86 : decode prog_7_method_11_code 86 = .ok (.bipush 6, 2) := by decide +kernel
theorem d_M_operandBytes_88 : decode prog_7_method_11_code 88 = .ok (.if_icmp .eq 9, 3) := by decide +kernel
theorem d_M_operandBytes_91 : decode prog_7_method_11_code 91 = .ok (.iload_n 0, 1) := by decide +kernel
theorem d_M_operandBytes_92 : decode prog_7_method_11_code 92 = .ok (.bipush 10, 2) := by decide +kernel
theorem d_M_operandBytes_94 : decode prog_7_method_11_code 94 = .ok (.if_icmp .ne 8, 3) := by decide +kernel
theorem d_M_operandBytes_97 : decode prog_7_method_11_code 97 = .ok (.bipush 8, 2) := by decide +kernel
theorem d_M_operandBytes_99 : decode prog_7_method_11_code 99 = .ok (.goto 15, 3) := by decide +kernel
theorem d_M_operandBytes_102 : decode prog_7_method_11_code 102 = .ok (.iload_n 0, 1) := by decide +kernel
theorem d_M_operandBytes_103 : decode prog_7_method_11_code 103 = .ok (.bipush 7, 2) := by decide +kernel
theorem d_M_operandBytes_105 : decode prog_7_method_11_code 105 = .ok (.if_icmp .ne 8, 3) := by decide +kernel
theorem d_M_operandBytes_108 : decode prog_7_method_11_code 108 = .ok (.bipush 16, 2) := by decide +kernel
theorem d_M_operandBytes_110 : decode prog_7_method_11_code 110 = .ok (.goto 4, 3) := by decide +kernel
theorem d_M_operandBytes_113 : decode prog_7_method_11_code 113 = .ok (.iconst 0, 1) := by decide +kernel
theorem d_M_operandBytes_114 : decode prog_7_method_11_code 114 = .ok (.ireturn, 1) := by decide +kernel
abbrev T_M_operandBytes : List (Nat × ct_PT) := [(0, o_iload 0 1), (1, o_push (.int 5) 1), (2, o_ic (fun x y => x = y) (fun x y => ¬ x = y) 53), (5, o_iload 0 1), (6, o_push (.int 10) 2), (8, o_ic (fun x y => x ≤ y) (fun x y => ¬ x ≤ y) 17), (11, o_iload 0 1), (12, o_push (.int 16) 2), (14, o_ic (fun x y => x < y) (fun x y => ¬ x < y) 53), (17, o_iload 0 1), (18, o_push (.int 20) 2), (20, o_ic (fun x y => x ≤ y) (fun x y => ¬ x ≤ y) 29), (23, o_iload 0 1), (24, o_push (.int 24) 2), (26, o_ic (fun x y => x < y) (fun x y => ¬ x < y) 53), (29, o_iload 0 1), (30, o_push (.int 46) 2), (32, o_ic (fun x y => x ≤ y) (fun x y => ¬ x ≤ y) 41), (35, o_iload 0 1), (36, o_push (.int 52) 2), (38, o_ic (fun x y => x < y) (fun x y => ¬ x < y) 53), (41, o_iload 0 1), (42, o_push (.int 52) 2), (44, o_ic (fun x y => x ≤ y) (fun x y => ¬ x ≤ y) 55), (47, o_iload 0 1), (48, o_push (.int 59) 2), (50, o_ic (fun x y => y ≤ x) (fun x y => ¬ y ≤ x) 55), (53, o_push (.int 1) 1), (55, o_iload 0 1), (56, o_push (.int 16) 2), (58, o_ic (fun x y => x = y) (fun x y => ¬ x = y) 83), (61, o_iload 0 1), (62, o_push (.int 17) 2), (64, o_ic (fun x y => x = y) (fun x y => ¬ x = y) 83), (67, o_iload 0 1), (68, o_push (.int 52) 2), (70, o_ic (fun x y => x = y) (fun x y => ¬ x = y) 83), (73, o_iload 0 1), (74, o_push (.int 1) 1), (75, o_ic (fun x y => x ≤ y) (fun x y => ¬ x ≤ y) 85), (78, o_iload 0 1), (79, o_push (.int 5) 1), (80, o_ic (fun x y => y ≤ x) (fun x y => ¬ y ≤ x) 85), (83, o_push (.int 2) 1), (85, o_iload 0 1), (86, o_push (.int 6) 2), (88, o_ic (fun x y => x = y) (fun x y => ¬ x = y) 97), (91, o_iload 0 1), (92, o_push (.int 10) 2), (94, o_ic (fun x y => ¬ x = y) (fun x y => x = y) 102), (97, o_push (.int 8) 2), (99, o_goto 114), (102, o_iload 0 1), (103, o_push (.int 7) 2), (105, o_ic (fun x y => ¬ x = y) (fun x y => x = y) 113), (108, o_push (.int 16) 2), (110, o_goto 114), (113, o_push (.int 0) 1)]
set_option maxRecDepth 100000 in
theorem A_M_operandBytes (l : ct_Lx) : ct_al l M_M_operandBytes (T_M_operandBytes) := by
  refine ct_al.cons (so_iload_n d_M_operandBytes_0 rfl) ?_
  refine ct_al.cons (so_iconst d_M_operandBytes_1 (by decide)) ?_
  refine ct_al.cons (so_ic_eq d_M_operandBytes_2 (by decide)) ?_
  refine ct_al.cons (so_iload_n d_M_operandBytes_5 rfl) ?_
  refine ct_al.cons (so_bipush d_M_operandBytes_6 (by decide)) ?_
  refine ct_al.cons (so_ic_le d_M_operandBytes_8 (by decide)) ?_
  refine ct_al.cons (so_iload_n d_M_operandBytes_11 rfl) ?_
  refine ct_al.cons (so_bipush d_M_operandBytes_12 (by decide)) ?_
  refine ct_al.cons (so_ic_lt d_M_operandBytes_14 (by decide)) ?_
  refine ct_al.cons (so_iload_n d_M_operandBytes_17 rfl) ?_
  refine ct_al.cons (so_bipush d_M_operandBytes_18 (by decide)) ?_
  refine ct_al.cons (so_ic_le d_M_operandBytes_20 (by decide)) ?_
  refine ct_al.cons (so_iload_n d_M_operandBytes_23 rfl) ?_
  refine ct_al.cons (so_bipush d_M_operandBytes_24 (by decide)) ?_
  refine ct_al.cons (so_ic_lt d_M_operandBytes_26 (by decide)) ?_
  refine ct_al.cons (so_iload_n d_M_operandBytes_29 rfl) ?_
  refine ct_al.cons (so_bipush d_M_operandBytes_30 (by decide)) ?_
  refine ct_al.cons (so_ic_le d_M_operandBytes_32 (by decide)) ?_
  refine ct_al.cons (so_iload_n d_M_operandBytes_35 rfl) ?_
  refine ct_al.cons (so_bipush d_M_operandBytes_36 (by decide)) ?_
  refine ct_al.cons (so_ic_lt d_M_operandBytes_38 (by decide)) ?_
  refine ct_al.cons (so_iload_n d_M_operandBytes_41 rfl) ?_
  refine ct_al.cons (so_bipush d_M_operandBytes_42 (by decide)) ?_
  refine ct_al.cons (so_ic_le d_M_operandBytes_44 (by decide)) ?_
  refine ct_al.cons (so_iload_n d_M_operandBytes_47 rfl) ?_
  refine ct_al.cons (so_bipush d_M_operandBytes_48 (by decide)) ?_
  refine ct_al.cons (so_ic_ge d_M_operandBytes_50 (by decide)) ?_
  refine ct_al.cons (so_iconst d_M_operandBytes_53 (by decide)) ?_
  refine ct_al.cons (so_iload_n d_M_operandBytes_55 rfl) ?_
  refine ct_al.cons (so_bipush d_M_operandBytes_56 (by decide)) ?_
  refine ct_al.cons (so_ic_eq d_M_operandBytes_58 (by decide)) ?_
  refine ct_al.cons (so_iload_n d_M_operandBytes_61 rfl) ?_
  refine ct_al.cons (so_bipush d_M_operandBytes_62 (by decide)) ?_
  refine ct_al.cons (so_ic_eq d_M_operandBytes_64 (by decide)) ?_
  refine ct_al.cons (so_iload_n d_M_operandBytes_67 rfl) ?_
  refine ct_al.cons (so_bipush d_M_operandBytes_68 (by decide)) ?_
  refine ct_al.cons (so_ic_eq d_M_operandBytes_70 (by decide)) ?_
  refine ct_al.cons (so_iload_n d_M_operandBytes_73 rfl) ?_
  refine ct_al.cons (so_iconst d_M_operandBytes_74 (by decide)) ?_
  refine ct_al.cons (so_ic_le d_M_operandBytes_75 (by decide)) ?_
  refine ct_al.cons (so_iload_n d_M_operandBytes_78 rfl) ?_
  refine ct_al.cons (so_iconst d_M_operandBytes_79 (by decide)) ?_
  refine ct_al.cons (so_ic_ge d_M_operandBytes_80 (by decide)) ?_
  refine ct_al.cons (so_iconst d_M_operandBytes_83 (by decide)) ?_
  refine ct_al.cons (so_iload_n d_M_operandBytes_85 rfl) ?_
  refine ct_al.cons (so_bipush d_M_operandBytes_86 (by decide)) ?_
  refine ct_al.cons (so_ic_eq d_M_operandBytes_88 (by decide)) ?_
  refine ct_al.cons (so_iload_n d_M_operandBytes_91 rfl) ?_
  refine ct_al.cons (so_bipush d_M_operandBytes_92 (by decide)) ?_
  refine ct_al.cons (so_ic_ne d_M_operandBytes_94 (by decide)) ?_
  refine ct_al.cons (so_bipush d_M_operandBytes_97 (by decide)) ?_
  refine ct_al.cons (so_goto d_M_operandBytes_99 (by decide)) ?_
  refine ct_al.cons (so_iload_n d_M_operandBytes_102 rfl) ?_
  refine ct_al.cons (so_bipush d_M_operandBytes_103 (by decide)) ?_
  refine ct_al.cons (so_ic_ne d_M_operandBytes_105 (by decide)) ?_
  refine ct_al.cons (so_bipush d_M_operandBytes_108 (by decide)) ?_
  refine ct_al.cons (so_goto d_M_operandBytes_110 (by decide)) ?_
  refine ct_al.cons (so_iconst d_M_operandBytes_113 (by decide)) ?_
  exact ct_al.nil
theorem e_M_operandBytes_0 : ct_tab (T_M_operandBytes) 0 = some (o_iload 0 1) := rfl
theorem e_M_operandBytes_1 : ct_tab (T_M_operandBytes) 1 = some (o_push (.int 5) 1) := rfl
theorem e_M_operandBytes_2 : ct_tab (T_M_operandBytes) 2 = some (o_ic (fun x y => x = y) (fun x y => ¬ x = y) 53) := rfl
theorem e_M_operandBytes_5 : ct_tab (T_M_operandBytes) 5 = some (o_iload 0 1) := rfl
theorem e_M_operandBytes_6 : ct_tab (T_M_operandBytes) 6 = some (o_push (.int 10) 2) := rfl
theorem e_M_operandBytes_8 : ct_tab (T_M_operandBytes) 8 = some (o_ic (fun x y => x ≤ y) (fun x y => ¬ x ≤ y) 17) := rfl
theorem e_M_operandBytes_11 : ct_tab (T_M_operandBytes) 11 = some (o_iload 0 1) := rfl
theorem e_M_operandBytes_12 : ct_tab (T_M_operandBytes) 12 = some (o_push (.int 16) 2) := rfl
theorem e_M_operandBytes_14 : ct_tab (T_M_operandBytes) 14 = some (o_ic (fun x y => x < y) (fun x y => ¬ x < y) 53) := rfl
theorem e_M_operandBytes_17 : ct_tab (T_M_operandBytes) 17 = some (o_iload 0 1) := rfl
theorem e_M_operandBytes_18 : ct_tab (T_M_operandBytes) 18 = some (o_push (.int 20) 2) := rfl
theorem e_M_operandBytes_20 : ct_tab (T_M_operandBytes) 20 = some (o_ic (fun x y => x ≤ y) (fun x y => ¬ x ≤ y) 29) := rfl
theorem e_M_operandBytes_23 : ct_tab (T_M_operandBytes) 23 = some (o_iload 0 1) := rfl
theorem e_M_operandBytes_24 : ct_tab (T_M_operandBytes) 24 = some (o_push (.int 24) 2) := rfl
theorem e_M_operandBytes_26 : ct_tab (T_M_operandBytes) 26 = some (o_ic (fun x y => x < y) (fun x y => ¬ x < y) 53) := rfl
theorem e_M_operandBytes_29 : ct_tab (T_M_operandBytes) 29 = some (o_iload 0 1) := rfl
theorem e_M_operandBytes_30 : ct_tab (T_M_operandBytes) 30 = some (o_push (.int 46) 2) := rfl
theorem e_M_operandBytes_32 : ct_tab (T_M_operandBytes) 32 = some (o_ic (fun x y => x ≤ y) (fun x y => ¬ x ≤ y) 41) := rfl
theorem e_M_operandBytes_35 : ct_tab (T_M_operandBytes) 35 = some (o_iload 0 1) := rfl
theorem e_M_operandBytes_36 : ct_tab (T_M_operandBytes) 36 = some (o_push (.int 52) 2) := rfl
theorem e_M_operandBytes_38 : ct_tab (T_M_operandBytes) 38 = some (o_ic (fun x y => x < y) (fun x y => ¬ x < y) 53) := rfl
theorem e_M_operandBytes_41 : ct_tab (T_M_operandBytes) 41 = some (o_iload 0 1) := rfl
theorem e_M_operandBytes_42 : ct_tab (T_M_operandBytes) 42 = some (o_push (.int 52) 2) := rfl
theorem e_M_operandBytes_44 : ct_tab (T_M_operandBytes) 44 = some (o_ic (fun x y => x ≤ y) (fun x y => ¬ x ≤ y) 55) := rfl
theorem e_M_operandBytes_47 : ct_tab (T_M_operandBytes) 47 = some (o_iload 0 1) := rfl
theorem e_M_operandBytes_48 : ct_tab (T_M_operandBytes) 48 = some (o_push (.int 59) 2) := rfl
theorem e_M_operandBytes_50 : ct_tab (T_M_operandBytes) 50 = some (o_ic (fun x y => y ≤ x) (fun x y => ¬ y ≤ x) 55) := rfl
theorem e_M_operandBytes_53 : ct_tab (T_M_operandBytes) 53 = some (o_push (.int 1) 1) := rfl
theorem e_M_operandBytes_55 : ct_tab (T_M_operandBytes) 55 = some (o_iload 0 1) := rfl
theorem e_M_operandBytes_56 : ct_tab (T_M_operandBytes) 56 = some (o_push (.int 16) 2) := rfl
theorem e_M_operandBytes_58 : ct_tab (T_M_operandBytes) 58 = some (o_ic (fun x y => x = y) (fun x y => ¬ x = y) 83) := rfl
theorem e_M_operandBytes_61 : ct_tab (T_M_operandBytes) 61 = some (o_iload 0 1) := rfl
theorem e_M_operandBytes_62 : ct_tab (T_M_operandBytes) 62 = some (o_push (.int 17) 2) := rfl
theorem e_M_operandBytes_64 : ct_tab (T_M_operandBytes) 64 = some (o_ic (fun x y => x = y) (fun x y => ¬ x = y) 83) := rfl
theorem e_M_operandBytes_67 : ct_tab (T_M_operandBytes) 67 = some (o_iload 0 1) := rfl
theorem e_M_operandBytes_68 : ct_tab (T_M_operandBytes) 68 = some (o_push (.int 52) 2) := rfl
theorem e_M_operandBytes_70 : ct_tab (T_M_operandBytes) 70 = some (o_ic (fun x y => x = y) (fun x y => ¬ x = y) 83) := rfl
theorem e_M_operandBytes_73 : ct_tab (T_M_operandBytes) 73 = some (o_iload 0 1) := rfl
theorem e_M_operandBytes_74 : ct_tab (T_M_operandBytes) 74 = some (o_push (.int 1) 1) := rfl
theorem e_M_operandBytes_75 : ct_tab (T_M_operandBytes) 75 = some (o_ic (fun x y => x ≤ y) (fun x y => ¬ x ≤ y) 85) := rfl
theorem e_M_operandBytes_78 : ct_tab (T_M_operandBytes) 78 = some (o_iload 0 1) := rfl
theorem e_M_operandBytes_79 : ct_tab (T_M_operandBytes) 79 = some (o_push (.int 5) 1) := rfl
theorem e_M_operandBytes_80 : ct_tab (T_M_operandBytes) 80 = some (o_ic (fun x y => y ≤ x) (fun x y => ¬ y ≤ x) 85) := rfl
theorem e_M_operandBytes_83 : ct_tab (T_M_operandBytes) 83 = some (o_push (.int 2) 1) := rfl
theorem e_M_operandBytes_85 : ct_tab (T_M_operandBytes) 85 = some (o_iload 0 1) := rfl
theorem e_M_operandBytes_86 : ct_tab (T_M_operandBytes) 86 = some (o_push (.int 6) 2) := rfl
theorem e_M_operandBytes_88 : ct_tab (T_M_operandBytes) 88 = some (o_ic (fun x y => x = y) (fun x y => ¬ x = y) 97) := rfl
theorem e_M_operandBytes_91 : ct_tab (T_M_operandBytes) 91 = some (o_iload 0 1) := rfl
theorem e_M_operandBytes_92 : ct_tab (T_M_operandBytes) 92 = some (o_push (.int 10) 2) := rfl
theorem e_M_operandBytes_94 : ct_tab (T_M_operandBytes) 94 = some (o_ic (fun x y => ¬ x = y) (fun x y => x = y) 102) := rfl
theorem e_M_operandBytes_97 : ct_tab (T_M_operandBytes) 97 = some (o_push (.int 8) 2) := rfl
theorem e_M_operandBytes_99 : ct_tab (T_M_operandBytes) 99 = some (o_goto 114) := rfl
theorem e_M_operandBytes_102 : ct_tab (T_M_operandBytes) 102 = some (o_iload 0 1) := rfl
theorem e_M_operandBytes_103 : ct_tab (T_M_operandBytes) 103 = some (o_push (.int 7) 2) := rfl
theorem e_M_operandBytes_105 : ct_tab (T_M_operandBytes) 105 = some (o_ic (fun x y => ¬ x = y) (fun x y => x = y) 113) := rfl
theorem e_M_operandBytes_108 : ct_tab (T_M_operandBytes) 108 = some (o_push (.int 16) 2) := rfl
theorem e_M_operandBytes_110 : ct_tab (T_M_operandBytes) 110 = some (o_goto 114) := rfl
theorem e_M_operandBytes_113 : ct_tab (T_M_operandBytes) 113 = some (o_push (.int 0) 1) := rfl
theorem d_M_overInstruction_0 : decode prog_7_method_12_code 0 = .ok (.aload_n 0, 1) := by decide +kernel
theorem d_M_overInstruction_1 : decode prog_7_method_12_code 1 = .ok (.iconst 1, 1) := by decide +kernel
theorem d_M_overInstruction_2 : decode prog_7_method_12_code 2 = .ok (.invokevirtual 67, 3) := by decide +kernel
theorem d_M_overInstruction_5 : decode prog_7_method_12_code 5 = .ok (.istore_n 1, 1) := by decide +kernel
theorem d_M_overInstruction_6 : decode prog_7_method_12_code 6 = .ok (.aload_n 0, 1) := by decide +kernel
theorem d_M_overInstruction_7 : decode prog_7_method_12_code 7 = .ok (.invokevirtual 70, 3) := by decide +kernel
theorem d_M_overInstruction_10 : decode prog_7_method_12_code 10 = .ok (.ifCond .ne 4, 3) := by decide +kernel
theorem d_M_overInstruction_13 : decode prog_7_method_12_code 13 = .ok (.return_, 1) := by decide +kernel
theorem d_M_overInstruction_14 : decode prog_7_method_12_code 14 = .ok (.aload_n 0, 1) := by decide +kernel
theorem d_M_overInstruction_15 : decode prog_7_method_12_code 15 = .ok (.getfield 33, 3) := by decide +kernel
theorem d_M_overInstruction_18 : decode prog_7_method_12_code 18 = .ok (.aload_n 0, 1) := by decide +kernel
theorem d_M_overInstruction_19 : decode prog_7_method_12_code 19 = .ok (.getfield 82, 3) := by decide +kernel
theorem d_M_overInstruction_22 : decode prog_7_method_12_code 22 = .ok (.iload_n 1, 1) := by decide +kernel
theorem d_M_overInstruction_23 : decode prog_7_method_12_code 23 = .ok (.iastore, 1) := by decide +kernel
theorem d_M_overInstruction_24 : decode prog_7_method_12_code 24 = .ok (.aload_n 0, 1) := by decide +kernel
theorem d_M_overInstruction_25 : decode prog_7_method_12_code 25 = .ok (.dup, 1) := by decide +kernel
theorem d_M_overInstruction_26 : decode prog_7_method_12_code 26 = .ok (.getfield 82, 3) := by decide +kernel
theorem d_M_overInstruction_29 : decode prog_7_method_12_code 29 = .ok (.iconst 1, 1) := by decide +kernel
theorem d_M_overInstruction_30 : decode prog_7_method_12_code 30 = .ok (.iadd, 1) := by decide +kernel
theorem d_M_overInstruction_31 : decode prog_7_method_12_code 31 = .ok (.putfield 82, 3) := by decide +kernel
theorem d_M_overInstruction_34 : decode prog_7_method_12_code 34 = .ok (.aload_n 0, 1) := by decide +kernel
theorem d_M_overInstruction_35 : decode prog_7_method_12_code 35 = .ok (.iload_n 1, 1) := by decide +kernel
theorem d_M_overInstruction_36 : decode prog_7_method_12_code 36 = .ok (.invokevirtual 56, 3) := by decide +kernel
theorem d_M_overInstruction_39 : decode prog_7_method_12_code 39 = .ok (.bipush 59, 2) := by decide +kernel
theorem d_M_overInstruction_41 : decode prog_7_method_12_code 41 = .ok (.if_icmp .le 12, 3) := by decide +kernel
theorem d_M_overInstruction_44 : decode prog_7_method_12_code 44 = .ok (.aload_n 0, 1) := by decide +kernel
theorem d_M_overInstruction_45 : decode prog_7_method_12_code 45 = .ok (.iconst 5, 1) := by decide +kernel
theorem d_M_overInstruction_46 : decode prog_7_method_12_code 46 = .ok (.iload_n 1, 1) := by decide +kernel
theorem d_M_overInstruction_47 : decode prog_7_method_12_code 47 = .ok (.invokevirtual 63, 3) := by decide +kernel
theorem d_M_overInstruction_50 : decode prog_7_method_12_code 50 = .ok (.goto 50, 3) := by decide +kernel
theorem d_M_overInstruction_53 : decode prog_7_method_12_code 53 = .ok (.aload_n 0, 1) := by decide +kernel
theorem d_M_overInstruction_54 : decode prog_7_method_12_code 54 = .ok (.iload_n 1, 1) := by decide +kernel
theorem d_M_overInstruction_55 : decode prog_7_method_12_code 55 = .ok (.invokevirtual 56, 3) := by decide +kernel
theorem d_M_overInstruction_58 : decode prog_7_method_12_code 58 = .ok (.bipush 52, 2) := by decide +kernel
theorem d_M_overInstruction_60 : decode prog_7_method_12_code 60 = .ok (.if_icmp .ne 27, 3) := by decide +kernel
theorem d_M_overInstruction_63 : decode prog_7_method_12_code 63 = .ok (.aload_n 0, 1) := by decide +kernel
theorem d_M_overInstruction_64 : decode prog_7_method_12_code 64 = .ok (.iconst 1, 1) := by decide +kernel
theorem d_M_overInstruction_65 : decode prog_7_method_12_code 65 = .ok (.invokevirtual 67, 3) := by decide +kernel
theorem d_M_overInstruction_68 : decode prog_7_method_12_code 68 = .ok (.pop, 1) := by decide +kernel
theorem d_M_overInstruction_69 : decode prog_7_method_12_code 69 = .ok (.aload_n 0, 1) := by decide +kernel
theorem d_M_overInstruction_70 : decode prog_7_method_12_code 70 = .ok (.invokevirtual 70, 3) := by decide +kernel
theorem d_M_overInstruction_73 : decode prog_7_method_12_code 73 = .ok (.ifCond .eq 27, 3) := by decide +kernel
theorem d_M_overInstruction_76 : decode prog_7_method_12_code 76 = .ok (.aload_n 0, 1) := by decide +kernel
theorem d_M_overInstruction_77 : decode prog_7_method_12_code 77 = .ok (.iconst 0, 1) := by decide +kernel
theorem d_M_overInstruction_78 : decode prog_7_method_12_code 78 = .ok (.bipush 64, 2) := by decide +kernel
theorem d_M_overInstruction_80 : decode prog_7_method_12_code 80 = .ok (.invokevirtual 74, 3) := by decide +kernel
theorem d_M_overInstruction_83 : decode prog_7_method_12_code 83 = .ok (.pop, 1) := by decide +kernel
theorem d_M_overInstruction_84 : decode prog_7_method_12_code 84 = .ok (.goto 16, 3) := by decide +kernel
theorem d_M_overInstruction_87 : decode prog_7_method_12_code 87 = .ok (.aload_n 0, 1) := by decide +kernel
theorem d_M_overInstruction_88 : decode prog_7_method_12_code 88 = .ok (.aload_n 0, 1) := by decide +kernel
theorem d_M_overInstruction_89 : decode prog_7_method_12_code 89 = .ok (.iload_n 1, 1) := by decide +kernel
theorem d_M_overInstruction_90 : decode prog_7_method_12_code 90 = .ok (.invokevirtual 56, 3) := by decide +kernel
theorem d_M_overInstruction_93 : decode prog_7_method_12_code 93 = .ok (.invokestatic 85, 3) := by decide +kernel
theorem d_M_overInstruction_96 : decode prog_7_method_12_code 96 = .ok (.invokevirtual 67, 3) := by decide +kernel
theorem d_M_overInstruction_99 : decode prog_7_method_12_code 99 = .ok (.pop, 1) := by decide +kernel
theorem d_M_overInstruction_100 : decode prog_7_method_12_code 100 = .ok (.return_, 1) := by decide +kernel
abbrev T_M_overInstruction : List (Nat × ct_PT) := [(0, o_aload 0 1), (1, o_push (.int 1) 1), (5, o_istore 1 1), (6, o_aload 0 1), (10, o_if (fun x => ¬ x = 0) (fun x => x = 0) 14), (14, o_aload 0 1), (15, o_getR 4 24 20), (18, o_aload 0 1), (19, o_getI 4 24 14), (22, o_iload 1 1), (23, o_iast), (24, o_aload 0 1), (25, o_dup), (26, o_getI 4 24 14), (29, o_push (.int 1) 1), (30, o_ii fun x y => x + y), (31, o_putI 4 24 14), (34, o_aload 0 1), (35, o_iload 1 1), (39, o_push (.int 59) 2), (41, o_ic (fun x y => x ≤ y) (fun x y => ¬ x ≤ y) 53), (44, o_aload 0 1), (45, o_push (.int 5) 1), (46, o_iload 1 1), (50, o_goto 100), (53, o_aload 0 1), (54, o_iload 1 1), (58, o_push (.int 52) 2), (60, o_ic (fun x y => ¬ x = y) (fun x y => x = y) 87), (63, o_aload 0 1), (64, o_push (.int 1) 1), (68, o_pop), (69, o_aload 0 1), (73, o_if (fun x => x = 0) (fun x => ¬ x = 0) 100), (76, o_aload 0 1), (77, o_push (.int 0) 1), (78, o_push (.int 64) 2), (83, o_pop), (84, o_goto 100), (87, o_aload 0 1), (88, o_aload 0 1), (89, o_iload 1 1), (99, o_pop)]
set_option maxRecDepth 100000 in
theorem A_M_overInstruction (l : ct_Lx) : ct_al l M_M_overInstruction (T_M_overInstruction) := by
  refine ct_al.cons (so_aload_n d_M_overInstruction_0 rfl) ?_
  refine ct_al.cons (so_iconst d_M_overInstruction_1 (by decide)) ?_
  refine ct_al.cons (so_istore_n d_M_overInstruction_5 rfl (by decide)) ?_
  refine ct_al.cons (so_aload_n d_M_overInstruction_6 rfl) ?_
  refine ct_al.cons (so_if_ne d_M_overInstruction_10 (by decide)) ?_
  refine ct_al.cons (so_aload_n d_M_overInstruction_14 rfl) ?_
  refine ct_al.cons (so_getR (Cn := "CodeTablesModel") (T := ct_T4) kc_4 (by decide) rfl rfl wd_346 d_M_overInstruction_15) ?_
  refine ct_al.cons (so_aload_n d_M_overInstruction_18 rfl) ?_
  refine ct_al.cons (so_getI (Cn := "CodeTablesModel") (T := ct_T4) kc_4 (by decide) rfl rfl wd_386 d_M_overInstruction_19) ?_
  refine ct_al.cons (so_iload_n d_M_overInstruction_22 rfl) ?_
  refine ct_al.cons (so_iast d_M_overInstruction_23) ?_
  refine ct_al.cons (so_aload_n d_M_overInstruction_24 rfl) ?_
  refine ct_al.cons (so_dup d_M_overInstruction_25) ?_
  refine ct_al.cons (so_getI (Cn := "CodeTablesModel") (T := ct_T4) kc_4 (by decide) rfl rfl wd_386 d_M_overInstruction_26) ?_
  refine ct_al.cons (so_iconst d_M_overInstruction_29 (by decide)) ?_
  refine ct_al.cons (so_iadd d_M_overInstruction_30) ?_
  refine ct_al.cons (so_putI (Cn := "CodeTablesModel") (T := ct_T4) kc_4 (by decide) rfl rfl (Or.inl rfl) wd_386 d_M_overInstruction_31) ?_
  refine ct_al.cons (so_aload_n d_M_overInstruction_34 rfl) ?_
  refine ct_al.cons (so_iload_n d_M_overInstruction_35 rfl) ?_
  refine ct_al.cons (so_bipush d_M_overInstruction_39 (by decide)) ?_
  refine ct_al.cons (so_ic_le d_M_overInstruction_41 (by decide)) ?_
  refine ct_al.cons (so_aload_n d_M_overInstruction_44 rfl) ?_
  refine ct_al.cons (so_iconst d_M_overInstruction_45 (by decide)) ?_
  refine ct_al.cons (so_iload_n d_M_overInstruction_46 rfl) ?_
  refine ct_al.cons (so_goto d_M_overInstruction_50 (by decide)) ?_
  refine ct_al.cons (so_aload_n d_M_overInstruction_53 rfl) ?_
  refine ct_al.cons (so_iload_n d_M_overInstruction_54 rfl) ?_
  refine ct_al.cons (so_bipush d_M_overInstruction_58 (by decide)) ?_
  refine ct_al.cons (so_ic_ne d_M_overInstruction_60 (by decide)) ?_
  refine ct_al.cons (so_aload_n d_M_overInstruction_63 rfl) ?_
  refine ct_al.cons (so_iconst d_M_overInstruction_64 (by decide)) ?_
  refine ct_al.cons (so_pop d_M_overInstruction_68) ?_
  refine ct_al.cons (so_aload_n d_M_overInstruction_69 rfl) ?_
  refine ct_al.cons (so_if_eq d_M_overInstruction_73 (by decide)) ?_
  refine ct_al.cons (so_aload_n d_M_overInstruction_76 rfl) ?_
  refine ct_al.cons (so_iconst d_M_overInstruction_77 (by decide)) ?_
  refine ct_al.cons (so_bipush d_M_overInstruction_78 (by decide)) ?_
  refine ct_al.cons (so_pop d_M_overInstruction_83) ?_
  refine ct_al.cons (so_goto d_M_overInstruction_84 (by decide)) ?_
  refine ct_al.cons (so_aload_n d_M_overInstruction_87 rfl) ?_
  refine ct_al.cons (so_aload_n d_M_overInstruction_88 rfl) ?_
  refine ct_al.cons (so_iload_n d_M_overInstruction_89 rfl) ?_
  refine ct_al.cons (so_pop d_M_overInstruction_99) ?_
  exact ct_al.nil
theorem e_M_overInstruction_0 : ct_tab (T_M_overInstruction) 0 = some (o_aload 0 1) := rfl
theorem e_M_overInstruction_1 : ct_tab (T_M_overInstruction) 1 = some (o_push (.int 1) 1) := rfl
theorem e_M_overInstruction_5 : ct_tab (T_M_overInstruction) 5 = some (o_istore 1 1) := rfl
theorem e_M_overInstruction_6 : ct_tab (T_M_overInstruction) 6 = some (o_aload 0 1) := rfl
theorem e_M_overInstruction_10 : ct_tab (T_M_overInstruction) 10 = some (o_if (fun x => ¬ x = 0) (fun x => x = 0) 14) := rfl
theorem e_M_overInstruction_14 : ct_tab (T_M_overInstruction) 14 = some (o_aload 0 1) := rfl
theorem e_M_overInstruction_15 : ct_tab (T_M_overInstruction) 15 = some (o_getR 4 24 20) := rfl
theorem e_M_overInstruction_18 : ct_tab (T_M_overInstruction) 18 = some (o_aload 0 1) := rfl
theorem e_M_overInstruction_19 : ct_tab (T_M_overInstruction) 19 = some (o_getI 4 24 14) := rfl
theorem e_M_overInstruction_22 : ct_tab (T_M_overInstruction) 22 = some (o_iload 1 1) := rfl
theorem e_M_overInstruction_23 : ct_tab (T_M_overInstruction) 23 = some (o_iast) := rfl
theorem e_M_overInstruction_24 : ct_tab (T_M_overInstruction) 24 = some (o_aload 0 1) := rfl
theorem e_M_overInstruction_25 : ct_tab (T_M_overInstruction) 25 = some (o_dup) := rfl
theorem e_M_overInstruction_26 : ct_tab (T_M_overInstruction) 26 = some (o_getI 4 24 14) := rfl
theorem e_M_overInstruction_29 : ct_tab (T_M_overInstruction) 29 = some (o_push (.int 1) 1) := rfl
theorem e_M_overInstruction_30 : ct_tab (T_M_overInstruction) 30 = some (o_ii fun x y => x + y) := rfl
theorem e_M_overInstruction_31 : ct_tab (T_M_overInstruction) 31 = some (o_putI 4 24 14) := rfl
theorem e_M_overInstruction_34 : ct_tab (T_M_overInstruction) 34 = some (o_aload 0 1) := rfl
theorem e_M_overInstruction_35 : ct_tab (T_M_overInstruction) 35 = some (o_iload 1 1) := rfl
theorem e_M_overInstruction_39 : ct_tab (T_M_overInstruction) 39 = some (o_push (.int 59) 2) := rfl
theorem e_M_overInstruction_41 : ct_tab (T_M_overInstruction) 41 = some (o_ic (fun x y => x ≤ y) (fun x y => ¬ x ≤ y) 53) := rfl
theorem e_M_overInstruction_44 : ct_tab (T_M_overInstruction) 44 = some (o_aload 0 1) := rfl
theorem e_M_overInstruction_45 : ct_tab (T_M_overInstruction) 45 = some (o_push (.int 5) 1) := rfl
theorem e_M_overInstruction_46 : ct_tab (T_M_overInstruction) 46 = some (o_iload 1 1) := rfl
theorem e_M_overInstruction_50 : ct_tab (T_M_overInstruction) 50 = some (o_goto 100) := rfl
theorem e_M_overInstruction_53 : ct_tab (T_M_overInstruction) 53 = some (o_aload 0 1) := rfl
theorem e_M_overInstruction_54 : ct_tab (T_M_overInstruction) 54 = some (o_iload 1 1) := rfl
theorem e_M_overInstruction_58 : ct_tab (T_M_overInstruction) 58 = some (o_push (.int 52) 2) := rfl
theorem e_M_overInstruction_60 : ct_tab (T_M_overInstruction) 60 = some (o_ic (fun x y => ¬ x = y) (fun x y => x = y) 87) := rfl
theorem e_M_overInstruction_63 : ct_tab (T_M_overInstruction) 63 = some (o_aload 0 1) := rfl
theorem e_M_overInstruction_64 : ct_tab (T_M_overInstruction) 64 = some (o_push (.int 1) 1) := rfl
theorem e_M_overInstruction_68 : ct_tab (T_M_overInstruction) 68 = some (o_pop) := rfl
theorem e_M_overInstruction_69 : ct_tab (T_M_overInstruction) 69 = some (o_aload 0 1) := rfl
theorem e_M_overInstruction_73 : ct_tab (T_M_overInstruction) 73 = some (o_if (fun x => x = 0) (fun x => ¬ x = 0) 100) := rfl
theorem e_M_overInstruction_76 : ct_tab (T_M_overInstruction) 76 = some (o_aload 0 1) := rfl
theorem e_M_overInstruction_77 : ct_tab (T_M_overInstruction) 77 = some (o_push (.int 0) 1) := rfl
theorem e_M_overInstruction_78 : ct_tab (T_M_overInstruction) 78 = some (o_push (.int 64) 2) := rfl
theorem e_M_overInstruction_83 : ct_tab (T_M_overInstruction) 83 = some (o_pop) := rfl
theorem e_M_overInstruction_84 : ct_tab (T_M_overInstruction) 84 = some (o_goto 100) := rfl
theorem e_M_overInstruction_87 : ct_tab (T_M_overInstruction) 87 = some (o_aload 0 1) := rfl
theorem e_M_overInstruction_88 : ct_tab (T_M_overInstruction) 88 = some (o_aload 0 1) := rfl
theorem e_M_overInstruction_89 : ct_tab (T_M_overInstruction) 89 = some (o_iload 1 1) := rfl
theorem e_M_overInstruction_99 : ct_tab (T_M_overInstruction) 99 = some (o_pop) := rfl
theorem cl_M_overInstruction_2 {l : ct_Lx} {d d1 : Nat} {Post Post1 : Option Value → ct_Sg → Prop} {lv : ct_Lv} {st : List Value} {g : ct_Sg} {bc bs c1 s1 : Nat} {a1 : Value} {h : Nat} (hsh : g.2.1 h = (10 + 4, 24)) (hM : ct_Me l M_M_over d1 c1 s1 [.ref h, a1] g Post1) (hdd : d1 + 1 ≤ d) (hk : (st.map fun v => v.category).sum ≤ 8) (hcc : c1 ≤ bc) (hss : s1 ≤ bs) (kk : ∀ (v : Option Value) (g' : ct_Sg), Post1 v g' → ct_Wp l M_M_overInstruction d Post (5, lv, v.toList ++ st, g', bc - c1, bs - s1)) : ct_Wp l M_M_overInstruction d Post (2, lv, a1 :: .ref h :: st, g, bc, bs) := ct_Wp.callV (ci := 4) (N := 24) (T := ct_T4) (As := [a1]) lk_M_over (Or.inl wd_368) wd_369 wd_370 rfl d_M_overInstruction_2 hsh hM rfl hdd hk hcc hss kk
theorem cl_M_overInstruction_7 {l : ct_Lx} {d d1 : Nat} {Post Post1 : Option Value → ct_Sg → Prop} {lv : ct_Lv} {st : List Value} {g : ct_Sg} {bc bs c1 s1 : Nat} {h : Nat} (hsh : g.2.1 h = (10 + 4, 24)) (hM : ct_Me l M_M_isGood d1 c1 s1 [.ref h] g Post1) (hdd : d1 + 1 ≤ d) (hk : (st.map fun v => v.category).sum ≤ 8) (hcc : c1 ≤ bc) (hss : s1 ≤ bs) (kk : ∀ (v : Option Value) (g' : ct_Sg), Post1 v g' → ct_Wp l M_M_overInstruction d Post (10, lv, v.toList ++ st, g', bc - c1, bs - s1)) : ct_Wp l M_M_overInstruction d Post (7, lv, .ref h :: st, g, bc, bs) := ct_Wp.callV (ci := 4) (N := 24) (T := ct_T4) (As := []) lk_M_isGood (Or.inl wd_373) wd_374 wd_375 rfl d_M_overInstruction_7 hsh hM rfl hdd hk hcc hss kk
theorem cl_M_overInstruction_36 {l : ct_Lx} {d d1 : Nat} {Post Post1 : Option Value → ct_Sg → Prop} {lv : ct_Lv} {st : List Value} {g : ct_Sg} {bc bs c1 s1 : Nat} {a1 : Value} {h : Nat} (hsh : g.2.1 h = (10 + 4, 24)) (hM : ct_Me l M_M_byteAt d1 c1 s1 [.ref h, a1] g Post1) (hdd : d1 + 1 ≤ d) (hk : (st.map fun v => v.category).sum ≤ 8) (hcc : c1 ≤ bc) (hss : s1 ≤ bs) (kk : ∀ (v : Option Value) (g' : ct_Sg), Post1 v g' → ct_Wp l M_M_overInstruction d Post (39, lv, v.toList ++ st, g', bc - c1, bs - s1)) : ct_Wp l M_M_overInstruction d Post (36, lv, a1 :: .ref h :: st, g, bc, bs) := ct_Wp.callV (ci := 4) (N := 24) (T := ct_T4) (As := [a1]) lk_M_byteAt (Or.inl wd_357) wd_358 wd_359 rfl d_M_overInstruction_36 hsh hM rfl hdd hk hcc hss kk
theorem cl_M_overInstruction_47 {l : ct_Lx} {d d1 : Nat} {Post Post1 : Option Value → ct_Sg → Prop} {lv : ct_Lv} {st : List Value} {g : ct_Sg} {bc bs c1 s1 : Nat} {a1 a2 : Value} {h : Nat} (hsh : g.2.1 h = (10 + 4, 24)) (hM : ct_Me l M_M_fail d1 c1 s1 [.ref h, a1, a2] g Post1) (hdd : d1 + 1 ≤ d) (hk : (st.map fun v => v.category).sum ≤ 8) (hcc : c1 ≤ bc) (hss : s1 ≤ bs) (kk : ∀ (v : Option Value) (g' : ct_Sg), Post1 v g' → ct_Wp l M_M_overInstruction d Post (50, lv, v.toList ++ st, g', bc - c1, bs - s1)) : ct_Wp l M_M_overInstruction d Post (47, lv, a2 :: a1 :: .ref h :: st, g, bc, bs) := ct_Wp.callV (ci := 4) (N := 24) (T := ct_T4) (As := [a1, a2]) lk_M_fail (Or.inl wd_363) wd_364 wd_365 rfl d_M_overInstruction_47 hsh hM rfl hdd hk hcc hss kk
theorem cl_M_overInstruction_55 {l : ct_Lx} {d d1 : Nat} {Post Post1 : Option Value → ct_Sg → Prop} {lv : ct_Lv} {st : List Value} {g : ct_Sg} {bc bs c1 s1 : Nat} {a1 : Value} {h : Nat} (hsh : g.2.1 h = (10 + 4, 24)) (hM : ct_Me l M_M_byteAt d1 c1 s1 [.ref h, a1] g Post1) (hdd : d1 + 1 ≤ d) (hk : (st.map fun v => v.category).sum ≤ 8) (hcc : c1 ≤ bc) (hss : s1 ≤ bs) (kk : ∀ (v : Option Value) (g' : ct_Sg), Post1 v g' → ct_Wp l M_M_overInstruction d Post (58, lv, v.toList ++ st, g', bc - c1, bs - s1)) : ct_Wp l M_M_overInstruction d Post (55, lv, a1 :: .ref h :: st, g, bc, bs) := ct_Wp.callV (ci := 4) (N := 24) (T := ct_T4) (As := [a1]) lk_M_byteAt (Or.inl wd_357) wd_358 wd_359 rfl d_M_overInstruction_55 hsh hM rfl hdd hk hcc hss kk
theorem cl_M_overInstruction_65 {l : ct_Lx} {d d1 : Nat} {Post Post1 : Option Value → ct_Sg → Prop} {lv : ct_Lv} {st : List Value} {g : ct_Sg} {bc bs c1 s1 : Nat} {a1 : Value} {h : Nat} (hsh : g.2.1 h = (10 + 4, 24)) (hM : ct_Me l M_M_over d1 c1 s1 [.ref h, a1] g Post1) (hdd : d1 + 1 ≤ d) (hk : (st.map fun v => v.category).sum ≤ 8) (hcc : c1 ≤ bc) (hss : s1 ≤ bs) (kk : ∀ (v : Option Value) (g' : ct_Sg), Post1 v g' → ct_Wp l M_M_overInstruction d Post (68, lv, v.toList ++ st, g', bc - c1, bs - s1)) : ct_Wp l M_M_overInstruction d Post (65, lv, a1 :: .ref h :: st, g, bc, bs) := ct_Wp.callV (ci := 4) (N := 24) (T := ct_T4) (As := [a1]) lk_M_over (Or.inl wd_368) wd_369 wd_370 rfl d_M_overInstruction_65 hsh hM rfl hdd hk hcc hss kk
theorem cl_M_overInstruction_70 {l : ct_Lx} {d d1 : Nat} {Post Post1 : Option Value → ct_Sg → Prop} {lv : ct_Lv} {st : List Value} {g : ct_Sg} {bc bs c1 s1 : Nat} {h : Nat} (hsh : g.2.1 h = (10 + 4, 24)) (hM : ct_Me l M_M_isGood d1 c1 s1 [.ref h] g Post1) (hdd : d1 + 1 ≤ d) (hk : (st.map fun v => v.category).sum ≤ 8) (hcc : c1 ≤ bc) (hss : s1 ≤ bs) (kk : ∀ (v : Option Value) (g' : ct_Sg), Post1 v g' → ct_Wp l M_M_overInstruction d Post (73, lv, v.toList ++ st, g', bc - c1, bs - s1)) : ct_Wp l M_M_overInstruction d Post (70, lv, .ref h :: st, g, bc, bs) := ct_Wp.callV (ci := 4) (N := 24) (T := ct_T4) (As := []) lk_M_isGood (Or.inl wd_373) wd_374 wd_375 rfl d_M_overInstruction_70 hsh hM rfl hdd hk hcc hss kk
theorem cl_M_overInstruction_80 {l : ct_Lx} {d d1 : Nat} {Post Post1 : Option Value → ct_Sg → Prop} {lv : ct_Lv} {st : List Value} {g : ct_Sg} {bc bs c1 s1 : Nat} {a1 a2 : Value} {h : Nat} (hsh : g.2.1 h = (10 + 4, 24)) (hM : ct_Me l M_M_count d1 c1 s1 [.ref h, a1, a2] g Post1) (hdd : d1 + 1 ≤ d) (hk : (st.map fun v => v.category).sum ≤ 8) (hcc : c1 ≤ bc) (hss : s1 ≤ bs) (kk : ∀ (v : Option Value) (g' : ct_Sg), Post1 v g' → ct_Wp l M_M_overInstruction d Post (83, lv, v.toList ++ st, g', bc - c1, bs - s1)) : ct_Wp l M_M_overInstruction d Post (80, lv, a2 :: a1 :: .ref h :: st, g, bc, bs) := ct_Wp.callV (ci := 4) (N := 24) (T := ct_T4) (As := [a1, a2]) lk_M_count (Or.inl wd_378) wd_379 wd_380 rfl d_M_overInstruction_80 hsh hM rfl hdd hk hcc hss kk
theorem cl_M_overInstruction_90 {l : ct_Lx} {d d1 : Nat} {Post Post1 : Option Value → ct_Sg → Prop} {lv : ct_Lv} {st : List Value} {g : ct_Sg} {bc bs c1 s1 : Nat} {a1 : Value} {h : Nat} (hsh : g.2.1 h = (10 + 4, 24)) (hM : ct_Me l M_M_byteAt d1 c1 s1 [.ref h, a1] g Post1) (hdd : d1 + 1 ≤ d) (hk : (st.map fun v => v.category).sum ≤ 8) (hcc : c1 ≤ bc) (hss : s1 ≤ bs) (kk : ∀ (v : Option Value) (g' : ct_Sg), Post1 v g' → ct_Wp l M_M_overInstruction d Post (93, lv, v.toList ++ st, g', bc - c1, bs - s1)) : ct_Wp l M_M_overInstruction d Post (90, lv, a1 :: .ref h :: st, g, bc, bs) := ct_Wp.callV (ci := 4) (N := 24) (T := ct_T4) (As := [a1]) lk_M_byteAt (Or.inl wd_357) wd_358 wd_359 rfl d_M_overInstruction_90 hsh hM rfl hdd hk hcc hss kk
theorem cl_M_overInstruction_93 {l : ct_Lx} {d d1 : Nat} {Post Post1 : Option Value → ct_Sg → Prop} {lv : ct_Lv} {st : List Value} {g : ct_Sg} {bc bs c1 s1 : Nat} {a1 : Value} (hM : ct_Me l M_M_operandBytes d1 c1 s1 [a1] g Post1) (hdd : d1 + 1 ≤ d) (hk : (st.map fun v => v.category).sum ≤ 8) (hcc : c1 ≤ bc) (hss : s1 ≤ bs) (kk : ∀ (v : Option Value) (g' : ct_Sg), Post1 v g' → ct_Wp l M_M_overInstruction d Post (96, lv, v.toList ++ st, g', bc - c1, bs - s1)) : ct_Wp l M_M_overInstruction d Post (93, lv, a1 :: st, g, bc, bs) := ct_Wp.callS (As := [a1]) lk_M_operandBytes (Or.inl wd_389) wd_390 d_M_overInstruction_93 hM rfl hdd hk hcc hss kk
theorem cl_M_overInstruction_96 {l : ct_Lx} {d d1 : Nat} {Post Post1 : Option Value → ct_Sg → Prop} {lv : ct_Lv} {st : List Value} {g : ct_Sg} {bc bs c1 s1 : Nat} {a1 : Value} {h : Nat} (hsh : g.2.1 h = (10 + 4, 24)) (hM : ct_Me l M_M_over d1 c1 s1 [.ref h, a1] g Post1) (hdd : d1 + 1 ≤ d) (hk : (st.map fun v => v.category).sum ≤ 8) (hcc : c1 ≤ bc) (hss : s1 ≤ bs) (kk : ∀ (v : Option Value) (g' : ct_Sg), Post1 v g' → ct_Wp l M_M_overInstruction d Post (99, lv, v.toList ++ st, g', bc - c1, bs - s1)) : ct_Wp l M_M_overInstruction d Post (96, lv, a1 :: .ref h :: st, g, bc, bs) := ct_Wp.callV (ci := 4) (N := 24) (T := ct_T4) (As := [a1]) lk_M_over (Or.inl wd_368) wd_369 wd_370 rfl d_M_overInstruction_96 hsh hM rfl hdd hk hcc hss kk
theorem d_M_overFunction_0 : decode prog_7_method_13_code 0 = .ok (.aload_n 0, 1) := by decide +kernel
theorem d_M_overFunction_1 : decode prog_7_method_13_code 1 = .ok (.getfield 27, 3) := by decide +kernel
theorem d_M_overFunction_4 : decode prog_7_method_13_code 4 = .ok (.iload_n 1, 1) := by decide +kernel
theorem d_M_overFunction_5 : decode prog_7_method_13_code 5 = .ok (.aload_n 0, 1) := by decide +kernel
theorem d_M_overFunction_6 : decode prog_7_method_13_code 6 = .ok (.getfield 60, 3) := by decide +kernel
theorem d_M_overFunction_9 : decode prog_7_method_13_code 9 = .ok (.iastore, 1) := by decide +kernel
theorem d_M_overFunction_10 : decode prog_7_method_13_code 10 = .ok (.aload_n 0, 1) := by decide +kernel
theorem d_M_overFunction_11 : decode prog_7_method_13_code 11 = .ok (.getfield 30, 3) := by decide +kernel
theorem d_M_overFunction_14 : decode prog_7_method_13_code 14 = .ok (.iload_n 1, 1) := by decide +kernel
theorem d_M_overFunction_15 : decode prog_7_method_13_code 15 = .ok (.aload_n 0, 1) := by decide +kernel
theorem d_M_overFunction_16 : decode prog_7_method_13_code 16 = .ok (.getfield 82, 3) := by decide +kernel
theorem d_M_overFunction_19 : decode prog_7_method_13_code 19 = .ok (.iastore, 1) := by decide +kernel
theorem d_M_overFunction_20 : decode prog_7_method_13_code 20 = .ok (.aload_n 0, 1) := by decide +kernel
theorem d_M_overFunction_21 : decode prog_7_method_13_code 21 = .ok (.iconst 0, 1) := by decide +kernel
theorem d_M_overFunction_22 : decode prog_7_method_13_code 22 = .ok (.bipush 7, 2) := by decide +kernel
theorem d_M_overFunction_24 : decode prog_7_method_13_code 24 = .ok (.invokevirtual 74, 3) := by decide +kernel
theorem d_M_overFunction_27 : decode prog_7_method_13_code 27 = .ok (.pop, 1) := by decide +kernel
theorem d_M_overFunction_28 : decode prog_7_method_13_code 28 = .ok (.aload_n 0, 1) := by decide +kernel
theorem d_M_overFunction_29 : decode prog_7_method_13_code 29 = .ok (.bipush 8, 2) := by decide +kernel
theorem d_M_overFunction_31 : decode prog_7_method_13_code 31 = .ok (.invokevirtual 88, 3) := by decide +kernel
theorem d_M_overFunction_34 : decode prog_7_method_13_code 34 = .ok (.aload_n 0, 1) := by decide +kernel
theorem d_M_overFunction_35 : decode prog_7_method_13_code 35 = .ok (.invokevirtual 70, 3) := by decide +kernel
theorem d_M_overFunction_38 : decode prog_7_method_13_code 38 = .ok (.ifCond .ne 4, 3) := by decide +kernel
theorem d_M_overFunction_41 : decode prog_7_method_13_code 41 = .ok (.return_, 1) := by decide +kernel
theorem d_M_overFunction_42 : decode prog_7_method_13_code 42 = .ok (.aload_n 0, 1) := by decide +kernel
theorem d_M_overFunction_43 : decode prog_7_method_13_code 43 = .ok (.iconst 2, 1) := by decide +kernel
theorem d_M_overFunction_44 : decode prog_7_method_13_code 44 = .ok (.invokevirtual 67, 3) := by decide +kernel
theorem d_M_overFunction_47 : decode prog_7_method_13_code 47 = .ok (.istore_n 2, 1) := by decide +kernel
theorem d_M_overFunction_48 : decode prog_7_method_13_code 48 = .ok (.aload_n 0, 1) := by decide +kernel
theorem d_M_overFunction_49 : decode prog_7_method_13_code 49 = .ok (.invokevirtual 70, 3) := by decide +kernel
theorem d_M_overFunction_52 : decode prog_7_method_13_code 52 = .ok (.ifCond .ne 4, 3) := by decide +kernel
theorem d_M_overFunction_55 : decode prog_7_method_13_code 55 = .ok (.return_, 1) := by decide +kernel
theorem d_M_overFunction_56 : decode prog_7_method_13_code 56 = .ok (.aload_n 0, 1) := by decide +kernel
theorem d_M_overFunction_57 : decode prog_7_method_13_code 57 = .ok (.iload_n 2, 1) := by decide +kernel
theorem d_M_overFunction_58 : decode prog_7_method_13_code 58 = .ok (.invokevirtual 92, 3) := by decide +kernel
theorem d_M_overFunction_61 : decode prog_7_method_13_code 61 = .ok (.istore_n 3, 1) := by decide +kernel
theorem d_M_overFunction_62 : decode prog_7_method_13_code 62 = .ok (.iload_n 3, 1) := by decide +kernel
theorem d_M_overFunction_63 : decode prog_7_method_13_code 63 = .ok (.iconst 1, 1) := by decide +kernel
theorem d_M_overFunction_64 : decode prog_7_method_13_code 64 = .ok (.if_icmp .lt 22, 3) := by decide +kernel
theorem d_M_overFunction_67 : decode prog_7_method_13_code 67 = .ok (.iload_n 3, 1) := by decide +kernel
theorem d_M_overFunction_68 : decode prog_7_method_13_code 68 = .ok (.sipush 1024, 3) := by decide +kernel
theorem d_M_overFunction_71 : decode prog_7_method_13_code 71 = .ok (.if_icmp .gt 15, 3) := by decide +kernel
theorem d_M_overFunction_74 : decode prog_7_method_13_code 74 = .ok (.aload_n 0, 1) := by decide +kernel
theorem d_M_overFunction_75 : decode prog_7_method_13_code 75 = .ok (.getfield 82, 3) := by decide +kernel
theorem d_M_overFunction_78 : decode prog_7_method_13_code 78 = .ok (.iload_n 3, 1) := by decide +kernel
theorem d_M_overFunction_79 : decode prog_7_method_13_code 79 = .ok (.iadd, 1) := by decide +kernel
theorem d_M_overFunction_80 : decode prog_7_method_13_code 80 = .ok (.sipush 8192, 3) := by decide +kernel
theorem d_M_overFunction_83 : decode prog_7_method_13_code 83 = .ok (.if_icmp .le 9, 3) := by decide +kernel
theorem d_M_overFunction_86 : decode prog_7_method_13_code 86 = .ok (.aload_n 0, 1) := by decide +kernel
theorem d_M_overFunction_87 : decode prog_7_method_13_code 87 = .ok (.iconst 3, 1) := by decide +kernel
theorem d_M_overFunction_88 : decode prog_7_method_13_code 88 = .ok (.iload_n 2, 1) := by decide +kernel
theorem d_M_overFunction_89 : decode prog_7_method_13_code 89 = .ok (.invokevirtual 63, 3) := by decide +kernel
theorem d_M_overFunction_92 : decode prog_7_method_13_code 92 = .ok (.iconst 0, 1) := by decide +kernel
theorem d_M_overFunction_93 : decode prog_7_method_13_code 93 = .ok (.istore 4, 2) := by decide +kernel
theorem d_M_overFunction_95 : decode prog_7_method_13_code 95 = .ok (.iload 4, 2) := by decide +kernel
theorem d_M_overFunction_97 : decode prog_7_method_13_code 97 = .ok (.iload_n 3, 1) := by decide +kernel
theorem d_M_overFunction_98 : decode prog_7_method_13_code 98 = .ok (.if_icmp .ge 20, 3) := by decide +kernel
theorem d_M_overFunction_101 : decode prog_7_method_13_code 101 = .ok (.aload_n 0, 1) := by decide +kernel
theorem d_M_overFunction_102 : decode prog_7_method_13_code 102 = .ok (.invokevirtual 70, 3) := by decide +kernel
theorem d_M_overFunction_105 : decode prog_7_method_13_code 105 = .ok (.ifCond .eq 13, 3) := by decide +kernel
theorem d_M_overFunction_108 : decode prog_7_method_13_code 108 = .ok (.aload_n 0, 1) := by decide +kernel
theorem d_M_overFunction_109 : decode prog_7_method_13_code 109 = .ok (.invokevirtual 95, 3) := by decide +kernel
theorem d_M_overFunction_112 : decode prog_7_method_13_code 112 = .ok (.iinc 4 1, 3) := by decide +kernel
theorem d_M_overFunction_115 : decode prog_7_method_13_code 115 = .ok (.goto (-20), 3) := by decide +kernel
theorem d_M_overFunction_118 : decode prog_7_method_13_code 118 = .ok (.aload_n 0, 1) := by decide +kernel
theorem d_M_overFunction_119 : decode prog_7_method_13_code 119 = .ok (.getfield 30, 3) := by decide +kernel
theorem d_M_overFunction_122 : decode prog_7_method_13_code 122 = .ok (.iload_n 1, 1) := by decide +kernel
theorem d_M_overFunction_123 : decode prog_7_method_13_code 123 = .ok (.iconst 1, 1) := by decide +kernel
theorem d_M_overFunction_124 : decode prog_7_method_13_code 124 = .ok (.iadd, 1) := by decide +kernel
theorem d_M_overFunction_125 : decode prog_7_method_13_code 125 = .ok (.aload_n 0, 1) := by decide +kernel
theorem d_M_overFunction_126 : decode prog_7_method_13_code 126 = .ok (.getfield 82, 3) := by decide +kernel
theorem d_M_overFunction_129 : decode prog_7_method_13_code 129 = .ok (.iastore, 1) := by decide +kernel
theorem d_M_overFunction_130 : decode prog_7_method_13_code 130 = .ok (.return_, 1) := by decide +kernel
abbrev T_M_overFunction : List (Nat × ct_PT) := [(0, o_aload 0 1), (1, o_getR 4 24 18), (4, o_iload 1 1), (5, o_aload 0 1), (6, o_getI 4 24 5), (9, o_iast), (10, o_aload 0 1), (11, o_getR 4 24 19), (14, o_iload 1 1), (15, o_aload 0 1), (16, o_getI 4 24 14), (19, o_iast), (20, o_aload 0 1), (21, o_push (.int 0) 1), (22, o_push (.int 7) 2), (27, o_pop), (28, o_aload 0 1), (29, o_push (.int 8) 2), (34, o_aload 0 1), (38, o_if (fun x => ¬ x = 0) (fun x => x = 0) 42), (42, o_aload 0 1), (43, o_push (.int 2) 1), (47, o_istore 2 1), (48, o_aload 0 1), (52, o_if (fun x => ¬ x = 0) (fun x => x = 0) 56), (56, o_aload 0 1), (57, o_iload 2 1), (61, o_istore 3 1), (62, o_iload 3 1), (63, o_push (.int 1) 1), (64, o_ic (fun x y => x < y) (fun x y => ¬ x < y) 86), (67, o_iload 3 1), (68, o_push (.int 1024) 3), (71, o_ic (fun x y => y < x) (fun x y => ¬ y < x) 86), (74, o_aload 0 1), (75, o_getI 4 24 14), (78, o_iload 3 1), (79, o_ii fun x y => x + y), (80, o_push (.int 8192) 3), (83, o_ic (fun x y => x ≤ y) (fun x y => ¬ x ≤ y) 92), (86, o_aload 0 1), (87, o_push (.int 3) 1), (88, o_iload 2 1), (92, o_push (.int 0) 1), (93, o_istore 4 2), (95, o_iload 4 2), (97, o_iload 3 1), (98, o_ic (fun x y => y ≤ x) (fun x y => ¬ y ≤ x) 118), (101, o_aload 0 1), (105, o_if (fun x => x = 0) (fun x => ¬ x = 0) 118), (108, o_aload 0 1), (112, o_iinc 4 1), (115, o_goto 95), (118, o_aload 0 1), (119, o_getR 4 24 19), (122, o_iload 1 1), (123, o_push (.int 1) 1), (124, o_ii fun x y => x + y), (125, o_aload 0 1), (126, o_getI 4 24 14), (129, o_iast)]
set_option maxRecDepth 100000 in
theorem A_M_overFunction (l : ct_Lx) : ct_al l M_M_overFunction (T_M_overFunction) := by
  refine ct_al.cons (so_aload_n d_M_overFunction_0 rfl) ?_
  refine ct_al.cons (so_getR (Cn := "CodeTablesModel") (T := ct_T4) kc_4 (by decide) rfl rfl wd_344 d_M_overFunction_1) ?_
  refine ct_al.cons (so_iload_n d_M_overFunction_4 rfl) ?_
  refine ct_al.cons (so_aload_n d_M_overFunction_5 rfl) ?_
  refine ct_al.cons (so_getI (Cn := "CodeTablesModel") (T := ct_T4) kc_4 (by decide) rfl rfl wd_360 d_M_overFunction_6) ?_
  refine ct_al.cons (so_iast d_M_overFunction_9) ?_
  refine ct_al.cons (so_aload_n d_M_overFunction_10 rfl) ?_
  refine ct_al.cons (so_getR (Cn := "CodeTablesModel") (T := ct_T4) kc_4 (by decide) rfl rfl wd_345 d_M_overFunction_11) ?_
  refine ct_al.cons (so_iload_n d_M_overFunction_14 rfl) ?_
  refine ct_al.cons (so_aload_n d_M_overFunction_15 rfl) ?_
  refine ct_al.cons (so_getI (Cn := "CodeTablesModel") (T := ct_T4) kc_4 (by decide) rfl rfl wd_386 d_M_overFunction_16) ?_
  refine ct_al.cons (so_iast d_M_overFunction_19) ?_
  refine ct_al.cons (so_aload_n d_M_overFunction_20 rfl) ?_
  refine ct_al.cons (so_iconst d_M_overFunction_21 (by decide)) ?_
  refine ct_al.cons (so_bipush d_M_overFunction_22 (by decide)) ?_
  refine ct_al.cons (so_pop d_M_overFunction_27) ?_
  refine ct_al.cons (so_aload_n d_M_overFunction_28 rfl) ?_
  refine ct_al.cons (so_bipush d_M_overFunction_29 (by decide)) ?_
  refine ct_al.cons (so_aload_n d_M_overFunction_34 rfl) ?_
  refine ct_al.cons (so_if_ne d_M_overFunction_38 (by decide)) ?_
  refine ct_al.cons (so_aload_n d_M_overFunction_42 rfl) ?_
  refine ct_al.cons (so_iconst d_M_overFunction_43 (by decide)) ?_
  refine ct_al.cons (so_istore_n d_M_overFunction_47 rfl (by decide)) ?_
  refine ct_al.cons (so_aload_n d_M_overFunction_48 rfl) ?_
  refine ct_al.cons (so_if_ne d_M_overFunction_52 (by decide)) ?_
  refine ct_al.cons (so_aload_n d_M_overFunction_56 rfl) ?_
  refine ct_al.cons (so_iload_n d_M_overFunction_57 rfl) ?_
  refine ct_al.cons (so_istore_n d_M_overFunction_61 rfl (by decide)) ?_
  refine ct_al.cons (so_iload_n d_M_overFunction_62 rfl) ?_
  refine ct_al.cons (so_iconst d_M_overFunction_63 (by decide)) ?_
  refine ct_al.cons (so_ic_lt d_M_overFunction_64 (by decide)) ?_
  refine ct_al.cons (so_iload_n d_M_overFunction_67 rfl) ?_
  refine ct_al.cons (so_sipush d_M_overFunction_68 (by decide)) ?_
  refine ct_al.cons (so_ic_gt d_M_overFunction_71 (by decide)) ?_
  refine ct_al.cons (so_aload_n d_M_overFunction_74 rfl) ?_
  refine ct_al.cons (so_getI (Cn := "CodeTablesModel") (T := ct_T4) kc_4 (by decide) rfl rfl wd_386 d_M_overFunction_75) ?_
  refine ct_al.cons (so_iload_n d_M_overFunction_78 rfl) ?_
  refine ct_al.cons (so_iadd d_M_overFunction_79) ?_
  refine ct_al.cons (so_sipush d_M_overFunction_80 (by decide)) ?_
  refine ct_al.cons (so_ic_le d_M_overFunction_83 (by decide)) ?_
  refine ct_al.cons (so_aload_n d_M_overFunction_86 rfl) ?_
  refine ct_al.cons (so_iconst d_M_overFunction_87 (by decide)) ?_
  refine ct_al.cons (so_iload_n d_M_overFunction_88 rfl) ?_
  refine ct_al.cons (so_iconst d_M_overFunction_92 (by decide)) ?_
  refine ct_al.cons (so_istore d_M_overFunction_93 (by decide)) ?_
  refine ct_al.cons (so_iload d_M_overFunction_95) ?_
  refine ct_al.cons (so_iload_n d_M_overFunction_97 rfl) ?_
  refine ct_al.cons (so_ic_ge d_M_overFunction_98 (by decide)) ?_
  refine ct_al.cons (so_aload_n d_M_overFunction_101 rfl) ?_
  refine ct_al.cons (so_if_eq d_M_overFunction_105 (by decide)) ?_
  refine ct_al.cons (so_aload_n d_M_overFunction_108 rfl) ?_
  refine ct_al.cons (so_iinc d_M_overFunction_112 (by decide) (by decide)) ?_
  refine ct_al.cons (so_goto d_M_overFunction_115 (by decide)) ?_
  refine ct_al.cons (so_aload_n d_M_overFunction_118 rfl) ?_
  refine ct_al.cons (so_getR (Cn := "CodeTablesModel") (T := ct_T4) kc_4 (by decide) rfl rfl wd_345 d_M_overFunction_119) ?_
  refine ct_al.cons (so_iload_n d_M_overFunction_122 rfl) ?_
  refine ct_al.cons (so_iconst d_M_overFunction_123 (by decide)) ?_
  refine ct_al.cons (so_iadd d_M_overFunction_124) ?_
  refine ct_al.cons (so_aload_n d_M_overFunction_125 rfl) ?_
  refine ct_al.cons (so_getI (Cn := "CodeTablesModel") (T := ct_T4) kc_4 (by decide) rfl rfl wd_386 d_M_overFunction_126) ?_
  refine ct_al.cons (so_iast d_M_overFunction_129) ?_
  exact ct_al.nil
theorem e_M_overFunction_0 : ct_tab (T_M_overFunction) 0 = some (o_aload 0 1) := rfl
theorem e_M_overFunction_1 : ct_tab (T_M_overFunction) 1 = some (o_getR 4 24 18) := rfl
theorem e_M_overFunction_4 : ct_tab (T_M_overFunction) 4 = some (o_iload 1 1) := rfl
theorem e_M_overFunction_5 : ct_tab (T_M_overFunction) 5 = some (o_aload 0 1) := rfl
theorem e_M_overFunction_6 : ct_tab (T_M_overFunction) 6 = some (o_getI 4 24 5) := rfl
theorem e_M_overFunction_9 : ct_tab (T_M_overFunction) 9 = some (o_iast) := rfl
theorem e_M_overFunction_10 : ct_tab (T_M_overFunction) 10 = some (o_aload 0 1) := rfl
theorem e_M_overFunction_11 : ct_tab (T_M_overFunction) 11 = some (o_getR 4 24 19) := rfl
theorem e_M_overFunction_14 : ct_tab (T_M_overFunction) 14 = some (o_iload 1 1) := rfl
theorem e_M_overFunction_15 : ct_tab (T_M_overFunction) 15 = some (o_aload 0 1) := rfl
theorem e_M_overFunction_16 : ct_tab (T_M_overFunction) 16 = some (o_getI 4 24 14) := rfl
theorem e_M_overFunction_19 : ct_tab (T_M_overFunction) 19 = some (o_iast) := rfl
theorem e_M_overFunction_20 : ct_tab (T_M_overFunction) 20 = some (o_aload 0 1) := rfl
theorem e_M_overFunction_21 : ct_tab (T_M_overFunction) 21 = some (o_push (.int 0) 1) := rfl
theorem e_M_overFunction_22 : ct_tab (T_M_overFunction) 22 = some (o_push (.int 7) 2) := rfl
theorem e_M_overFunction_27 : ct_tab (T_M_overFunction) 27 = some (o_pop) := rfl
theorem e_M_overFunction_28 : ct_tab (T_M_overFunction) 28 = some (o_aload 0 1) := rfl
theorem e_M_overFunction_29 : ct_tab (T_M_overFunction) 29 = some (o_push (.int 8) 2) := rfl
theorem e_M_overFunction_34 : ct_tab (T_M_overFunction) 34 = some (o_aload 0 1) := rfl
theorem e_M_overFunction_38 : ct_tab (T_M_overFunction) 38 = some (o_if (fun x => ¬ x = 0) (fun x => x = 0) 42) := rfl
theorem e_M_overFunction_42 : ct_tab (T_M_overFunction) 42 = some (o_aload 0 1) := rfl
theorem e_M_overFunction_43 : ct_tab (T_M_overFunction) 43 = some (o_push (.int 2) 1) := rfl
theorem e_M_overFunction_47 : ct_tab (T_M_overFunction) 47 = some (o_istore 2 1) := rfl
theorem e_M_overFunction_48 : ct_tab (T_M_overFunction) 48 = some (o_aload 0 1) := rfl
theorem e_M_overFunction_52 : ct_tab (T_M_overFunction) 52 = some (o_if (fun x => ¬ x = 0) (fun x => x = 0) 56) := rfl
theorem e_M_overFunction_56 : ct_tab (T_M_overFunction) 56 = some (o_aload 0 1) := rfl
theorem e_M_overFunction_57 : ct_tab (T_M_overFunction) 57 = some (o_iload 2 1) := rfl
theorem e_M_overFunction_61 : ct_tab (T_M_overFunction) 61 = some (o_istore 3 1) := rfl
theorem e_M_overFunction_62 : ct_tab (T_M_overFunction) 62 = some (o_iload 3 1) := rfl
theorem e_M_overFunction_63 : ct_tab (T_M_overFunction) 63 = some (o_push (.int 1) 1) := rfl
theorem e_M_overFunction_64 : ct_tab (T_M_overFunction) 64 = some (o_ic (fun x y => x < y) (fun x y => ¬ x < y) 86) := rfl
theorem e_M_overFunction_67 : ct_tab (T_M_overFunction) 67 = some (o_iload 3 1) := rfl
theorem e_M_overFunction_68 : ct_tab (T_M_overFunction) 68 = some (o_push (.int 1024) 3) := rfl
theorem e_M_overFunction_71 : ct_tab (T_M_overFunction) 71 = some (o_ic (fun x y => y < x) (fun x y => ¬ y < x) 86) := rfl
theorem e_M_overFunction_74 : ct_tab (T_M_overFunction) 74 = some (o_aload 0 1) := rfl
theorem e_M_overFunction_75 : ct_tab (T_M_overFunction) 75 = some (o_getI 4 24 14) := rfl
theorem e_M_overFunction_78 : ct_tab (T_M_overFunction) 78 = some (o_iload 3 1) := rfl
theorem e_M_overFunction_79 : ct_tab (T_M_overFunction) 79 = some (o_ii fun x y => x + y) := rfl
theorem e_M_overFunction_80 : ct_tab (T_M_overFunction) 80 = some (o_push (.int 8192) 3) := rfl
theorem e_M_overFunction_83 : ct_tab (T_M_overFunction) 83 = some (o_ic (fun x y => x ≤ y) (fun x y => ¬ x ≤ y) 92) := rfl
theorem e_M_overFunction_86 : ct_tab (T_M_overFunction) 86 = some (o_aload 0 1) := rfl
theorem e_M_overFunction_87 : ct_tab (T_M_overFunction) 87 = some (o_push (.int 3) 1) := rfl
theorem e_M_overFunction_88 : ct_tab (T_M_overFunction) 88 = some (o_iload 2 1) := rfl
theorem e_M_overFunction_92 : ct_tab (T_M_overFunction) 92 = some (o_push (.int 0) 1) := rfl
theorem e_M_overFunction_93 : ct_tab (T_M_overFunction) 93 = some (o_istore 4 2) := rfl
theorem e_M_overFunction_95 : ct_tab (T_M_overFunction) 95 = some (o_iload 4 2) := rfl
theorem e_M_overFunction_97 : ct_tab (T_M_overFunction) 97 = some (o_iload 3 1) := rfl
theorem e_M_overFunction_98 : ct_tab (T_M_overFunction) 98 = some (o_ic (fun x y => y ≤ x) (fun x y => ¬ y ≤ x) 118) := rfl
theorem e_M_overFunction_101 : ct_tab (T_M_overFunction) 101 = some (o_aload 0 1) := rfl
theorem e_M_overFunction_105 : ct_tab (T_M_overFunction) 105 = some (o_if (fun x => x = 0) (fun x => ¬ x = 0) 118) := rfl
theorem e_M_overFunction_108 : ct_tab (T_M_overFunction) 108 = some (o_aload 0 1) := rfl
theorem e_M_overFunction_112 : ct_tab (T_M_overFunction) 112 = some (o_iinc 4 1) := rfl
theorem e_M_overFunction_115 : ct_tab (T_M_overFunction) 115 = some (o_goto 95) := rfl
theorem e_M_overFunction_118 : ct_tab (T_M_overFunction) 118 = some (o_aload 0 1) := rfl
theorem e_M_overFunction_119 : ct_tab (T_M_overFunction) 119 = some (o_getR 4 24 19) := rfl
theorem e_M_overFunction_122 : ct_tab (T_M_overFunction) 122 = some (o_iload 1 1) := rfl
theorem e_M_overFunction_123 : ct_tab (T_M_overFunction) 123 = some (o_push (.int 1) 1) := rfl
theorem e_M_overFunction_124 : ct_tab (T_M_overFunction) 124 = some (o_ii fun x y => x + y) := rfl
theorem e_M_overFunction_125 : ct_tab (T_M_overFunction) 125 = some (o_aload 0 1) := rfl
theorem e_M_overFunction_126 : ct_tab (T_M_overFunction) 126 = some (o_getI 4 24 14) := rfl
theorem e_M_overFunction_129 : ct_tab (T_M_overFunction) 129 = some (o_iast) := rfl
theorem cl_M_overFunction_24 {l : ct_Lx} {d d1 : Nat} {Post Post1 : Option Value → ct_Sg → Prop} {lv : ct_Lv} {st : List Value} {g : ct_Sg} {bc bs c1 s1 : Nat} {a1 a2 : Value} {h : Nat} (hsh : g.2.1 h = (10 + 4, 24)) (hM : ct_Me l M_M_count d1 c1 s1 [.ref h, a1, a2] g Post1) (hdd : d1 + 1 ≤ d) (hk : (st.map fun v => v.category).sum ≤ 8) (hcc : c1 ≤ bc) (hss : s1 ≤ bs) (kk : ∀ (v : Option Value) (g' : ct_Sg), Post1 v g' → ct_Wp l M_M_overFunction d Post (27, lv, v.toList ++ st, g', bc - c1, bs - s1)) : ct_Wp l M_M_overFunction d Post (24, lv, a2 :: a1 :: .ref h :: st, g, bc, bs) := ct_Wp.callV (ci := 4) (N := 24) (T := ct_T4) (As := [a1, a2]) lk_M_count (Or.inl wd_378) wd_379 wd_380 rfl d_M_overFunction_24 hsh hM rfl hdd hk hcc hss kk
theorem cl_M_overFunction_31 {l : ct_Lx} {d d1 : Nat} {Post Post1 : Option Value → ct_Sg → Prop} {lv : ct_Lv} {st : List Value} {g : ct_Sg} {bc bs c1 s1 : Nat} {a1 : Value} {h : Nat} (hsh : g.2.1 h = (10 + 4, 24)) (hM : ct_Me l M_M_overLists d1 c1 s1 [.ref h, a1] g Post1) (hdd : d1 + 1 ≤ d) (hk : (st.map fun v => v.category).sum ≤ 8) (hcc : c1 ≤ bc) (hss : s1 ≤ bs) (kk : ∀ (v : Option Value) (g' : ct_Sg), Post1 v g' → ct_Wp l M_M_overFunction d Post (34, lv, v.toList ++ st, g', bc - c1, bs - s1)) : ct_Wp l M_M_overFunction d Post (31, lv, a1 :: .ref h :: st, g, bc, bs) := ct_Wp.callV (ci := 4) (N := 24) (T := ct_T4) (As := [a1]) lk_M_overLists (Or.inl wd_393) wd_394 wd_395 rfl d_M_overFunction_31 hsh hM rfl hdd hk hcc hss kk
theorem cl_M_overFunction_35 {l : ct_Lx} {d d1 : Nat} {Post Post1 : Option Value → ct_Sg → Prop} {lv : ct_Lv} {st : List Value} {g : ct_Sg} {bc bs c1 s1 : Nat} {h : Nat} (hsh : g.2.1 h = (10 + 4, 24)) (hM : ct_Me l M_M_isGood d1 c1 s1 [.ref h] g Post1) (hdd : d1 + 1 ≤ d) (hk : (st.map fun v => v.category).sum ≤ 8) (hcc : c1 ≤ bc) (hss : s1 ≤ bs) (kk : ∀ (v : Option Value) (g' : ct_Sg), Post1 v g' → ct_Wp l M_M_overFunction d Post (38, lv, v.toList ++ st, g', bc - c1, bs - s1)) : ct_Wp l M_M_overFunction d Post (35, lv, .ref h :: st, g, bc, bs) := ct_Wp.callV (ci := 4) (N := 24) (T := ct_T4) (As := []) lk_M_isGood (Or.inl wd_373) wd_374 wd_375 rfl d_M_overFunction_35 hsh hM rfl hdd hk hcc hss kk
theorem cl_M_overFunction_44 {l : ct_Lx} {d d1 : Nat} {Post Post1 : Option Value → ct_Sg → Prop} {lv : ct_Lv} {st : List Value} {g : ct_Sg} {bc bs c1 s1 : Nat} {a1 : Value} {h : Nat} (hsh : g.2.1 h = (10 + 4, 24)) (hM : ct_Me l M_M_over d1 c1 s1 [.ref h, a1] g Post1) (hdd : d1 + 1 ≤ d) (hk : (st.map fun v => v.category).sum ≤ 8) (hcc : c1 ≤ bc) (hss : s1 ≤ bs) (kk : ∀ (v : Option Value) (g' : ct_Sg), Post1 v g' → ct_Wp l M_M_overFunction d Post (47, lv, v.toList ++ st, g', bc - c1, bs - s1)) : ct_Wp l M_M_overFunction d Post (44, lv, a1 :: .ref h :: st, g, bc, bs) := ct_Wp.callV (ci := 4) (N := 24) (T := ct_T4) (As := [a1]) lk_M_over (Or.inl wd_368) wd_369 wd_370 rfl d_M_overFunction_44 hsh hM rfl hdd hk hcc hss kk
theorem cl_M_overFunction_49 {l : ct_Lx} {d d1 : Nat} {Post Post1 : Option Value → ct_Sg → Prop} {lv : ct_Lv} {st : List Value} {g : ct_Sg} {bc bs c1 s1 : Nat} {h : Nat} (hsh : g.2.1 h = (10 + 4, 24)) (hM : ct_Me l M_M_isGood d1 c1 s1 [.ref h] g Post1) (hdd : d1 + 1 ≤ d) (hk : (st.map fun v => v.category).sum ≤ 8) (hcc : c1 ≤ bc) (hss : s1 ≤ bs) (kk : ∀ (v : Option Value) (g' : ct_Sg), Post1 v g' → ct_Wp l M_M_overFunction d Post (52, lv, v.toList ++ st, g', bc - c1, bs - s1)) : ct_Wp l M_M_overFunction d Post (49, lv, .ref h :: st, g, bc, bs) := ct_Wp.callV (ci := 4) (N := 24) (T := ct_T4) (As := []) lk_M_isGood (Or.inl wd_373) wd_374 wd_375 rfl d_M_overFunction_49 hsh hM rfl hdd hk hcc hss kk
theorem cl_M_overFunction_58 {l : ct_Lx} {d d1 : Nat} {Post Post1 : Option Value → ct_Sg → Prop} {lv : ct_Lv} {st : List Value} {g : ct_Sg} {bc bs c1 s1 : Nat} {a1 : Value} {h : Nat} (hsh : g.2.1 h = (10 + 4, 24)) (hM : ct_Me l M_M_shortAt d1 c1 s1 [.ref h, a1] g Post1) (hdd : d1 + 1 ≤ d) (hk : (st.map fun v => v.category).sum ≤ 8) (hcc : c1 ≤ bc) (hss : s1 ≤ bs) (kk : ∀ (v : Option Value) (g' : ct_Sg), Post1 v g' → ct_Wp l M_M_overFunction d Post (61, lv, v.toList ++ st, g', bc - c1, bs - s1)) : ct_Wp l M_M_overFunction d Post (58, lv, a1 :: .ref h :: st, g, bc, bs) := ct_Wp.callV (ci := 4) (N := 24) (T := ct_T4) (As := [a1]) lk_M_shortAt (Or.inl wd_398) wd_399 wd_400 rfl d_M_overFunction_58 hsh hM rfl hdd hk hcc hss kk
theorem cl_M_overFunction_89 {l : ct_Lx} {d d1 : Nat} {Post Post1 : Option Value → ct_Sg → Prop} {lv : ct_Lv} {st : List Value} {g : ct_Sg} {bc bs c1 s1 : Nat} {a1 a2 : Value} {h : Nat} (hsh : g.2.1 h = (10 + 4, 24)) (hM : ct_Me l M_M_fail d1 c1 s1 [.ref h, a1, a2] g Post1) (hdd : d1 + 1 ≤ d) (hk : (st.map fun v => v.category).sum ≤ 8) (hcc : c1 ≤ bc) (hss : s1 ≤ bs) (kk : ∀ (v : Option Value) (g' : ct_Sg), Post1 v g' → ct_Wp l M_M_overFunction d Post (92, lv, v.toList ++ st, g', bc - c1, bs - s1)) : ct_Wp l M_M_overFunction d Post (89, lv, a2 :: a1 :: .ref h :: st, g, bc, bs) := ct_Wp.callV (ci := 4) (N := 24) (T := ct_T4) (As := [a1, a2]) lk_M_fail (Or.inl wd_363) wd_364 wd_365 rfl d_M_overFunction_89 hsh hM rfl hdd hk hcc hss kk
theorem cl_M_overFunction_102 {l : ct_Lx} {d d1 : Nat} {Post Post1 : Option Value → ct_Sg → Prop} {lv : ct_Lv} {st : List Value} {g : ct_Sg} {bc bs c1 s1 : Nat} {h : Nat} (hsh : g.2.1 h = (10 + 4, 24)) (hM : ct_Me l M_M_isGood d1 c1 s1 [.ref h] g Post1) (hdd : d1 + 1 ≤ d) (hk : (st.map fun v => v.category).sum ≤ 8) (hcc : c1 ≤ bc) (hss : s1 ≤ bs) (kk : ∀ (v : Option Value) (g' : ct_Sg), Post1 v g' → ct_Wp l M_M_overFunction d Post (105, lv, v.toList ++ st, g', bc - c1, bs - s1)) : ct_Wp l M_M_overFunction d Post (102, lv, .ref h :: st, g, bc, bs) := ct_Wp.callV (ci := 4) (N := 24) (T := ct_T4) (As := []) lk_M_isGood (Or.inl wd_373) wd_374 wd_375 rfl d_M_overFunction_102 hsh hM rfl hdd hk hcc hss kk
theorem cl_M_overFunction_109 {l : ct_Lx} {d d1 : Nat} {Post Post1 : Option Value → ct_Sg → Prop} {lv : ct_Lv} {st : List Value} {g : ct_Sg} {bc bs c1 s1 : Nat} {h : Nat} (hsh : g.2.1 h = (10 + 4, 24)) (hM : ct_Me l M_M_overInstruction d1 c1 s1 [.ref h] g Post1) (hdd : d1 + 1 ≤ d) (hk : (st.map fun v => v.category).sum ≤ 8) (hcc : c1 ≤ bc) (hss : s1 ≤ bs) (kk : ∀ (v : Option Value) (g' : ct_Sg), Post1 v g' → ct_Wp l M_M_overFunction d Post (112, lv, v.toList ++ st, g', bc - c1, bs - s1)) : ct_Wp l M_M_overFunction d Post (109, lv, .ref h :: st, g, bc, bs) := ct_Wp.callV (ci := 4) (N := 24) (T := ct_T4) (As := []) lk_M_overInstruction (Or.inl wd_403) wd_404 wd_405 rfl d_M_overFunction_109 hsh hM rfl hdd hk hcc hss kk
theorem d_M_overLists_0 : decode prog_7_method_14_code 0 = .ok (.aload_n 0, 1) := by decide +kernel
theorem d_M_overLists_1 : decode prog_7_method_14_code 1 = .ok (.invokevirtual 70, 3) := by decide +kernel
theorem d_M_overLists_4 : decode prog_7_method_14_code 4 = .ok (.ifCond .eq 9, 3) := by decide +kernel
theorem d_M_overLists_7 : decode prog_7_method_14_code 7 = .ok (.aload_n 0, 1) := by decide +kernel
theorem d_M_overLists_8 : decode prog_7_method_14_code 8 = .ok (.iload_n 1, 1) := by decide +kernel
theorem d_M_overLists_9 : decode prog_7_method_14_code 9 = .ok (.iconst 1, 1) := by decide +kernel
theorem d_M_overLists_10 : decode prog_7_method_14_code 10 = .ok (.invokevirtual 98, 3) := by decide +kernel
theorem d_M_overLists_13 : decode prog_7_method_14_code 13 = .ok (.aload_n 0, 1) := by decide +kernel
theorem d_M_overLists_14 : decode prog_7_method_14_code 14 = .ok (.invokevirtual 70, 3) := by decide +kernel
theorem d_M_overLists_17 : decode prog_7_method_14_code 17 = .ok (.ifCond .eq 9, 3) := by decide +kernel
theorem d_M_overLists_20 : decode prog_7_method_14_code 20 = .ok (.aload_n 0, 1) := by decide +kernel
theorem d_M_overLists_21 : decode prog_7_method_14_code 21 = .ok (.iload_n 1, 1) := by decide +kernel
theorem d_M_overLists_22 : decode prog_7_method_14_code 22 = .ok (.iconst 1, 1) := by decide +kernel
theorem d_M_overLists_23 : decode prog_7_method_14_code 23 = .ok (.invokevirtual 98, 3) := by decide +kernel
theorem d_M_overLists_26 : decode prog_7_method_14_code 26 = .ok (.aload_n 0, 1) := by decide +kernel
theorem d_M_overLists_27 : decode prog_7_method_14_code 27 = .ok (.invokevirtual 70, 3) := by decide +kernel
theorem d_M_overLists_30 : decode prog_7_method_14_code 30 = .ok (.ifCond .eq 10, 3) := by decide +kernel
theorem d_M_overLists_33 : decode prog_7_method_14_code 33 = .ok (.aload_n 0, 1) := by decide +kernel
theorem d_M_overLists_34 : decode prog_7_method_14_code 34 = .ok (.bipush 32, 2) := by decide +kernel
theorem d_M_overLists_36 : decode prog_7_method_14_code 36 = .ok (.iconst 1, 1) := by decide +kernel
theorem d_M_overLists_37 : decode prog_7_method_14_code 37 = .ok (.invokevirtual 98, 3) := by decide +kernel
theorem d_M_overLists_40 : decode prog_7_method_14_code 40 = .ok (.return_, 1) := by decide +kernel
abbrev T_M_overLists : List (Nat × ct_PT) := [(0, o_aload 0 1), (4, o_if (fun x => x = 0) (fun x => ¬ x = 0) 13), (7, o_aload 0 1), (8, o_iload 1 1), (9, o_push (.int 1) 1), (13, o_aload 0 1), (17, o_if (fun x => x = 0) (fun x => ¬ x = 0) 26), (20, o_aload 0 1), (21, o_iload 1 1), (22, o_push (.int 1) 1), (26, o_aload 0 1), (30, o_if (fun x => x = 0) (fun x => ¬ x = 0) 40), (33, o_aload 0 1), (34, o_push (.int 32) 2), (36, o_push (.int 1) 1)]
set_option maxRecDepth 100000 in
theorem A_M_overLists (l : ct_Lx) : ct_al l M_M_overLists (T_M_overLists) := by
  refine ct_al.cons (so_aload_n d_M_overLists_0 rfl) ?_
  refine ct_al.cons (so_if_eq d_M_overLists_4 (by decide)) ?_
  refine ct_al.cons (so_aload_n d_M_overLists_7 rfl) ?_
  refine ct_al.cons (so_iload_n d_M_overLists_8 rfl) ?_
  refine ct_al.cons (so_iconst d_M_overLists_9 (by decide)) ?_
  refine ct_al.cons (so_aload_n d_M_overLists_13 rfl) ?_
  refine ct_al.cons (so_if_eq d_M_overLists_17 (by decide)) ?_
  refine ct_al.cons (so_aload_n d_M_overLists_20 rfl) ?_
  refine ct_al.cons (so_iload_n d_M_overLists_21 rfl) ?_
  refine ct_al.cons (so_iconst d_M_overLists_22 (by decide)) ?_
  refine ct_al.cons (so_aload_n d_M_overLists_26 rfl) ?_
  refine ct_al.cons (so_if_eq d_M_overLists_30 (by decide)) ?_
  refine ct_al.cons (so_aload_n d_M_overLists_33 rfl) ?_
  refine ct_al.cons (so_bipush d_M_overLists_34 (by decide)) ?_
  refine ct_al.cons (so_iconst d_M_overLists_36 (by decide)) ?_
  exact ct_al.nil
theorem e_M_overLists_0 : ct_tab (T_M_overLists) 0 = some (o_aload 0 1) := rfl
theorem e_M_overLists_4 : ct_tab (T_M_overLists) 4 = some (o_if (fun x => x = 0) (fun x => ¬ x = 0) 13) := rfl
theorem e_M_overLists_7 : ct_tab (T_M_overLists) 7 = some (o_aload 0 1) := rfl
theorem e_M_overLists_8 : ct_tab (T_M_overLists) 8 = some (o_iload 1 1) := rfl
theorem e_M_overLists_9 : ct_tab (T_M_overLists) 9 = some (o_push (.int 1) 1) := rfl
theorem e_M_overLists_13 : ct_tab (T_M_overLists) 13 = some (o_aload 0 1) := rfl
theorem e_M_overLists_17 : ct_tab (T_M_overLists) 17 = some (o_if (fun x => x = 0) (fun x => ¬ x = 0) 26) := rfl
theorem e_M_overLists_20 : ct_tab (T_M_overLists) 20 = some (o_aload 0 1) := rfl
theorem e_M_overLists_21 : ct_tab (T_M_overLists) 21 = some (o_iload 1 1) := rfl
theorem e_M_overLists_22 : ct_tab (T_M_overLists) 22 = some (o_push (.int 1) 1) := rfl
theorem e_M_overLists_26 : ct_tab (T_M_overLists) 26 = some (o_aload 0 1) := rfl
theorem e_M_overLists_30 : ct_tab (T_M_overLists) 30 = some (o_if (fun x => x = 0) (fun x => ¬ x = 0) 40) := rfl
theorem e_M_overLists_33 : ct_tab (T_M_overLists) 33 = some (o_aload 0 1) := rfl
theorem e_M_overLists_34 : ct_tab (T_M_overLists) 34 = some (o_push (.int 32) 2) := rfl
theorem e_M_overLists_36 : ct_tab (T_M_overLists) 36 = some (o_push (.int 1) 1) := rfl
theorem cl_M_overLists_1 {l : ct_Lx} {d d1 : Nat} {Post Post1 : Option Value → ct_Sg → Prop} {lv : ct_Lv} {st : List Value} {g : ct_Sg} {bc bs c1 s1 : Nat} {h : Nat} (hsh : g.2.1 h = (10 + 4, 24)) (hM : ct_Me l M_M_isGood d1 c1 s1 [.ref h] g Post1) (hdd : d1 + 1 ≤ d) (hk : (st.map fun v => v.category).sum ≤ 8) (hcc : c1 ≤ bc) (hss : s1 ≤ bs) (kk : ∀ (v : Option Value) (g' : ct_Sg), Post1 v g' → ct_Wp l M_M_overLists d Post (4, lv, v.toList ++ st, g', bc - c1, bs - s1)) : ct_Wp l M_M_overLists d Post (1, lv, .ref h :: st, g, bc, bs) := ct_Wp.callV (ci := 4) (N := 24) (T := ct_T4) (As := []) lk_M_isGood (Or.inl wd_373) wd_374 wd_375 rfl d_M_overLists_1 hsh hM rfl hdd hk hcc hss kk
theorem cl_M_overLists_10 {l : ct_Lx} {d d1 : Nat} {Post Post1 : Option Value → ct_Sg → Prop} {lv : ct_Lv} {st : List Value} {g : ct_Sg} {bc bs c1 s1 : Nat} {a1 a2 : Value} {h : Nat} (hsh : g.2.1 h = (10 + 4, 24)) (hM : ct_Me l M_M_overList d1 c1 s1 [.ref h, a1, a2] g Post1) (hdd : d1 + 1 ≤ d) (hk : (st.map fun v => v.category).sum ≤ 8) (hcc : c1 ≤ bc) (hss : s1 ≤ bs) (kk : ∀ (v : Option Value) (g' : ct_Sg), Post1 v g' → ct_Wp l M_M_overLists d Post (13, lv, v.toList ++ st, g', bc - c1, bs - s1)) : ct_Wp l M_M_overLists d Post (10, lv, a2 :: a1 :: .ref h :: st, g, bc, bs) := ct_Wp.callV (ci := 4) (N := 24) (T := ct_T4) (As := [a1, a2]) lk_M_overList (Or.inl wd_408) wd_409 wd_410 rfl d_M_overLists_10 hsh hM rfl hdd hk hcc hss kk
theorem cl_M_overLists_14 {l : ct_Lx} {d d1 : Nat} {Post Post1 : Option Value → ct_Sg → Prop} {lv : ct_Lv} {st : List Value} {g : ct_Sg} {bc bs c1 s1 : Nat} {h : Nat} (hsh : g.2.1 h = (10 + 4, 24)) (hM : ct_Me l M_M_isGood d1 c1 s1 [.ref h] g Post1) (hdd : d1 + 1 ≤ d) (hk : (st.map fun v => v.category).sum ≤ 8) (hcc : c1 ≤ bc) (hss : s1 ≤ bs) (kk : ∀ (v : Option Value) (g' : ct_Sg), Post1 v g' → ct_Wp l M_M_overLists d Post (17, lv, v.toList ++ st, g', bc - c1, bs - s1)) : ct_Wp l M_M_overLists d Post (14, lv, .ref h :: st, g, bc, bs) := ct_Wp.callV (ci := 4) (N := 24) (T := ct_T4) (As := []) lk_M_isGood (Or.inl wd_373) wd_374 wd_375 rfl d_M_overLists_14 hsh hM rfl hdd hk hcc hss kk
theorem cl_M_overLists_23 {l : ct_Lx} {d d1 : Nat} {Post Post1 : Option Value → ct_Sg → Prop} {lv : ct_Lv} {st : List Value} {g : ct_Sg} {bc bs c1 s1 : Nat} {a1 a2 : Value} {h : Nat} (hsh : g.2.1 h = (10 + 4, 24)) (hM : ct_Me l M_M_overList d1 c1 s1 [.ref h, a1, a2] g Post1) (hdd : d1 + 1 ≤ d) (hk : (st.map fun v => v.category).sum ≤ 8) (hcc : c1 ≤ bc) (hss : s1 ≤ bs) (kk : ∀ (v : Option Value) (g' : ct_Sg), Post1 v g' → ct_Wp l M_M_overLists d Post (26, lv, v.toList ++ st, g', bc - c1, bs - s1)) : ct_Wp l M_M_overLists d Post (23, lv, a2 :: a1 :: .ref h :: st, g, bc, bs) := ct_Wp.callV (ci := 4) (N := 24) (T := ct_T4) (As := [a1, a2]) lk_M_overList (Or.inl wd_408) wd_409 wd_410 rfl d_M_overLists_23 hsh hM rfl hdd hk hcc hss kk
theorem cl_M_overLists_27 {l : ct_Lx} {d d1 : Nat} {Post Post1 : Option Value → ct_Sg → Prop} {lv : ct_Lv} {st : List Value} {g : ct_Sg} {bc bs c1 s1 : Nat} {h : Nat} (hsh : g.2.1 h = (10 + 4, 24)) (hM : ct_Me l M_M_isGood d1 c1 s1 [.ref h] g Post1) (hdd : d1 + 1 ≤ d) (hk : (st.map fun v => v.category).sum ≤ 8) (hcc : c1 ≤ bc) (hss : s1 ≤ bs) (kk : ∀ (v : Option Value) (g' : ct_Sg), Post1 v g' → ct_Wp l M_M_overLists d Post (30, lv, v.toList ++ st, g', bc - c1, bs - s1)) : ct_Wp l M_M_overLists d Post (27, lv, .ref h :: st, g, bc, bs) := ct_Wp.callV (ci := 4) (N := 24) (T := ct_T4) (As := []) lk_M_isGood (Or.inl wd_373) wd_374 wd_375 rfl d_M_overLists_27 hsh hM rfl hdd hk hcc hss kk
theorem cl_M_overLists_37 {l : ct_Lx} {d d1 : Nat} {Post Post1 : Option Value → ct_Sg → Prop} {lv : ct_Lv} {st : List Value} {g : ct_Sg} {bc bs c1 s1 : Nat} {a1 a2 : Value} {h : Nat} (hsh : g.2.1 h = (10 + 4, 24)) (hM : ct_Me l M_M_overList d1 c1 s1 [.ref h, a1, a2] g Post1) (hdd : d1 + 1 ≤ d) (hk : (st.map fun v => v.category).sum ≤ 8) (hcc : c1 ≤ bc) (hss : s1 ≤ bs) (kk : ∀ (v : Option Value) (g' : ct_Sg), Post1 v g' → ct_Wp l M_M_overLists d Post (40, lv, v.toList ++ st, g', bc - c1, bs - s1)) : ct_Wp l M_M_overLists d Post (37, lv, a2 :: a1 :: .ref h :: st, g, bc, bs) := ct_Wp.callV (ci := 4) (N := 24) (T := ct_T4) (As := [a1, a2]) lk_M_overList (Or.inl wd_408) wd_409 wd_410 rfl d_M_overLists_37 hsh hM rfl hdd hk hcc hss kk
theorem d_M_overAll_0 : decode prog_7_method_15_code 0 = .ok (.iconst 0, 1) := by decide +kernel
theorem d_M_overAll_1 : decode prog_7_method_15_code 1 = .ok (.istore_n 1, 1) := by decide +kernel
theorem d_M_overAll_2 : decode prog_7_method_15_code 2 = .ok (.iload_n 1, 1) := by decide +kernel
theorem d_M_overAll_3 : decode prog_7_method_15_code 3 = .ok (.iconst 4, 1) := by decide +kernel
theorem d_M_overAll_4 : decode prog_7_method_15_code 4 = .ok (.if_icmp .ge 76, 3) := by decide +kernel
theorem d_M_overAll_7 : decode prog_7_method_15_code 7 = .ok (.aload_n 0, 1) := by decide +kernel
theorem d_M_overAll_8 : decode prog_7_method_15_code 8 = .ok (.invokevirtual 70, 3) := by decide +kernel
theorem d_M_overAll_11 : decode prog_7_method_15_code 11 = .ok (.ifCond .eq 69, 3) := by decide +kernel
theorem d_M_overAll_14 : decode prog_7_method_15_code 14 = .ok (.aload_n 0, 1) := by decide +kernel
theorem d_M_overAll_15 : decode prog_7_method_15_code 15 = .ok (.iconst 1, 1) := by decide +kernel
theorem d_M_overAll_16 : decode prog_7_method_15_code 16 = .ok (.invokevirtual 67, 3) := by decide +kernel
theorem d_M_overAll_19 : decode prog_7_method_15_code 19 = .ok (.istore_n 2, 1) := by decide +kernel
theorem d_M_overAll_20 : decode prog_7_method_15_code 20 = .ok (.iload_n 1, 1) := by decide +kernel
theorem d_M_overAll_21 : decode prog_7_method_15_code 21 = .ok (.ifCond .ne 8, 3) := by decide +kernel
theorem d_M_overAll_24 : decode prog_7_method_15_code 24 = .ok (.bipush 82, 2) := by decide +kernel
theorem d_M_overAll_26 : decode prog_7_method_15_code 26 = .ok (.goto 25, 3) := by decide +kernel
theorem d_M_overAll_29 : decode prog_7_method_15_code 29 = .ok (.iload_n 1, 1) := by decide +kernel
theorem d_M_overAll_30 : decode prog_7_method_15_code 30 = .ok (.iconst 1, 1) := by decide +kernel
theorem d_M_overAll_31 : decode prog_7_method_15_code 31 = .ok (.if_icmp .ne 8, 3) := by decide +kernel
theorem d_M_overAll_34 : decode prog_7_method_15_code 34 = .ok (.bipush 76, 2) := by decide +kernel
theorem d_M_overAll_36 : decode prog_7_method_15_code 36 = .ok (.goto 15, 3) := by decide +kernel
theorem d_M_overAll_39 : decode prog_7_method_15_code 39 = .ok (.iload_n 1, 1) := by decide +kernel
theorem d_M_overAll_40 : decode prog_7_method_15_code 40 = .ok (.iconst 2, 1) := by decide +kernel
theorem d_M_overAll_41 : decode prog_7_method_15_code 41 = .ok (.if_icmp .ne 8, 3) := by decide +kernel
theorem d_M_overAll_44 : decode prog_7_method_15_code 44 = .ok (.bipush 77, 2) := by decide +kernel
theorem d_M_overAll_46 : decode prog_7_method_15_code 46 = .ok (.goto 5, 3) := by decide +kernel
theorem d_M_overAll_49 : decode prog_7_method_15_code 49 = .ok (.bipush 49, 2) := by decide +kernel
theorem d_M_overAll_51 : decode prog_7_method_15_code 51 = .ok (.istore_n 3, 1) := by decide +kernel
theorem d_M_overAll_52 : decode prog_7_method_15_code 52 = .ok (.aload_n 0, 1) := by decide +kernel
theorem d_M_overAll_53 : decode prog_7_method_15_code 53 = .ok (.invokevirtual 70, 3) := by decide +kernel
theorem d_M_overAll_56 : decode prog_7_method_15_code 56 = .ok (.ifCond .eq 18, 3) := by decide +kernel
theorem d_M_overAll_59 : decode prog_7_method_15_code 59 = .ok (.aload_n 0, 1) := by decide +kernel
theorem d_M_overAll_60 : decode prog_7_method_15_code 60 = .ok (.iload_n 2, 1) := by decide +kernel
theorem d_M_overAll_61 : decode prog_7_method_15_code 61 = .ok (.invokevirtual 56, 3) := by decide +kernel
theorem d_M_overAll_64 : decode prog_7_method_15_code 64 = .ok (.iload_n 3, 1) := by decide +kernel
theorem d_M_overAll_65 : decode prog_7_method_15_code 65 = .ok (.if_icmp .eq 9, 3) := by decide +kernel
theorem d_M_overAll_68 : decode prog_7_method_15_code 68 = .ok (.aload_n 0, 1) := by decide +kernel
theorem d_M_overAll_69 : decode prog_7_method_15_code 69 = .ok (.iconst 1, 1) := by decide +kernel
theorem d_M_overAll_70 : decode prog_7_method_15_code 70 = .ok (.iload_n 2, 1) := by decide +kernel
theorem d_M_overAll_71 : decode prog_7_method_15_code 71 = .ok (.invokevirtual 63, 3) := by decide +kernel
theorem d_M_overAll_74 : decode prog_7_method_15_code 74 = .ok (.iinc 1 1, 3) := by decide +kernel
theorem d_M_overAll_77 : decode prog_7_method_15_code 77 = .ok (.goto (-75), 3) := by decide +kernel
theorem d_M_overAll_80 : decode prog_7_method_15_code 80 = .ok (.aload_n 0, 1) := by decide +kernel
theorem d_M_overAll_81 : decode prog_7_method_15_code 81 = .ok (.invokevirtual 70, 3) := by decide +kernel
theorem d_M_overAll_84 : decode prog_7_method_15_code 84 = .ok (.ifCond .eq 9, 3) := by decide +kernel
theorem d_M_overAll_87 : decode prog_7_method_15_code 87 = .ok (.aload_n 0, 1) := by decide +kernel
theorem d_M_overAll_88 : decode prog_7_method_15_code 88 = .ok (.iconst 2, 1) := by decide +kernel
theorem d_M_overAll_89 : decode prog_7_method_15_code 89 = .ok (.invokevirtual 67, 3) := by decide +kernel
theorem d_M_overAll_92 : decode prog_7_method_15_code 92 = .ok (.pop, 1) := by decide +kernel
theorem d_M_overAll_93 : decode prog_7_method_15_code 93 = .ok (.aload_n 0, 1) := by decide +kernel
theorem d_M_overAll_94 : decode prog_7_method_15_code 94 = .ok (.aload_n 0, 1) := by decide +kernel
theorem d_M_overAll_95 : decode prog_7_method_15_code 95 = .ok (.invokevirtual 70, 3) := by decide +kernel
theorem d_M_overAll_98 : decode prog_7_method_15_code 98 = .ok (.ifCond .eq 13, 3) := by decide +kernel
theorem d_M_overAll_101 : decode prog_7_method_15_code 101 = .ok (.aload_n 0, 1) := by decide +kernel
theorem d_M_overAll_102 : decode prog_7_method_15_code 102 = .ok (.iconst 0, 1) := by decide +kernel
theorem d_M_overAll_103 : decode prog_7_method_15_code 103 = .ok (.bipush 32, 2) := by decide +kernel
theorem d_M_overAll_105 : decode prog_7_method_15_code 105 = .ok (.invokevirtual 74, 3) := by decide +kernel
theorem d_M_overAll_108 : decode prog_7_method_15_code 108 = .ok (.goto 4, 3) := by decide +kernel
theorem d_M_overAll_111 : decode prog_7_method_15_code 111 = .ok (.iconst 0, 1) := by decide +kernel
theorem d_M_overAll_112 : decode prog_7_method_15_code 112 = .ok (.putfield 102, 3) := by decide +kernel
theorem d_M_overAll_115 : decode prog_7_method_15_code 115 = .ok (.iconst 0, 1) := by decide +kernel
theorem d_M_overAll_116 : decode prog_7_method_15_code 116 = .ok (.istore_n 1, 1) := by decide +kernel
theorem d_M_overAll_117 : decode prog_7_method_15_code 117 = .ok (.iload_n 1, 1) := by decide +kernel
theorem d_M_overAll_118 : decode prog_7_method_15_code 118 = .ok (.aload_n 0, 1) := by decide +kernel
theorem d_M_overAll_119 : decode prog_7_method_15_code 119 = .ok (.getfield 102, 3) := by decide +kernel
theorem d_M_overAll_122 : decode prog_7_method_15_code 122 = .ok (.if_icmp .ge 78, 3) := by decide +kernel
theorem d_M_overAll_125 : decode prog_7_method_15_code 125 = .ok (.aload_n 0, 1) := by decide +kernel
theorem d_M_overAll_126 : decode prog_7_method_15_code 126 = .ok (.invokevirtual 70, 3) := by decide +kernel
theorem d_M_overAll_129 : decode prog_7_method_15_code 129 = .ok (.ifCond .eq 71, 3) := by decide +kernel
theorem d_M_overAll_132 : decode prog_7_method_15_code 132 = .ok (.aload_n 0, 1) := by decide +kernel
theorem d_M_overAll_133 : decode prog_7_method_15_code 133 = .ok (.getfield 17, 3) := by decide +kernel
theorem d_M_overAll_136 : decode prog_7_method_15_code 136 = .ok (.iload_n 1, 1) := by decide +kernel
theorem d_M_overAll_137 : decode prog_7_method_15_code 137 = .ok (.aload_n 0, 1) := by decide +kernel
theorem d_M_overAll_138 : decode prog_7_method_15_code 138 = .ok (.getfield 60, 3) := by decide +kernel
theorem d_M_overAll_141 : decode prog_7_method_15_code 141 = .ok (.iastore, 1) := by decide +kernel
theorem d_M_overAll_142 : decode prog_7_method_15_code 142 = .ok (.aload_n 0, 1) := by decide +kernel
theorem d_M_overAll_143 : decode prog_7_method_15_code 143 = .ok (.iconst 0, 1) := by decide +kernel
theorem d_M_overAll_144 : decode prog_7_method_15_code 144 = .ok (.bipush 15, 2) := by decide +kernel
theorem d_M_overAll_146 : decode prog_7_method_15_code 146 = .ok (.invokevirtual 74, 3) := by decide +kernel
theorem d_M_overAll_149 : decode prog_7_method_15_code 149 = .ok (.pop, 1) := by decide +kernel
theorem d_M_overAll_150 : decode prog_7_method_15_code 150 = .ok (.aload_n 0, 1) := by decide +kernel
theorem d_M_overAll_151 : decode prog_7_method_15_code 151 = .ok (.invokevirtual 70, 3) := by decide +kernel
theorem d_M_overAll_154 : decode prog_7_method_15_code 154 = .ok (.ifCond .eq 13, 3) := by decide +kernel
theorem d_M_overAll_157 : decode prog_7_method_15_code 157 = .ok (.aload_n 0, 1) := by decide +kernel
theorem d_M_overAll_158 : decode prog_7_method_15_code 158 = .ok (.iconst 1, 1) := by decide +kernel
theorem d_M_overAll_159 : decode prog_7_method_15_code 159 = .ok (.bipush 16, 2) := by decide +kernel
theorem d_M_overAll_161 : decode prog_7_method_15_code 161 = .ok (.invokevirtual 74, 3) := by decide +kernel
theorem d_M_overAll_164 : decode prog_7_method_15_code 164 = .ok (.goto 4, 3) := by decide +kernel
theorem d_M_overAll_167 : decode prog_7_method_15_code 167 = .ok (.iconst 0, 1) := by decide +kernel
theorem d_M_overAll_168 : decode prog_7_method_15_code 168 = .ok (.istore_n 2, 1) := by decide +kernel
theorem d_M_overAll_169 : decode prog_7_method_15_code 169 = .ok (.iconst 0, 1) := by decide +kernel
theorem d_M_overAll_170 : decode prog_7_method_15_code 170 = .ok (.istore_n 3, 1) := by decide +kernel
theorem d_M_overAll_171 : decode prog_7_method_15_code 171 = .ok (.iload_n 3, 1) := by decide +kernel
theorem d_M_overAll_172 : decode prog_7_method_15_code 172 = .ok (.iload_n 2, 1) := by decide +kernel
theorem d_M_overAll_173 : decode prog_7_method_15_code 173 = .ok (.if_icmp .ge 21, 3) := by decide +kernel
theorem d_M_overAll_176 : decode prog_7_method_15_code 176 = .ok (.aload_n 0, 1) := by decide +kernel
theorem d_M_overAll_177 : decode prog_7_method_15_code 177 = .ok (.invokevirtual 70, 3) := by decide +kernel
theorem d_M_overAll_180 : decode prog_7_method_15_code 180 = .ok (.ifCond .eq 14, 3) := by decide +kernel
theorem d_M_overAll_183 : decode prog_7_method_15_code 183 = .ok (.aload_n 0, 1) := by decide +kernel
theorem d_M_overAll_184 : decode prog_7_method_15_code 184 = .ok (.iconst 0, 1) := by decide +kernel
theorem d_M_overAll_185 : decode prog_7_method_15_code 185 = .ok (.invokevirtual 78, 3) := by decide +kernel
theorem d_M_overAll_188 : decode prog_7_method_15_code 188 = .ok (.iinc 3 1, 3) := by decide +kernel
theorem d_M_overAll_191 : decode prog_7_method_15_code 191 = .ok (.goto (-20), 3) := by decide +kernel
theorem d_M_overAll_194 : decode prog_7_method_15_code 194 = .ok (.iinc 1 1, 3) := by decide +kernel
theorem d_M_overAll_197 : decode prog_7_method_15_code 197 = .ok (.goto (-80), 3) := by decide +kernel
theorem d_M_overAll_200 : decode prog_7_method_15_code 200 = .ok (.aload_n 0, 1) := by decide +kernel
theorem d_M_overAll_201 : decode prog_7_method_15_code 201 = .ok (.aload_n 0, 1) := by decide +kernel
theorem d_M_overAll_202 : decode prog_7_method_15_code 202 = .ok (.invokevirtual 70, 3) := by decide +kernel
theorem d_M_overAll_205 : decode prog_7_method_15_code 205 = .ok (.ifCond .eq 13, 3) := by decide +kernel
theorem d_M_overAll_208 : decode prog_7_method_15_code 208 = .ok (.aload_n 0, 1) := by decide +kernel
theorem d_M_overAll_209 : decode prog_7_method_15_code 209 = .ok (.iconst 0, 1) := by decide +kernel
theorem d_M_overAll_210 : decode prog_7_method_15_code 210 = .ok (.bipush 32, 2) := by decide +kernel
theorem d_M_overAll_212 : decode prog_7_method_15_code 212 = .ok (.invokevirtual 74, 3) := by decide +kernel
theorem d_M_overAll_215 : decode prog_7_method_15_code 215 = .ok (.goto 4, 3) := by decide +kernel
theorem d_M_overAll_218 : decode prog_7_method_15_code 218 = .ok (.iconst 0, 1) := by decide +kernel
theorem d_M_overAll_219 : decode prog_7_method_15_code 219 = .ok (.putfield 105, 3) := by decide +kernel
theorem d_M_overAll_222 : decode prog_7_method_15_code 222 = .ok (.iconst 0, 1) := by decide +kernel
theorem d_M_overAll_223 : decode prog_7_method_15_code 223 = .ok (.istore_n 1, 1) := by decide +kernel
theorem d_M_overAll_224 : decode prog_7_method_15_code 224 = .ok (.iload_n 1, 1) := by decide +kernel
theorem d_M_overAll_225 : decode prog_7_method_15_code 225 = .ok (.aload_n 0, 1) := by decide +kernel
theorem d_M_overAll_226 : decode prog_7_method_15_code 226 = .ok (.getfield 105, 3) := by decide +kernel
theorem d_M_overAll_229 : decode prog_7_method_15_code 229 = .ok (.if_icmp .ge 52, 3) := by decide +kernel
theorem d_M_overAll_232 : decode prog_7_method_15_code 232 = .ok (.aload_n 0, 1) := by decide +kernel
theorem d_M_overAll_233 : decode prog_7_method_15_code 233 = .ok (.invokevirtual 70, 3) := by decide +kernel
theorem d_M_overAll_236 : decode prog_7_method_15_code 236 = .ok (.ifCond .eq 45, 3) := by decide +kernel
theorem d_M_overAll_239 : decode prog_7_method_15_code 239 = .ok (.aload_n 0, 1) := by decide +kernel
theorem d_M_overAll_240 : decode prog_7_method_15_code 240 = .ok (.getfield 17, 3) := by decide +kernel
theorem d_M_overAll_243 : decode prog_7_method_15_code 243 = .ok (.aload_n 0, 1) := by decide +kernel
theorem d_M_overAll_244 : decode prog_7_method_15_code 244 = .ok (.getfield 102, 3) := by decide +kernel
theorem d_M_overAll_247 : decode prog_7_method_15_code 247 = .ok (.iload_n 1, 1) := by decide +kernel
theorem d_M_overAll_248 : decode prog_7_method_15_code 248 = .ok (.iadd, 1) := by decide +kernel
theorem d_M_overAll_249 : decode prog_7_method_15_code 249 = .ok (.aload_n 0, 1) := by decide +kernel
theorem d_M_overAll_250 : decode prog_7_method_15_code 250 = .ok (.getfield 60, 3) := by decide +kernel
theorem d_M_overAll_253 : decode prog_7_method_15_code 253 = .ok (.iastore, 1) := by decide +kernel
theorem d_M_overAll_254 : decode prog_7_method_15_code 254 = .ok (.aload_n 0, 1) := by decide +kernel
theorem d_M_overAll_255 : decode prog_7_method_15_code 255 = .ok (.iconst 3, 1) := by decide +kernel
theorem d_M_overAll_256 : decode prog_7_method_15_code 256 = .ok (.invokevirtual 67, 3) := by decide +kernel
theorem d_M_overAll_259 : decode prog_7_method_15_code 259 = .ok (.pop, 1) := by decide +kernel
theorem d_M_overAll_260 : decode prog_7_method_15_code 260 = .ok (.aload_n 0, 1) := by decide +kernel
theorem d_M_overAll_261 : decode prog_7_method_15_code 261 = .ok (.invokevirtual 70, 3) := by decide +kernel
theorem d_M_overAll_264 : decode prog_7_method_15_code 264 = .ok (.ifCond .eq 11, 3) := by decide +kernel
theorem d_M_overAll_267 : decode prog_7_method_15_code 267 = .ok (.aload_n 0, 1) := by decide +kernel
theorem d_M_overAll_268 : decode prog_7_method_15_code 268 = .ok (.iconst 0, 1) := by decide +kernel
theorem d_M_overAll_269 : decode prog_7_method_15_code 269 = .ok (.bipush 15, 2) := by decide +kernel
theorem d_M_overAll_271 : decode prog_7_method_15_code 271 = .ok (.invokevirtual 74, 3) := by decide +kernel
theorem d_M_overAll_274 : decode prog_7_method_15_code 274 = .ok (.pop, 1) := by decide +kernel
theorem d_M_overAll_275 : decode prog_7_method_15_code 275 = .ok (.iinc 1 1, 3) := by decide +kernel
theorem d_M_overAll_278 : decode prog_7_method_15_code 278 = .ok (.goto (-54), 3) := by decide +kernel
theorem d_M_overAll_281 : decode prog_7_method_15_code 281 = .ok (.aload_n 0, 1) := by decide +kernel
theorem d_M_overAll_282 : decode prog_7_method_15_code 282 = .ok (.aload_n 0, 1) := by decide +kernel
theorem d_M_overAll_283 : decode prog_7_method_15_code 283 = .ok (.invokevirtual 70, 3) := by decide +kernel
theorem d_M_overAll_286 : decode prog_7_method_15_code 286 = .ok (.ifCond .eq 13, 3) := by decide +kernel
theorem d_M_overAll_289 : decode prog_7_method_15_code 289 = .ok (.aload_n 0, 1) := by decide +kernel
theorem d_M_overAll_290 : decode prog_7_method_15_code 290 = .ok (.iconst 0, 1) := by decide +kernel
theorem d_M_overAll_291 : decode prog_7_method_15_code 291 = .ok (.bipush 32, 2) := by decide +kernel
theorem d_M_overAll_293 : decode prog_7_method_15_code 293 = .ok (.invokevirtual 74, 3) := by decide +kernel
theorem d_M_overAll_296 : decode prog_7_method_15_code 296 = .ok (.goto 4, 3) := by decide +kernel
theorem d_M_overAll_299 : decode prog_7_method_15_code 299 = .ok (.iconst 0, 1) := by decide +kernel
theorem d_M_overAll_300 : decode prog_7_method_15_code 300 = .ok (.putfield 108, 3) := by decide +kernel
theorem d_M_overAll_303 : decode prog_7_method_15_code 303 = .ok (.iconst 0, 1) := by decide +kernel
theorem d_M_overAll_304 : decode prog_7_method_15_code 304 = .ok (.istore_n 1, 1) := by decide +kernel
theorem d_M_overAll_305 : decode prog_7_method_15_code 305 = .ok (.iload_n 1, 1) := by decide +kernel
theorem d_M_overAll_306 : decode prog_7_method_15_code 306 = .ok (.aload_n 0, 1) := by decide +kernel
theorem d_M_overAll_307 : decode prog_7_method_15_code 307 = .ok (.getfield 108, 3) := by decide +kernel
theorem d_M_overAll_310 : decode prog_7_method_15_code 310 = .ok (.if_icmp .ge 75, 3) := by decide +kernel
theorem d_M_overAll_313 : decode prog_7_method_15_code 313 = .ok (.aload_n 0, 1) := by decide +kernel
theorem d_M_overAll_314 : decode prog_7_method_15_code 314 = .ok (.invokevirtual 70, 3) := by decide +kernel
theorem d_M_overAll_317 : decode prog_7_method_15_code 317 = .ok (.ifCond .eq 68, 3) := by decide +kernel
theorem d_M_overAll_320 : decode prog_7_method_15_code 320 = .ok (.aload_n 0, 1) := by decide +kernel
theorem d_M_overAll_321 : decode prog_7_method_15_code 321 = .ok (.getfield 21, 3) := by decide +kernel
theorem d_M_overAll_324 : decode prog_7_method_15_code 324 = .ok (.iload_n 1, 1) := by decide +kernel
theorem d_M_overAll_325 : decode prog_7_method_15_code 325 = .ok (.aload_n 0, 1) := by decide +kernel
theorem d_M_overAll_326 : decode prog_7_method_15_code 326 = .ok (.getfield 60, 3) := by decide +kernel
theorem d_M_overAll_329 : decode prog_7_method_15_code 329 = .ok (.iastore, 1) := by decide +kernel
theorem d_M_overAll_330 : decode prog_7_method_15_code 330 = .ok (.aload_n 0, 1) := by decide +kernel
theorem d_M_overAll_331 : decode prog_7_method_15_code 331 = .ok (.iconst 3, 1) := by decide +kernel
theorem d_M_overAll_332 : decode prog_7_method_15_code 332 = .ok (.invokevirtual 67, 3) := by decide +kernel
theorem d_M_overAll_335 : decode prog_7_method_15_code 335 = .ok (.pop, 1) := by decide +kernel
theorem d_M_overAll_336 : decode prog_7_method_15_code 336 = .ok (.aload_n 0, 1) := by decide +kernel
theorem d_M_overAll_337 : decode prog_7_method_15_code 337 = .ok (.invokevirtual 70, 3) := by decide +kernel
theorem d_M_overAll_340 : decode prog_7_method_15_code 340 = .ok (.ifCond .eq 11, 3) := by decide +kernel
theorem d_M_overAll_343 : decode prog_7_method_15_code 343 = .ok (.aload_n 0, 1) := by decide +kernel
theorem d_M_overAll_344 : decode prog_7_method_15_code 344 = .ok (.iconst 0, 1) := by decide +kernel
theorem d_M_overAll_345 : decode prog_7_method_15_code 345 = .ok (.bipush 7, 2) := by decide +kernel
theorem d_M_overAll_347 : decode prog_7_method_15_code 347 = .ok (.invokevirtual 74, 3) := by decide +kernel
theorem d_M_overAll_350 : decode prog_7_method_15_code 350 = .ok (.pop, 1) := by decide +kernel
theorem d_M_overAll_351 : decode prog_7_method_15_code 351 = .ok (.aload_n 0, 1) := by decide +kernel
theorem d_M_overAll_352 : decode prog_7_method_15_code 352 = .ok (.invokevirtual 70, 3) := by decide +kernel
theorem d_M_overAll_355 : decode prog_7_method_15_code 355 = .ok (.ifCond .eq 10, 3) := by decide +kernel
theorem d_M_overAll_358 : decode prog_7_method_15_code 358 = .ok (.aload_n 0, 1) := by decide +kernel
theorem d_M_overAll_359 : decode prog_7_method_15_code 359 = .ok (.bipush 8, 2) := by decide +kernel
theorem d_M_overAll_361 : decode prog_7_method_15_code 361 = .ok (.iconst 1, 1) := by decide +kernel
theorem d_M_overAll_362 : decode prog_7_method_15_code 362 = .ok (.invokevirtual 98, 3) := by decide +kernel
theorem d_M_overAll_365 : decode prog_7_method_15_code 365 = .ok (.aload_n 0, 1) := by decide +kernel
theorem d_M_overAll_366 : decode prog_7_method_15_code 366 = .ok (.invokevirtual 70, 3) := by decide +kernel
theorem d_M_overAll_369 : decode prog_7_method_15_code 369 = .ok (.ifCond .eq 10, 3) := by decide +kernel
theorem d_M_overAll_372 : decode prog_7_method_15_code 372 = .ok (.aload_n 0, 1) := by decide +kernel
theorem d_M_overAll_373 : decode prog_7_method_15_code 373 = .ok (.bipush 8, 2) := by decide +kernel
theorem d_M_overAll_375 : decode prog_7_method_15_code 375 = .ok (.iconst 1, 1) := by decide +kernel
theorem d_M_overAll_376 : decode prog_7_method_15_code 376 = .ok (.invokevirtual 98, 3) := by decide +kernel
theorem d_M_overAll_379 : decode prog_7_method_15_code 379 = .ok (.iinc 1 1, 3) := by decide +kernel
theorem d_M_overAll_382 : decode prog_7_method_15_code 382 = .ok (.goto (-77), 3) := by decide +kernel
theorem d_M_overAll_385 : decode prog_7_method_15_code 385 = .ok (.aload_n 0, 1) := by decide +kernel
theorem d_M_overAll_386 : decode prog_7_method_15_code 386 = .ok (.aload_n 0, 1) := by decide +kernel
theorem d_M_overAll_387 : decode prog_7_method_15_code 387 = .ok (.invokevirtual 70, 3) := by decide +kernel
theorem d_M_overAll_390 : decode prog_7_method_15_code 390 = .ok (.ifCond .eq 13, 3) := by decide +kernel
theorem d_M_overAll_393 : decode prog_7_method_15_code 393 = .ok (.aload_n 0, 1) := by decide +kernel
theorem d_M_overAll_394 : decode prog_7_method_15_code 394 = .ok (.iconst 0, 1) := by decide +kernel
theorem d_M_overAll_395 : decode prog_7_method_15_code 395 = .ok (.bipush 32, 2) := by decide +kernel
theorem d_M_overAll_397 : decode prog_7_method_15_code 397 = .ok (.invokevirtual 74, 3) := by decide +kernel
theorem d_M_overAll_400 : decode prog_7_method_15_code 400 = .ok (.goto 4, 3) := by decide +kernel
theorem d_M_overAll_403 : decode prog_7_method_15_code 403 = .ok (.iconst 0, 1) := by decide +kernel
theorem d_M_overAll_404 : decode prog_7_method_15_code 404 = .ok (.putfield 111, 3) := by decide +kernel
theorem d_M_overAll_407 : decode prog_7_method_15_code 407 = .ok (.iconst 0, 1) := by decide +kernel
theorem d_M_overAll_408 : decode prog_7_method_15_code 408 = .ok (.istore_n 1, 1) := by decide +kernel
theorem d_M_overAll_409 : decode prog_7_method_15_code 409 = .ok (.iload_n 1, 1) := by decide +kernel
theorem d_M_overAll_410 : decode prog_7_method_15_code 410 = .ok (.aload_n 0, 1) := by decide +kernel
theorem d_M_overAll_411 : decode prog_7_method_15_code 411 = .ok (.getfield 111, 3) := by decide +kernel
theorem d_M_overAll_414 : decode prog_7_method_15_code 414 = .ok (.if_icmp .ge 31, 3) := by decide +kernel
theorem d_M_overAll_417 : decode prog_7_method_15_code 417 = .ok (.aload_n 0, 1) := by decide +kernel
theorem d_M_overAll_418 : decode prog_7_method_15_code 418 = .ok (.invokevirtual 70, 3) := by decide +kernel
theorem d_M_overAll_421 : decode prog_7_method_15_code 421 = .ok (.ifCond .eq 24, 3) := by decide +kernel
theorem d_M_overAll_424 : decode prog_7_method_15_code 424 = .ok (.aload_n 0, 1) := by decide +kernel
theorem d_M_overAll_425 : decode prog_7_method_15_code 425 = .ok (.getfield 24, 3) := by decide +kernel
theorem d_M_overAll_428 : decode prog_7_method_15_code 428 = .ok (.iload_n 1, 1) := by decide +kernel
theorem d_M_overAll_429 : decode prog_7_method_15_code 429 = .ok (.aload_n 0, 1) := by decide +kernel
theorem d_M_overAll_430 : decode prog_7_method_15_code 430 = .ok (.getfield 60, 3) := by decide +kernel
theorem d_M_overAll_433 : decode prog_7_method_15_code 433 = .ok (.iastore, 1) := by decide +kernel
theorem d_M_overAll_434 : decode prog_7_method_15_code 434 = .ok (.aload_n 0, 1) := by decide +kernel
theorem d_M_overAll_435 : decode prog_7_method_15_code 435 = .ok (.iconst 0, 1) := by decide +kernel
theorem d_M_overAll_436 : decode prog_7_method_15_code 436 = .ok (.invokevirtual 78, 3) := by decide +kernel
theorem d_M_overAll_439 : decode prog_7_method_15_code 439 = .ok (.iinc 1 1, 3) := by decide +kernel
theorem d_M_overAll_442 : decode prog_7_method_15_code 442 = .ok (.goto (-33), 3) := by decide +kernel
theorem d_M_overAll_445 : decode prog_7_method_15_code 445 = .ok (.aload_n 0, 1) := by decide +kernel
theorem d_M_overAll_446 : decode prog_7_method_15_code 446 = .ok (.aload_n 0, 1) := by decide +kernel
theorem d_M_overAll_447 : decode prog_7_method_15_code 447 = .ok (.invokevirtual 70, 3) := by decide +kernel
theorem d_M_overAll_450 : decode prog_7_method_15_code 450 = .ok (.ifCond .eq 13, 3) := by decide +kernel
theorem d_M_overAll_453 : decode prog_7_method_15_code 453 = .ok (.aload_n 0, 1) := by decide +kernel
theorem d_M_overAll_454 : decode prog_7_method_15_code 454 = .ok (.iconst 0, 1) := by decide +kernel
theorem d_M_overAll_455 : decode prog_7_method_15_code 455 = .ok (.bipush 64, 2) := by decide +kernel
theorem d_M_overAll_457 : decode prog_7_method_15_code 457 = .ok (.invokevirtual 74, 3) := by decide +kernel
theorem d_M_overAll_460 : decode prog_7_method_15_code 460 = .ok (.goto 4, 3) := by decide +kernel
theorem d_M_overAll_463 : decode prog_7_method_15_code 463 = .ok (.iconst 0, 1) := by decide +kernel
theorem d_M_overAll_464 : decode prog_7_method_15_code 464 = .ok (.putfield 114, 3) := by decide +kernel
theorem d_M_overAll_467 : decode prog_7_method_15_code 467 = .ok (.iconst 0, 1) := by decide +kernel
theorem d_M_overAll_468 : decode prog_7_method_15_code 468 = .ok (.istore_n 1, 1) := by decide +kernel
theorem d_M_overAll_469 : decode prog_7_method_15_code 469 = .ok (.iload_n 1, 1) := by decide +kernel
theorem d_M_overAll_470 : decode prog_7_method_15_code 470 = .ok (.aload_n 0, 1) := by decide +kernel
theorem d_M_overAll_471 : decode prog_7_method_15_code 471 = .ok (.getfield 114, 3) := by decide +kernel
theorem d_M_overAll_474 : decode prog_7_method_15_code 474 = .ok (.if_icmp .ge 21, 3) := by decide +kernel
theorem d_M_overAll_477 : decode prog_7_method_15_code 477 = .ok (.aload_n 0, 1) := by decide +kernel
theorem d_M_overAll_478 : decode prog_7_method_15_code 478 = .ok (.invokevirtual 70, 3) := by decide +kernel
theorem d_M_overAll_481 : decode prog_7_method_15_code 481 = .ok (.ifCond .eq 14, 3) := by decide +kernel
theorem d_M_overAll_484 : decode prog_7_method_15_code 484 = .ok (.aload_n 0, 1) := by decide +kernel
theorem d_M_overAll_485 : decode prog_7_method_15_code 485 = .ok (.iload_n 1, 1) := by decide +kernel
theorem d_M_overAll_486 : decode prog_7_method_15_code 486 = .ok (.invokevirtual 117, 3) := by decide +kernel
theorem d_M_overAll_489 : decode prog_7_method_15_code 489 = .ok (.iinc 1 1, 3) := by decide +kernel
theorem d_M_overAll_492 : decode prog_7_method_15_code 492 = .ok (.goto (-23), 3) := by decide +kernel
theorem d_M_overAll_495 : decode prog_7_method_15_code 495 = .ok (.aload_n 0, 1) := by decide +kernel
theorem d_M_overAll_496 : decode prog_7_method_15_code 496 = .ok (.invokevirtual 70, 3) := by decide +kernel
theorem d_M_overAll_499 : decode prog_7_method_15_code 499 = .ok (.ifCond .eq 24, 3) := by decide +kernel
theorem d_M_overAll_502 : decode prog_7_method_15_code 502 = .ok (.aload_n 0, 1) := by decide +kernel
theorem d_M_overAll_503 : decode prog_7_method_15_code 503 = .ok (.getfield 60, 3) := by decide +kernel
theorem d_M_overAll_506 : decode prog_7_method_15_code 506 = .ok (.aload_n 0, 1) := by decide +kernel
theorem d_M_overAll_507 : decode prog_7_method_15_code 507 = .ok (.getfield 53, 3) := by decide +kernel
theorem d_M_overAll_510 : decode prog_7_method_15_code 510 = .ok (.if_icmp .ge 13, 3) := by decide +kernel
theorem d_M_overAll_513 : decode prog_7_method_15_code 513 = .ok (.aload_n 0, 1) := by decide +kernel
theorem d_M_overAll_514 : decode prog_7_method_15_code 514 = .ok (.bipush 6, 2) := by decide +kernel
theorem d_M_overAll_516 : decode prog_7_method_15_code 516 = .ok (.aload_n 0, 1) := by decide +kernel
theorem d_M_overAll_517 : decode prog_7_method_15_code 517 = .ok (.getfield 60, 3) := by decide +kernel
theorem d_M_overAll_520 : decode prog_7_method_15_code 520 = .ok (.invokevirtual 63, 3) := by decide +kernel
theorem d_M_overAll_523 : decode prog_7_method_15_code 523 = .ok (.return_, 1) := by decide +kernel
abbrev T_M_overAll : List (Nat × ct_PT) := [(0, o_push (.int 0) 1), (1, o_istore 1 1), (2, o_iload 1 1), (3, o_push (.int 4) 1), (4, o_ic (fun x y => y ≤ x) (fun x y => ¬ y ≤ x) 80), (7, o_aload 0 1), (11, o_if (fun x => x = 0) (fun x => ¬ x = 0) 80), (14, o_aload 0 1), (15, o_push (.int 1) 1), (19, o_istore 2 1), (20, o_iload 1 1), (21, o_if (fun x => ¬ x = 0) (fun x => x = 0) 29), (24, o_push (.int 82) 2), (26, o_goto 51), (29, o_iload 1 1), (30, o_push (.int 1) 1), (31, o_ic (fun x y => ¬ x = y) (fun x y => x = y) 39), (34, o_push (.int 76) 2), (36, o_goto 51), (39, o_iload 1 1), (40, o_push (.int 2) 1), (41, o_ic (fun x y => ¬ x = y) (fun x y => x = y) 49), (44, o_push (.int 77) 2), (46, o_goto 51), (49, o_push (.int 49) 2), (51, o_istore 3 1), (52, o_aload 0 1), (56, o_if (fun x => x = 0) (fun x => ¬ x = 0) 74), (59, o_aload 0 1), (60, o_iload 2 1), (64, o_iload 3 1), (65, o_ic (fun x y => x = y) (fun x y => ¬ x = y) 74), (68, o_aload 0 1), (69, o_push (.int 1) 1), (70, o_iload 2 1), (74, o_iinc 1 1), (77, o_goto 2), (80, o_aload 0 1), (84, o_if (fun x => x = 0) (fun x => ¬ x = 0) 93), (87, o_aload 0 1), (88, o_push (.int 2) 1), (92, o_pop), (93, o_aload 0 1), (94, o_aload 0 1), (98, o_if (fun x => x = 0) (fun x => ¬ x = 0) 111), (101, o_aload 0 1), (102, o_push (.int 0) 1), (103, o_push (.int 32) 2), (108, o_goto 112), (111, o_push (.int 0) 1), (112, o_putI 4 24 9), (115, o_push (.int 0) 1), (116, o_istore 1 1), (117, o_iload 1 1), (118, o_aload 0 1), (119, o_getI 4 24 9), (122, o_ic (fun x y => y ≤ x) (fun x y => ¬ y ≤ x) 200), (125, o_aload 0 1), (129, o_if (fun x => x = 0) (fun x => ¬ x = 0) 200), (132, o_aload 0 1), (133, o_getR 4 24 15), (136, o_iload 1 1), (137, o_aload 0 1), (138, o_getI 4 24 5), (141, o_iast), (142, o_aload 0 1), (143, o_push (.int 0) 1), (144, o_push (.int 15) 2), (149, o_pop), (150, o_aload 0 1), (154, o_if (fun x => x = 0) (fun x => ¬ x = 0) 167), (157, o_aload 0 1), (158, o_push (.int 1) 1), (159, o_push (.int 16) 2), (164, o_goto 168), (167, o_push (.int 0) 1), (168, o_istore 2 1), (169, o_push (.int 0) 1), (170, o_istore 3 1), (171, o_iload 3 1), (172, o_iload 2 1), (173, o_ic (fun x y => y ≤ x) (fun x y => ¬ y ≤ x) 194), (176, o_aload 0 1), (180, o_if (fun x => x = 0) (fun x => ¬ x = 0) 194), (183, o_aload 0 1), (184, o_push (.int 0) 1), (188, o_iinc 3 1), (191, o_goto 171), (194, o_iinc 1 1), (197, o_goto 117), (200, o_aload 0 1), (201, o_aload 0 1), (205, o_if (fun x => x = 0) (fun x => ¬ x = 0) 218), (208, o_aload 0 1), (209, o_push (.int 0) 1), (210, o_push (.int 32) 2), (215, o_goto 219), (218, o_push (.int 0) 1), (219, o_putI 4 24 10), (222, o_push (.int 0) 1), (223, o_istore 1 1), (224, o_iload 1 1), (225, o_aload 0 1), (226, o_getI 4 24 10), (229, o_ic (fun x y => y ≤ x) (fun x y => ¬ y ≤ x) 281), (232, o_aload 0 1), (236, o_if (fun x => x = 0) (fun x => ¬ x = 0) 281), (239, o_aload 0 1), (240, o_getR 4 24 15), (243, o_aload 0 1), (244, o_getI 4 24 9), (247, o_iload 1 1), (248, o_ii fun x y => x + y), (249, o_aload 0 1), (250, o_getI 4 24 5), (253, o_iast), (254, o_aload 0 1), (255, o_push (.int 3) 1), (259, o_pop), (260, o_aload 0 1), (264, o_if (fun x => x = 0) (fun x => ¬ x = 0) 275), (267, o_aload 0 1), (268, o_push (.int 0) 1), (269, o_push (.int 15) 2), (274, o_pop), (275, o_iinc 1 1), (278, o_goto 224), (281, o_aload 0 1), (282, o_aload 0 1), (286, o_if (fun x => x = 0) (fun x => ¬ x = 0) 299), (289, o_aload 0 1), (290, o_push (.int 0) 1), (291, o_push (.int 32) 2), (296, o_goto 300), (299, o_push (.int 0) 1), (300, o_putI 4 24 11), (303, o_push (.int 0) 1), (304, o_istore 1 1), (305, o_iload 1 1), (306, o_aload 0 1), (307, o_getI 4 24 11), (310, o_ic (fun x y => y ≤ x) (fun x y => ¬ y ≤ x) 385), (313, o_aload 0 1), (317, o_if (fun x => x = 0) (fun x => ¬ x = 0) 385), (320, o_aload 0 1), (321, o_getR 4 24 16), (324, o_iload 1 1), (325, o_aload 0 1), (326, o_getI 4 24 5), (329, o_iast), (330, o_aload 0 1), (331, o_push (.int 3) 1), (335, o_pop), (336, o_aload 0 1), (340, o_if (fun x => x = 0) (fun x => ¬ x = 0) 351), (343, o_aload 0 1), (344, o_push (.int 0) 1), (345, o_push (.int 7) 2), (350, o_pop), (351, o_aload 0 1), (355, o_if (fun x => x = 0) (fun x => ¬ x = 0) 365), (358, o_aload 0 1), (359, o_push (.int 8) 2), (361, o_push (.int 1) 1), (365, o_aload 0 1), (369, o_if (fun x => x = 0) (fun x => ¬ x = 0) 379), (372, o_aload 0 1), (373, o_push (.int 8) 2), (375, o_push (.int 1) 1), (379, o_iinc 1 1), (382, o_goto 305), (385, o_aload 0 1), (386, o_aload 0 1), (390, o_if (fun x => x = 0) (fun x => ¬ x = 0) 403), (393, o_aload 0 1), (394, o_push (.int 0) 1), (395, o_push (.int 32) 2), (400, o_goto 404), (403, o_push (.int 0) 1), (404, o_putI 4 24 12), (407, o_push (.int 0) 1), (408, o_istore 1 1), (409, o_iload 1 1), (410, o_aload 0 1), (411, o_getI 4 24 12), (414, o_ic (fun x y => y ≤ x) (fun x y => ¬ y ≤ x) 445), (417, o_aload 0 1), (421, o_if (fun x => x = 0) (fun x => ¬ x = 0) 445), (424, o_aload 0 1), (425, o_getR 4 24 17), (428, o_iload 1 1), (429, o_aload 0 1), (430, o_getI 4 24 5), (433, o_iast), (434, o_aload 0 1), (435, o_push (.int 0) 1), (439, o_iinc 1 1), (442, o_goto 409), (445, o_aload 0 1), (446, o_aload 0 1), (450, o_if (fun x => x = 0) (fun x => ¬ x = 0) 463), (453, o_aload 0 1), (454, o_push (.int 0) 1), (455, o_push (.int 64) 2), (460, o_goto 464), (463, o_push (.int 0) 1), (464, o_putI 4 24 13), (467, o_push (.int 0) 1), (468, o_istore 1 1), (469, o_iload 1 1), (470, o_aload 0 1), (471, o_getI 4 24 13), (474, o_ic (fun x y => y ≤ x) (fun x y => ¬ y ≤ x) 495), (477, o_aload 0 1), (481, o_if (fun x => x = 0) (fun x => ¬ x = 0) 495), (484, o_aload 0 1), (485, o_iload 1 1), (489, o_iinc 1 1), (492, o_goto 469), (495, o_aload 0 1), (499, o_if (fun x => x = 0) (fun x => ¬ x = 0) 523), (502, o_aload 0 1), (503, o_getI 4 24 5), (506, o_aload 0 1), (507, o_getI 4 24 3), (510, o_ic (fun x y => y ≤ x) (fun x y => ¬ y ≤ x) 523), (513, o_aload 0 1), (514, o_push (.int 6) 2), (516, o_aload 0 1), (517, o_getI 4 24 5)]
set_option maxRecDepth 100000 in
theorem A_M_overAll (l : ct_Lx) : ct_al l M_M_overAll (T_M_overAll) := by
  refine ct_al.cons (so_iconst d_M_overAll_0 (by decide)) ?_
  refine ct_al.cons (so_istore_n d_M_overAll_1 rfl (by decide)) ?_
  refine ct_al.cons (so_iload_n d_M_overAll_2 rfl) ?_
  refine ct_al.cons (so_iconst d_M_overAll_3 (by decide)) ?_
  refine ct_al.cons (so_ic_ge d_M_overAll_4 (by decide)) ?_
  refine ct_al.cons (so_aload_n d_M_overAll_7 rfl) ?_
  refine ct_al.cons (so_if_eq d_M_overAll_11 (by decide)) ?_
  refine ct_al.cons (so_aload_n d_M_overAll_14 rfl) ?_
  refine ct_al.cons (so_iconst d_M_overAll_15 (by decide)) ?_
  refine ct_al.cons (so_istore_n d_M_overAll_19 rfl (by decide)) ?_
  refine ct_al.cons (so_iload_n d_M_overAll_20 rfl) ?_
  refine ct_al.cons (so_if_ne d_M_overAll_21 (by decide)) ?_
  refine ct_al.cons (so_bipush d_M_overAll_24 (by decide)) ?_
  refine ct_al.cons (so_goto d_M_overAll_26 (by decide)) ?_
  refine ct_al.cons (so_iload_n d_M_overAll_29 rfl) ?_
  refine ct_al.cons (so_iconst d_M_overAll_30 (by decide)) ?_
  refine ct_al.cons (so_ic_ne d_M_overAll_31 (by decide)) ?_
  refine ct_al.cons (so_bipush d_M_overAll_34 (by decide)) ?_
  refine ct_al.cons (so_goto d_M_overAll_36 (by decide)) ?_
  refine ct_al.cons (so_iload_n d_M_overAll_39 rfl) ?_
  refine ct_al.cons (so_iconst d_M_overAll_40 (by decide)) ?_
  refine ct_al.cons (so_ic_ne d_M_overAll_41 (by decide)) ?_
  refine ct_al.cons (so_bipush d_M_overAll_44 (by decide)) ?_
  refine ct_al.cons (so_goto d_M_overAll_46 (by decide)) ?_
  refine ct_al.cons (so_bipush d_M_overAll_49 (by decide)) ?_
  refine ct_al.cons (so_istore_n d_M_overAll_51 rfl (by decide)) ?_
  refine ct_al.cons (so_aload_n d_M_overAll_52 rfl) ?_
  refine ct_al.cons (so_if_eq d_M_overAll_56 (by decide)) ?_
  refine ct_al.cons (so_aload_n d_M_overAll_59 rfl) ?_
  refine ct_al.cons (so_iload_n d_M_overAll_60 rfl) ?_
  refine ct_al.cons (so_iload_n d_M_overAll_64 rfl) ?_
  refine ct_al.cons (so_ic_eq d_M_overAll_65 (by decide)) ?_
  refine ct_al.cons (so_aload_n d_M_overAll_68 rfl) ?_
  refine ct_al.cons (so_iconst d_M_overAll_69 (by decide)) ?_
  refine ct_al.cons (so_iload_n d_M_overAll_70 rfl) ?_
  refine ct_al.cons (so_iinc d_M_overAll_74 (by decide) (by decide)) ?_
  refine ct_al.cons (so_goto d_M_overAll_77 (by decide)) ?_
  refine ct_al.cons (so_aload_n d_M_overAll_80 rfl) ?_
  refine ct_al.cons (so_if_eq d_M_overAll_84 (by decide)) ?_
  refine ct_al.cons (so_aload_n d_M_overAll_87 rfl) ?_
  refine ct_al.cons (so_iconst d_M_overAll_88 (by decide)) ?_
  refine ct_al.cons (so_pop d_M_overAll_92) ?_
  refine ct_al.cons (so_aload_n d_M_overAll_93 rfl) ?_
  refine ct_al.cons (so_aload_n d_M_overAll_94 rfl) ?_
  refine ct_al.cons (so_if_eq d_M_overAll_98 (by decide)) ?_
  refine ct_al.cons (so_aload_n d_M_overAll_101 rfl) ?_
  refine ct_al.cons (so_iconst d_M_overAll_102 (by decide)) ?_
  refine ct_al.cons (so_bipush d_M_overAll_103 (by decide)) ?_
  refine ct_al.cons (so_goto d_M_overAll_108 (by decide)) ?_
  refine ct_al.cons (so_iconst d_M_overAll_111 (by decide)) ?_
  refine ct_al.cons (so_putI (Cn := "CodeTablesModel") (T := ct_T4) kc_4 (by decide) rfl rfl (Or.inl rfl) wd_411 d_M_overAll_112) ?_
  refine ct_al.cons (so_iconst d_M_overAll_115 (by decide)) ?_
  refine ct_al.cons (so_istore_n d_M_overAll_116 rfl (by decide)) ?_
  refine ct_al.cons (so_iload_n d_M_overAll_117 rfl) ?_
  refine ct_al.cons (so_aload_n d_M_overAll_118 rfl) ?_
  refine ct_al.cons (so_getI (Cn := "CodeTablesModel") (T := ct_T4) kc_4 (by decide) rfl rfl wd_411 d_M_overAll_119) ?_
  refine ct_al.cons (so_ic_ge d_M_overAll_122 (by decide)) ?_
  refine ct_al.cons (so_aload_n d_M_overAll_125 rfl) ?_
  refine ct_al.cons (so_if_eq d_M_overAll_129 (by decide)) ?_
  refine ct_al.cons (so_aload_n d_M_overAll_132 rfl) ?_
  refine ct_al.cons (so_getR (Cn := "CodeTablesModel") (T := ct_T4) kc_4 (by decide) rfl rfl wd_341 d_M_overAll_133) ?_
  refine ct_al.cons (so_iload_n d_M_overAll_136 rfl) ?_
  refine ct_al.cons (so_aload_n d_M_overAll_137 rfl) ?_
  refine ct_al.cons (so_getI (Cn := "CodeTablesModel") (T := ct_T4) kc_4 (by decide) rfl rfl wd_360 d_M_overAll_138) ?_
  refine ct_al.cons (so_iast d_M_overAll_141) ?_
  refine ct_al.cons (so_aload_n d_M_overAll_142 rfl) ?_
  refine ct_al.cons (so_iconst d_M_overAll_143 (by decide)) ?_
  refine ct_al.cons (so_bipush d_M_overAll_144 (by decide)) ?_
  refine ct_al.cons (so_pop d_M_overAll_149) ?_
  refine ct_al.cons (so_aload_n d_M_overAll_150 rfl) ?_
  refine ct_al.cons (so_if_eq d_M_overAll_154 (by decide)) ?_
  refine ct_al.cons (so_aload_n d_M_overAll_157 rfl) ?_
  refine ct_al.cons (so_iconst d_M_overAll_158 (by decide)) ?_
  refine ct_al.cons (so_bipush d_M_overAll_159 (by decide)) ?_
  refine ct_al.cons (so_goto d_M_overAll_164 (by decide)) ?_
  refine ct_al.cons (so_iconst d_M_overAll_167 (by decide)) ?_
  refine ct_al.cons (so_istore_n d_M_overAll_168 rfl (by decide)) ?_
  refine ct_al.cons (so_iconst d_M_overAll_169 (by decide)) ?_
  refine ct_al.cons (so_istore_n d_M_overAll_170 rfl (by decide)) ?_
  refine ct_al.cons (so_iload_n d_M_overAll_171 rfl) ?_
  refine ct_al.cons (so_iload_n d_M_overAll_172 rfl) ?_
  refine ct_al.cons (so_ic_ge d_M_overAll_173 (by decide)) ?_
  refine ct_al.cons (so_aload_n d_M_overAll_176 rfl) ?_
  refine ct_al.cons (so_if_eq d_M_overAll_180 (by decide)) ?_
  refine ct_al.cons (so_aload_n d_M_overAll_183 rfl) ?_
  refine ct_al.cons (so_iconst d_M_overAll_184 (by decide)) ?_
  refine ct_al.cons (so_iinc d_M_overAll_188 (by decide) (by decide)) ?_
  refine ct_al.cons (so_goto d_M_overAll_191 (by decide)) ?_
  refine ct_al.cons (so_iinc d_M_overAll_194 (by decide) (by decide)) ?_
  refine ct_al.cons (so_goto d_M_overAll_197 (by decide)) ?_
  refine ct_al.cons (so_aload_n d_M_overAll_200 rfl) ?_
  refine ct_al.cons (so_aload_n d_M_overAll_201 rfl) ?_
  refine ct_al.cons (so_if_eq d_M_overAll_205 (by decide)) ?_
  refine ct_al.cons (so_aload_n d_M_overAll_208 rfl) ?_
  refine ct_al.cons (so_iconst d_M_overAll_209 (by decide)) ?_
  refine ct_al.cons (so_bipush d_M_overAll_210 (by decide)) ?_
  refine ct_al.cons (so_goto d_M_overAll_215 (by decide)) ?_
  refine ct_al.cons (so_iconst d_M_overAll_218 (by decide)) ?_
  refine ct_al.cons (so_putI (Cn := "CodeTablesModel") (T := ct_T4) kc_4 (by decide) rfl rfl (Or.inl rfl) wd_412 d_M_overAll_219) ?_
  refine ct_al.cons (so_iconst d_M_overAll_222 (by decide)) ?_
  refine ct_al.cons (so_istore_n d_M_overAll_223 rfl (by decide)) ?_
  refine ct_al.cons (so_iload_n d_M_overAll_224 rfl) ?_
  refine ct_al.cons (so_aload_n d_M_overAll_225 rfl) ?_
  refine ct_al.cons (so_getI (Cn := "CodeTablesModel") (T := ct_T4) kc_4 (by decide) rfl rfl wd_412 d_M_overAll_226) ?_
  refine ct_al.cons (so_ic_ge d_M_overAll_229 (by decide)) ?_
  refine ct_al.cons (so_aload_n d_M_overAll_232 rfl) ?_
  refine ct_al.cons (so_if_eq d_M_overAll_236 (by decide)) ?_
  refine ct_al.cons (so_aload_n d_M_overAll_239 rfl) ?_
  refine ct_al.cons (so_getR (Cn := "CodeTablesModel") (T := ct_T4) kc_4 (by decide) rfl rfl wd_341 d_M_overAll_240) ?_
  refine ct_al.cons (so_aload_n d_M_overAll_243 rfl) ?_
  refine ct_al.cons (so_getI (Cn := "CodeTablesModel") (T := ct_T4) kc_4 (by decide) rfl rfl wd_411 d_M_overAll_244) ?_
  refine ct_al.cons (so_iload_n d_M_overAll_247 rfl) ?_
  refine ct_al.cons (so_iadd d_M_overAll_248) ?_
  refine ct_al.cons (so_aload_n d_M_overAll_249 rfl) ?_
  refine ct_al.cons (so_getI (Cn := "CodeTablesModel") (T := ct_T4) kc_4 (by decide) rfl rfl wd_360 d_M_overAll_250) ?_
  refine ct_al.cons (so_iast d_M_overAll_253) ?_
  refine ct_al.cons (so_aload_n d_M_overAll_254 rfl) ?_
  refine ct_al.cons (so_iconst d_M_overAll_255 (by decide)) ?_
  refine ct_al.cons (so_pop d_M_overAll_259) ?_
  refine ct_al.cons (so_aload_n d_M_overAll_260 rfl) ?_
  refine ct_al.cons (so_if_eq d_M_overAll_264 (by decide)) ?_
  refine ct_al.cons (so_aload_n d_M_overAll_267 rfl) ?_
  refine ct_al.cons (so_iconst d_M_overAll_268 (by decide)) ?_
  refine ct_al.cons (so_bipush d_M_overAll_269 (by decide)) ?_
  refine ct_al.cons (so_pop d_M_overAll_274) ?_
  refine ct_al.cons (so_iinc d_M_overAll_275 (by decide) (by decide)) ?_
  refine ct_al.cons (so_goto d_M_overAll_278 (by decide)) ?_
  refine ct_al.cons (so_aload_n d_M_overAll_281 rfl) ?_
  refine ct_al.cons (so_aload_n d_M_overAll_282 rfl) ?_
  refine ct_al.cons (so_if_eq d_M_overAll_286 (by decide)) ?_
  refine ct_al.cons (so_aload_n d_M_overAll_289 rfl) ?_
  refine ct_al.cons (so_iconst d_M_overAll_290 (by decide)) ?_
  refine ct_al.cons (so_bipush d_M_overAll_291 (by decide)) ?_
  refine ct_al.cons (so_goto d_M_overAll_296 (by decide)) ?_
  refine ct_al.cons (so_iconst d_M_overAll_299 (by decide)) ?_
  refine ct_al.cons (so_putI (Cn := "CodeTablesModel") (T := ct_T4) kc_4 (by decide) rfl rfl (Or.inl rfl) wd_413 d_M_overAll_300) ?_
  refine ct_al.cons (so_iconst d_M_overAll_303 (by decide)) ?_
  refine ct_al.cons (so_istore_n d_M_overAll_304 rfl (by decide)) ?_
  refine ct_al.cons (so_iload_n d_M_overAll_305 rfl) ?_
  refine ct_al.cons (so_aload_n d_M_overAll_306 rfl) ?_
  refine ct_al.cons (so_getI (Cn := "CodeTablesModel") (T := ct_T4) kc_4 (by decide) rfl rfl wd_413 d_M_overAll_307) ?_
  refine ct_al.cons (so_ic_ge d_M_overAll_310 (by decide)) ?_
  refine ct_al.cons (so_aload_n d_M_overAll_313 rfl) ?_
  refine ct_al.cons (so_if_eq d_M_overAll_317 (by decide)) ?_
  refine ct_al.cons (so_aload_n d_M_overAll_320 rfl) ?_
  refine ct_al.cons (so_getR (Cn := "CodeTablesModel") (T := ct_T4) kc_4 (by decide) rfl rfl wd_342 d_M_overAll_321) ?_
  refine ct_al.cons (so_iload_n d_M_overAll_324 rfl) ?_
  refine ct_al.cons (so_aload_n d_M_overAll_325 rfl) ?_
  refine ct_al.cons (so_getI (Cn := "CodeTablesModel") (T := ct_T4) kc_4 (by decide) rfl rfl wd_360 d_M_overAll_326) ?_
  refine ct_al.cons (so_iast d_M_overAll_329) ?_
  refine ct_al.cons (so_aload_n d_M_overAll_330 rfl) ?_
  refine ct_al.cons (so_iconst d_M_overAll_331 (by decide)) ?_
  refine ct_al.cons (so_pop d_M_overAll_335) ?_
  refine ct_al.cons (so_aload_n d_M_overAll_336 rfl) ?_
  refine ct_al.cons (so_if_eq d_M_overAll_340 (by decide)) ?_
  refine ct_al.cons (so_aload_n d_M_overAll_343 rfl) ?_
  refine ct_al.cons (so_iconst d_M_overAll_344 (by decide)) ?_
  refine ct_al.cons (so_bipush d_M_overAll_345 (by decide)) ?_
  refine ct_al.cons (so_pop d_M_overAll_350) ?_
  refine ct_al.cons (so_aload_n d_M_overAll_351 rfl) ?_
  refine ct_al.cons (so_if_eq d_M_overAll_355 (by decide)) ?_
  refine ct_al.cons (so_aload_n d_M_overAll_358 rfl) ?_
  refine ct_al.cons (so_bipush d_M_overAll_359 (by decide)) ?_
  refine ct_al.cons (so_iconst d_M_overAll_361 (by decide)) ?_
  refine ct_al.cons (so_aload_n d_M_overAll_365 rfl) ?_
  refine ct_al.cons (so_if_eq d_M_overAll_369 (by decide)) ?_
  refine ct_al.cons (so_aload_n d_M_overAll_372 rfl) ?_
  refine ct_al.cons (so_bipush d_M_overAll_373 (by decide)) ?_
  refine ct_al.cons (so_iconst d_M_overAll_375 (by decide)) ?_
  refine ct_al.cons (so_iinc d_M_overAll_379 (by decide) (by decide)) ?_
  refine ct_al.cons (so_goto d_M_overAll_382 (by decide)) ?_
  refine ct_al.cons (so_aload_n d_M_overAll_385 rfl) ?_
  refine ct_al.cons (so_aload_n d_M_overAll_386 rfl) ?_
  refine ct_al.cons (so_if_eq d_M_overAll_390 (by decide)) ?_
  refine ct_al.cons (so_aload_n d_M_overAll_393 rfl) ?_
  refine ct_al.cons (so_iconst d_M_overAll_394 (by decide)) ?_
  refine ct_al.cons (so_bipush d_M_overAll_395 (by decide)) ?_
  refine ct_al.cons (so_goto d_M_overAll_400 (by decide)) ?_
  refine ct_al.cons (so_iconst d_M_overAll_403 (by decide)) ?_
  refine ct_al.cons (so_putI (Cn := "CodeTablesModel") (T := ct_T4) kc_4 (by decide) rfl rfl (Or.inl rfl) wd_414 d_M_overAll_404) ?_
  refine ct_al.cons (so_iconst d_M_overAll_407 (by decide)) ?_
  refine ct_al.cons (so_istore_n d_M_overAll_408 rfl (by decide)) ?_
  refine ct_al.cons (so_iload_n d_M_overAll_409 rfl) ?_
  refine ct_al.cons (so_aload_n d_M_overAll_410 rfl) ?_
  refine ct_al.cons (so_getI (Cn := "CodeTablesModel") (T := ct_T4) kc_4 (by decide) rfl rfl wd_414 d_M_overAll_411) ?_
  refine ct_al.cons (so_ic_ge d_M_overAll_414 (by decide)) ?_
  refine ct_al.cons (so_aload_n d_M_overAll_417 rfl) ?_
  refine ct_al.cons (so_if_eq d_M_overAll_421 (by decide)) ?_
  refine ct_al.cons (so_aload_n d_M_overAll_424 rfl) ?_
  refine ct_al.cons (so_getR (Cn := "CodeTablesModel") (T := ct_T4) kc_4 (by decide) rfl rfl wd_343 d_M_overAll_425) ?_
  refine ct_al.cons (so_iload_n d_M_overAll_428 rfl) ?_
  refine ct_al.cons (so_aload_n d_M_overAll_429 rfl) ?_
  refine ct_al.cons (so_getI (Cn := "CodeTablesModel") (T := ct_T4) kc_4 (by decide) rfl rfl wd_360 d_M_overAll_430) ?_
  refine ct_al.cons (so_iast d_M_overAll_433) ?_
  refine ct_al.cons (so_aload_n d_M_overAll_434 rfl) ?_
  refine ct_al.cons (so_iconst d_M_overAll_435 (by decide)) ?_
  refine ct_al.cons (so_iinc d_M_overAll_439 (by decide) (by decide)) ?_
  refine ct_al.cons (so_goto d_M_overAll_442 (by decide)) ?_
  refine ct_al.cons (so_aload_n d_M_overAll_445 rfl) ?_
  refine ct_al.cons (so_aload_n d_M_overAll_446 rfl) ?_
  refine ct_al.cons (so_if_eq d_M_overAll_450 (by decide)) ?_
  refine ct_al.cons (so_aload_n d_M_overAll_453 rfl) ?_
  refine ct_al.cons (so_iconst d_M_overAll_454 (by decide)) ?_
  refine ct_al.cons (so_bipush d_M_overAll_455 (by decide)) ?_
  refine ct_al.cons (so_goto d_M_overAll_460 (by decide)) ?_
  refine ct_al.cons (so_iconst d_M_overAll_463 (by decide)) ?_
  refine ct_al.cons (so_putI (Cn := "CodeTablesModel") (T := ct_T4) kc_4 (by decide) rfl rfl (Or.inl rfl) wd_415 d_M_overAll_464) ?_
  refine ct_al.cons (so_iconst d_M_overAll_467 (by decide)) ?_
  refine ct_al.cons (so_istore_n d_M_overAll_468 rfl (by decide)) ?_
  refine ct_al.cons (so_iload_n d_M_overAll_469 rfl) ?_
  refine ct_al.cons (so_aload_n d_M_overAll_470 rfl) ?_
  refine ct_al.cons (so_getI (Cn := "CodeTablesModel") (T := ct_T4) kc_4 (by decide) rfl rfl wd_415 d_M_overAll_471) ?_
  refine ct_al.cons (so_ic_ge d_M_overAll_474 (by decide)) ?_
  refine ct_al.cons (so_aload_n d_M_overAll_477 rfl) ?_
  refine ct_al.cons (so_if_eq d_M_overAll_481 (by decide)) ?_
  refine ct_al.cons (so_aload_n d_M_overAll_484 rfl) ?_
  refine ct_al.cons (so_iload_n d_M_overAll_485 rfl) ?_
  refine ct_al.cons (so_iinc d_M_overAll_489 (by decide) (by decide)) ?_
  refine ct_al.cons (so_goto d_M_overAll_492 (by decide)) ?_
  refine ct_al.cons (so_aload_n d_M_overAll_495 rfl) ?_
  refine ct_al.cons (so_if_eq d_M_overAll_499 (by decide)) ?_
  refine ct_al.cons (so_aload_n d_M_overAll_502 rfl) ?_
  refine ct_al.cons (so_getI (Cn := "CodeTablesModel") (T := ct_T4) kc_4 (by decide) rfl rfl wd_360 d_M_overAll_503) ?_
  refine ct_al.cons (so_aload_n d_M_overAll_506 rfl) ?_
  refine ct_al.cons (so_getI (Cn := "CodeTablesModel") (T := ct_T4) kc_4 (by decide) rfl rfl wd_353 d_M_overAll_507) ?_
  refine ct_al.cons (so_ic_ge d_M_overAll_510 (by decide)) ?_
  refine ct_al.cons (so_aload_n d_M_overAll_513 rfl) ?_
  refine ct_al.cons (so_bipush d_M_overAll_514 (by decide)) ?_
  refine ct_al.cons (so_aload_n d_M_overAll_516 rfl) ?_
  refine ct_al.cons (so_getI (Cn := "CodeTablesModel") (T := ct_T4) kc_4 (by decide) rfl rfl wd_360 d_M_overAll_517) ?_
  exact ct_al.nil
set_option maxRecDepth 100000 in
theorem e_M_overAll_0 : ct_tab (T_M_overAll) 0 = some (o_push (.int 0) 1) := rfl
set_option maxRecDepth 100000 in
theorem e_M_overAll_1 : ct_tab (T_M_overAll) 1 = some (o_istore 1 1) := rfl
set_option maxRecDepth 100000 in
theorem e_M_overAll_2 : ct_tab (T_M_overAll) 2 = some (o_iload 1 1) := rfl
set_option maxRecDepth 100000 in
theorem e_M_overAll_3 : ct_tab (T_M_overAll) 3 = some (o_push (.int 4) 1) := rfl
set_option maxRecDepth 100000 in
theorem e_M_overAll_4 : ct_tab (T_M_overAll) 4 = some (o_ic (fun x y => y ≤ x) (fun x y => ¬ y ≤ x) 80) := rfl
set_option maxRecDepth 100000 in
theorem e_M_overAll_7 : ct_tab (T_M_overAll) 7 = some (o_aload 0 1) := rfl
set_option maxRecDepth 100000 in
theorem e_M_overAll_11 : ct_tab (T_M_overAll) 11 = some (o_if (fun x => x = 0) (fun x => ¬ x = 0) 80) := rfl
set_option maxRecDepth 100000 in
theorem e_M_overAll_14 : ct_tab (T_M_overAll) 14 = some (o_aload 0 1) := rfl
set_option maxRecDepth 100000 in
theorem e_M_overAll_15 : ct_tab (T_M_overAll) 15 = some (o_push (.int 1) 1) := rfl
set_option maxRecDepth 100000 in
theorem e_M_overAll_19 : ct_tab (T_M_overAll) 19 = some (o_istore 2 1) := rfl
set_option maxRecDepth 100000 in
theorem e_M_overAll_20 : ct_tab (T_M_overAll) 20 = some (o_iload 1 1) := rfl
set_option maxRecDepth 100000 in
theorem e_M_overAll_21 : ct_tab (T_M_overAll) 21 = some (o_if (fun x => ¬ x = 0) (fun x => x = 0) 29) := rfl
set_option maxRecDepth 100000 in
theorem e_M_overAll_24 : ct_tab (T_M_overAll) 24 = some (o_push (.int 82) 2) := rfl
set_option maxRecDepth 100000 in
theorem e_M_overAll_26 : ct_tab (T_M_overAll) 26 = some (o_goto 51) := rfl
set_option maxRecDepth 100000 in
theorem e_M_overAll_29 : ct_tab (T_M_overAll) 29 = some (o_iload 1 1) := rfl
set_option maxRecDepth 100000 in
theorem e_M_overAll_30 : ct_tab (T_M_overAll) 30 = some (o_push (.int 1) 1) := rfl
set_option maxRecDepth 100000 in
theorem e_M_overAll_31 : ct_tab (T_M_overAll) 31 = some (o_ic (fun x y => ¬ x = y) (fun x y => x = y) 39) := rfl
set_option maxRecDepth 100000 in
theorem e_M_overAll_34 : ct_tab (T_M_overAll) 34 = some (o_push (.int 76) 2) := rfl
set_option maxRecDepth 100000 in
theorem e_M_overAll_36 : ct_tab (T_M_overAll) 36 = some (o_goto 51) := rfl
set_option maxRecDepth 100000 in
theorem e_M_overAll_39 : ct_tab (T_M_overAll) 39 = some (o_iload 1 1) := rfl
set_option maxRecDepth 100000 in
theorem e_M_overAll_40 : ct_tab (T_M_overAll) 40 = some (o_push (.int 2) 1) := rfl
set_option maxRecDepth 100000 in
theorem e_M_overAll_41 : ct_tab (T_M_overAll) 41 = some (o_ic (fun x y => ¬ x = y) (fun x y => x = y) 49) := rfl
set_option maxRecDepth 100000 in
theorem e_M_overAll_44 : ct_tab (T_M_overAll) 44 = some (o_push (.int 77) 2) := rfl
set_option maxRecDepth 100000 in
theorem e_M_overAll_46 : ct_tab (T_M_overAll) 46 = some (o_goto 51) := rfl
set_option maxRecDepth 100000 in
theorem e_M_overAll_49 : ct_tab (T_M_overAll) 49 = some (o_push (.int 49) 2) := rfl
set_option maxRecDepth 100000 in
theorem e_M_overAll_51 : ct_tab (T_M_overAll) 51 = some (o_istore 3 1) := rfl
set_option maxRecDepth 100000 in
theorem e_M_overAll_52 : ct_tab (T_M_overAll) 52 = some (o_aload 0 1) := rfl
set_option maxRecDepth 100000 in
theorem e_M_overAll_56 : ct_tab (T_M_overAll) 56 = some (o_if (fun x => x = 0) (fun x => ¬ x = 0) 74) := rfl
set_option maxRecDepth 100000 in
theorem e_M_overAll_59 : ct_tab (T_M_overAll) 59 = some (o_aload 0 1) := rfl
set_option maxRecDepth 100000 in
theorem e_M_overAll_60 : ct_tab (T_M_overAll) 60 = some (o_iload 2 1) := rfl
set_option maxRecDepth 100000 in
theorem e_M_overAll_64 : ct_tab (T_M_overAll) 64 = some (o_iload 3 1) := rfl
set_option maxRecDepth 100000 in
theorem e_M_overAll_65 : ct_tab (T_M_overAll) 65 = some (o_ic (fun x y => x = y) (fun x y => ¬ x = y) 74) := rfl
set_option maxRecDepth 100000 in
theorem e_M_overAll_68 : ct_tab (T_M_overAll) 68 = some (o_aload 0 1) := rfl
set_option maxRecDepth 100000 in
theorem e_M_overAll_69 : ct_tab (T_M_overAll) 69 = some (o_push (.int 1) 1) := rfl
set_option maxRecDepth 100000 in
theorem e_M_overAll_70 : ct_tab (T_M_overAll) 70 = some (o_iload 2 1) := rfl
set_option maxRecDepth 100000 in
theorem e_M_overAll_74 : ct_tab (T_M_overAll) 74 = some (o_iinc 1 1) := rfl
set_option maxRecDepth 100000 in
theorem e_M_overAll_77 : ct_tab (T_M_overAll) 77 = some (o_goto 2) := rfl
set_option maxRecDepth 100000 in
theorem e_M_overAll_80 : ct_tab (T_M_overAll) 80 = some (o_aload 0 1) := rfl
set_option maxRecDepth 100000 in
theorem e_M_overAll_84 : ct_tab (T_M_overAll) 84 = some (o_if (fun x => x = 0) (fun x => ¬ x = 0) 93) := rfl
set_option maxRecDepth 100000 in
theorem e_M_overAll_87 : ct_tab (T_M_overAll) 87 = some (o_aload 0 1) := rfl
set_option maxRecDepth 100000 in
theorem e_M_overAll_88 : ct_tab (T_M_overAll) 88 = some (o_push (.int 2) 1) := rfl
set_option maxRecDepth 100000 in
theorem e_M_overAll_92 : ct_tab (T_M_overAll) 92 = some (o_pop) := rfl
set_option maxRecDepth 100000 in
theorem e_M_overAll_93 : ct_tab (T_M_overAll) 93 = some (o_aload 0 1) := rfl
set_option maxRecDepth 100000 in
theorem e_M_overAll_94 : ct_tab (T_M_overAll) 94 = some (o_aload 0 1) := rfl
set_option maxRecDepth 100000 in
theorem e_M_overAll_98 : ct_tab (T_M_overAll) 98 = some (o_if (fun x => x = 0) (fun x => ¬ x = 0) 111) := rfl
set_option maxRecDepth 100000 in
theorem e_M_overAll_101 : ct_tab (T_M_overAll) 101 = some (o_aload 0 1) := rfl
set_option maxRecDepth 100000 in
theorem e_M_overAll_102 : ct_tab (T_M_overAll) 102 = some (o_push (.int 0) 1) := rfl
set_option maxRecDepth 100000 in
theorem e_M_overAll_103 : ct_tab (T_M_overAll) 103 = some (o_push (.int 32) 2) := rfl
set_option maxRecDepth 100000 in
theorem e_M_overAll_108 : ct_tab (T_M_overAll) 108 = some (o_goto 112) := rfl
set_option maxRecDepth 100000 in
theorem e_M_overAll_111 : ct_tab (T_M_overAll) 111 = some (o_push (.int 0) 1) := rfl
set_option maxRecDepth 100000 in
theorem e_M_overAll_112 : ct_tab (T_M_overAll) 112 = some (o_putI 4 24 9) := rfl
set_option maxRecDepth 100000 in
theorem e_M_overAll_115 : ct_tab (T_M_overAll) 115 = some (o_push (.int 0) 1) := rfl
set_option maxRecDepth 100000 in
theorem e_M_overAll_116 : ct_tab (T_M_overAll) 116 = some (o_istore 1 1) := rfl
set_option maxRecDepth 100000 in
theorem e_M_overAll_117 : ct_tab (T_M_overAll) 117 = some (o_iload 1 1) := rfl
set_option maxRecDepth 100000 in
theorem e_M_overAll_118 : ct_tab (T_M_overAll) 118 = some (o_aload 0 1) := rfl
set_option maxRecDepth 100000 in
theorem e_M_overAll_119 : ct_tab (T_M_overAll) 119 = some (o_getI 4 24 9) := rfl
set_option maxRecDepth 100000 in
theorem e_M_overAll_122 : ct_tab (T_M_overAll) 122 = some (o_ic (fun x y => y ≤ x) (fun x y => ¬ y ≤ x) 200) := rfl
set_option maxRecDepth 100000 in
theorem e_M_overAll_125 : ct_tab (T_M_overAll) 125 = some (o_aload 0 1) := rfl
set_option maxRecDepth 100000 in
theorem e_M_overAll_129 : ct_tab (T_M_overAll) 129 = some (o_if (fun x => x = 0) (fun x => ¬ x = 0) 200) := rfl
set_option maxRecDepth 100000 in
theorem e_M_overAll_132 : ct_tab (T_M_overAll) 132 = some (o_aload 0 1) := rfl
set_option maxRecDepth 100000 in
theorem e_M_overAll_133 : ct_tab (T_M_overAll) 133 = some (o_getR 4 24 15) := rfl
set_option maxRecDepth 100000 in
theorem e_M_overAll_136 : ct_tab (T_M_overAll) 136 = some (o_iload 1 1) := rfl
set_option maxRecDepth 100000 in
theorem e_M_overAll_137 : ct_tab (T_M_overAll) 137 = some (o_aload 0 1) := rfl
set_option maxRecDepth 100000 in
theorem e_M_overAll_138 : ct_tab (T_M_overAll) 138 = some (o_getI 4 24 5) := rfl
set_option maxRecDepth 100000 in
theorem e_M_overAll_141 : ct_tab (T_M_overAll) 141 = some (o_iast) := rfl
set_option maxRecDepth 100000 in
theorem e_M_overAll_142 : ct_tab (T_M_overAll) 142 = some (o_aload 0 1) := rfl
set_option maxRecDepth 100000 in
theorem e_M_overAll_143 : ct_tab (T_M_overAll) 143 = some (o_push (.int 0) 1) := rfl
set_option maxRecDepth 100000 in
theorem e_M_overAll_144 : ct_tab (T_M_overAll) 144 = some (o_push (.int 15) 2) := rfl
set_option maxRecDepth 100000 in
theorem e_M_overAll_149 : ct_tab (T_M_overAll) 149 = some (o_pop) := rfl
set_option maxRecDepth 100000 in
theorem e_M_overAll_150 : ct_tab (T_M_overAll) 150 = some (o_aload 0 1) := rfl
set_option maxRecDepth 100000 in
theorem e_M_overAll_154 : ct_tab (T_M_overAll) 154 = some (o_if (fun x => x = 0) (fun x => ¬ x = 0) 167) := rfl
set_option maxRecDepth 100000 in
theorem e_M_overAll_157 : ct_tab (T_M_overAll) 157 = some (o_aload 0 1) := rfl
set_option maxRecDepth 100000 in
theorem e_M_overAll_158 : ct_tab (T_M_overAll) 158 = some (o_push (.int 1) 1) := rfl
set_option maxRecDepth 100000 in
theorem e_M_overAll_159 : ct_tab (T_M_overAll) 159 = some (o_push (.int 16) 2) := rfl
set_option maxRecDepth 100000 in
theorem e_M_overAll_164 : ct_tab (T_M_overAll) 164 = some (o_goto 168) := rfl
set_option maxRecDepth 100000 in
theorem e_M_overAll_167 : ct_tab (T_M_overAll) 167 = some (o_push (.int 0) 1) := rfl
set_option maxRecDepth 100000 in
theorem e_M_overAll_168 : ct_tab (T_M_overAll) 168 = some (o_istore 2 1) := rfl
set_option maxRecDepth 100000 in
theorem e_M_overAll_169 : ct_tab (T_M_overAll) 169 = some (o_push (.int 0) 1) := rfl
set_option maxRecDepth 100000 in
theorem e_M_overAll_170 : ct_tab (T_M_overAll) 170 = some (o_istore 3 1) := rfl
set_option maxRecDepth 100000 in
theorem e_M_overAll_171 : ct_tab (T_M_overAll) 171 = some (o_iload 3 1) := rfl
set_option maxRecDepth 100000 in
theorem e_M_overAll_172 : ct_tab (T_M_overAll) 172 = some (o_iload 2 1) := rfl
set_option maxRecDepth 100000 in
theorem e_M_overAll_173 : ct_tab (T_M_overAll) 173 = some (o_ic (fun x y => y ≤ x) (fun x y => ¬ y ≤ x) 194) := rfl
set_option maxRecDepth 100000 in
theorem e_M_overAll_176 : ct_tab (T_M_overAll) 176 = some (o_aload 0 1) := rfl
set_option maxRecDepth 100000 in
theorem e_M_overAll_180 : ct_tab (T_M_overAll) 180 = some (o_if (fun x => x = 0) (fun x => ¬ x = 0) 194) := rfl
set_option maxRecDepth 100000 in
theorem e_M_overAll_183 : ct_tab (T_M_overAll) 183 = some (o_aload 0 1) := rfl
set_option maxRecDepth 100000 in
theorem e_M_overAll_184 : ct_tab (T_M_overAll) 184 = some (o_push (.int 0) 1) := rfl
set_option maxRecDepth 100000 in
theorem e_M_overAll_188 : ct_tab (T_M_overAll) 188 = some (o_iinc 3 1) := rfl
set_option maxRecDepth 100000 in
theorem e_M_overAll_191 : ct_tab (T_M_overAll) 191 = some (o_goto 171) := rfl
set_option maxRecDepth 100000 in
theorem e_M_overAll_194 : ct_tab (T_M_overAll) 194 = some (o_iinc 1 1) := rfl
set_option maxRecDepth 100000 in
theorem e_M_overAll_197 : ct_tab (T_M_overAll) 197 = some (o_goto 117) := rfl
set_option maxRecDepth 100000 in
theorem e_M_overAll_200 : ct_tab (T_M_overAll) 200 = some (o_aload 0 1) := rfl
set_option maxRecDepth 100000 in
theorem e_M_overAll_201 : ct_tab (T_M_overAll) 201 = some (o_aload 0 1) := rfl
set_option maxRecDepth 100000 in
theorem e_M_overAll_205 : ct_tab (T_M_overAll) 205 = some (o_if (fun x => x = 0) (fun x => ¬ x = 0) 218) := rfl
set_option maxRecDepth 100000 in
theorem e_M_overAll_208 : ct_tab (T_M_overAll) 208 = some (o_aload 0 1) := rfl
set_option maxRecDepth 100000 in
theorem e_M_overAll_209 : ct_tab (T_M_overAll) 209 = some (o_push (.int 0) 1) := rfl
set_option maxRecDepth 100000 in
theorem e_M_overAll_210 : ct_tab (T_M_overAll) 210 = some (o_push (.int 32) 2) := rfl
set_option maxRecDepth 100000 in
theorem e_M_overAll_215 : ct_tab (T_M_overAll) 215 = some (o_goto 219) := rfl
set_option maxRecDepth 100000 in
theorem e_M_overAll_218 : ct_tab (T_M_overAll) 218 = some (o_push (.int 0) 1) := rfl
set_option maxRecDepth 100000 in
theorem e_M_overAll_219 : ct_tab (T_M_overAll) 219 = some (o_putI 4 24 10) := rfl
set_option maxRecDepth 100000 in
theorem e_M_overAll_222 : ct_tab (T_M_overAll) 222 = some (o_push (.int 0) 1) := rfl
set_option maxRecDepth 100000 in
theorem e_M_overAll_223 : ct_tab (T_M_overAll) 223 = some (o_istore 1 1) := rfl
set_option maxRecDepth 100000 in
theorem e_M_overAll_224 : ct_tab (T_M_overAll) 224 = some (o_iload 1 1) := rfl
set_option maxRecDepth 100000 in
theorem e_M_overAll_225 : ct_tab (T_M_overAll) 225 = some (o_aload 0 1) := rfl
set_option maxRecDepth 100000 in
theorem e_M_overAll_226 : ct_tab (T_M_overAll) 226 = some (o_getI 4 24 10) := rfl
set_option maxRecDepth 100000 in
theorem e_M_overAll_229 : ct_tab (T_M_overAll) 229 = some (o_ic (fun x y => y ≤ x) (fun x y => ¬ y ≤ x) 281) := rfl
set_option maxRecDepth 100000 in
theorem e_M_overAll_232 : ct_tab (T_M_overAll) 232 = some (o_aload 0 1) := rfl
set_option maxRecDepth 100000 in
theorem e_M_overAll_236 : ct_tab (T_M_overAll) 236 = some (o_if (fun x => x = 0) (fun x => ¬ x = 0) 281) := rfl
set_option maxRecDepth 100000 in
theorem e_M_overAll_239 : ct_tab (T_M_overAll) 239 = some (o_aload 0 1) := rfl
set_option maxRecDepth 100000 in
theorem e_M_overAll_240 : ct_tab (T_M_overAll) 240 = some (o_getR 4 24 15) := rfl
set_option maxRecDepth 100000 in
theorem e_M_overAll_243 : ct_tab (T_M_overAll) 243 = some (o_aload 0 1) := rfl
set_option maxRecDepth 100000 in
theorem e_M_overAll_244 : ct_tab (T_M_overAll) 244 = some (o_getI 4 24 9) := rfl
set_option maxRecDepth 100000 in
theorem e_M_overAll_247 : ct_tab (T_M_overAll) 247 = some (o_iload 1 1) := rfl
set_option maxRecDepth 100000 in
theorem e_M_overAll_248 : ct_tab (T_M_overAll) 248 = some (o_ii fun x y => x + y) := rfl
set_option maxRecDepth 100000 in
theorem e_M_overAll_249 : ct_tab (T_M_overAll) 249 = some (o_aload 0 1) := rfl
set_option maxRecDepth 100000 in
theorem e_M_overAll_250 : ct_tab (T_M_overAll) 250 = some (o_getI 4 24 5) := rfl
set_option maxRecDepth 100000 in
theorem e_M_overAll_253 : ct_tab (T_M_overAll) 253 = some (o_iast) := rfl
set_option maxRecDepth 100000 in
theorem e_M_overAll_254 : ct_tab (T_M_overAll) 254 = some (o_aload 0 1) := rfl
set_option maxRecDepth 100000 in
theorem e_M_overAll_255 : ct_tab (T_M_overAll) 255 = some (o_push (.int 3) 1) := rfl
set_option maxRecDepth 100000 in
theorem e_M_overAll_259 : ct_tab (T_M_overAll) 259 = some (o_pop) := rfl
set_option maxRecDepth 100000 in
theorem e_M_overAll_260 : ct_tab (T_M_overAll) 260 = some (o_aload 0 1) := rfl
set_option maxRecDepth 100000 in
theorem e_M_overAll_264 : ct_tab (T_M_overAll) 264 = some (o_if (fun x => x = 0) (fun x => ¬ x = 0) 275) := rfl
set_option maxRecDepth 100000 in
theorem e_M_overAll_267 : ct_tab (T_M_overAll) 267 = some (o_aload 0 1) := rfl
set_option maxRecDepth 100000 in
theorem e_M_overAll_268 : ct_tab (T_M_overAll) 268 = some (o_push (.int 0) 1) := rfl
set_option maxRecDepth 100000 in
theorem e_M_overAll_269 : ct_tab (T_M_overAll) 269 = some (o_push (.int 15) 2) := rfl
set_option maxRecDepth 100000 in
theorem e_M_overAll_274 : ct_tab (T_M_overAll) 274 = some (o_pop) := rfl
set_option maxRecDepth 100000 in
theorem e_M_overAll_275 : ct_tab (T_M_overAll) 275 = some (o_iinc 1 1) := rfl
set_option maxRecDepth 100000 in
theorem e_M_overAll_278 : ct_tab (T_M_overAll) 278 = some (o_goto 224) := rfl
set_option maxRecDepth 100000 in
theorem e_M_overAll_281 : ct_tab (T_M_overAll) 281 = some (o_aload 0 1) := rfl
set_option maxRecDepth 100000 in
theorem e_M_overAll_282 : ct_tab (T_M_overAll) 282 = some (o_aload 0 1) := rfl
set_option maxRecDepth 100000 in
theorem e_M_overAll_286 : ct_tab (T_M_overAll) 286 = some (o_if (fun x => x = 0) (fun x => ¬ x = 0) 299) := rfl
set_option maxRecDepth 100000 in
theorem e_M_overAll_289 : ct_tab (T_M_overAll) 289 = some (o_aload 0 1) := rfl
set_option maxRecDepth 100000 in
theorem e_M_overAll_290 : ct_tab (T_M_overAll) 290 = some (o_push (.int 0) 1) := rfl
set_option maxRecDepth 100000 in
theorem e_M_overAll_291 : ct_tab (T_M_overAll) 291 = some (o_push (.int 32) 2) := rfl
set_option maxRecDepth 100000 in
theorem e_M_overAll_296 : ct_tab (T_M_overAll) 296 = some (o_goto 300) := rfl
set_option maxRecDepth 100000 in
theorem e_M_overAll_299 : ct_tab (T_M_overAll) 299 = some (o_push (.int 0) 1) := rfl
set_option maxRecDepth 100000 in
theorem e_M_overAll_300 : ct_tab (T_M_overAll) 300 = some (o_putI 4 24 11) := rfl
set_option maxRecDepth 100000 in
theorem e_M_overAll_303 : ct_tab (T_M_overAll) 303 = some (o_push (.int 0) 1) := rfl
set_option maxRecDepth 100000 in
theorem e_M_overAll_304 : ct_tab (T_M_overAll) 304 = some (o_istore 1 1) := rfl
set_option maxRecDepth 100000 in
theorem e_M_overAll_305 : ct_tab (T_M_overAll) 305 = some (o_iload 1 1) := rfl
set_option maxRecDepth 100000 in
theorem e_M_overAll_306 : ct_tab (T_M_overAll) 306 = some (o_aload 0 1) := rfl
set_option maxRecDepth 100000 in
theorem e_M_overAll_307 : ct_tab (T_M_overAll) 307 = some (o_getI 4 24 11) := rfl
set_option maxRecDepth 100000 in
theorem e_M_overAll_310 : ct_tab (T_M_overAll) 310 = some (o_ic (fun x y => y ≤ x) (fun x y => ¬ y ≤ x) 385) := rfl
set_option maxRecDepth 100000 in
theorem e_M_overAll_313 : ct_tab (T_M_overAll) 313 = some (o_aload 0 1) := rfl
set_option maxRecDepth 100000 in
theorem e_M_overAll_317 : ct_tab (T_M_overAll) 317 = some (o_if (fun x => x = 0) (fun x => ¬ x = 0) 385) := rfl
set_option maxRecDepth 100000 in
theorem e_M_overAll_320 : ct_tab (T_M_overAll) 320 = some (o_aload 0 1) := rfl
set_option maxRecDepth 100000 in
theorem e_M_overAll_321 : ct_tab (T_M_overAll) 321 = some (o_getR 4 24 16) := rfl
set_option maxRecDepth 100000 in
theorem e_M_overAll_324 : ct_tab (T_M_overAll) 324 = some (o_iload 1 1) := rfl
set_option maxRecDepth 100000 in
theorem e_M_overAll_325 : ct_tab (T_M_overAll) 325 = some (o_aload 0 1) := rfl
set_option maxRecDepth 100000 in
theorem e_M_overAll_326 : ct_tab (T_M_overAll) 326 = some (o_getI 4 24 5) := rfl
set_option maxRecDepth 100000 in
theorem e_M_overAll_329 : ct_tab (T_M_overAll) 329 = some (o_iast) := rfl
set_option maxRecDepth 100000 in
theorem e_M_overAll_330 : ct_tab (T_M_overAll) 330 = some (o_aload 0 1) := rfl
set_option maxRecDepth 100000 in
theorem e_M_overAll_331 : ct_tab (T_M_overAll) 331 = some (o_push (.int 3) 1) := rfl
set_option maxRecDepth 100000 in
theorem e_M_overAll_335 : ct_tab (T_M_overAll) 335 = some (o_pop) := rfl
set_option maxRecDepth 100000 in
theorem e_M_overAll_336 : ct_tab (T_M_overAll) 336 = some (o_aload 0 1) := rfl
set_option maxRecDepth 100000 in
theorem e_M_overAll_340 : ct_tab (T_M_overAll) 340 = some (o_if (fun x => x = 0) (fun x => ¬ x = 0) 351) := rfl
set_option maxRecDepth 100000 in
theorem e_M_overAll_343 : ct_tab (T_M_overAll) 343 = some (o_aload 0 1) := rfl
set_option maxRecDepth 100000 in
theorem e_M_overAll_344 : ct_tab (T_M_overAll) 344 = some (o_push (.int 0) 1) := rfl
set_option maxRecDepth 100000 in
theorem e_M_overAll_345 : ct_tab (T_M_overAll) 345 = some (o_push (.int 7) 2) := rfl
set_option maxRecDepth 100000 in
theorem e_M_overAll_350 : ct_tab (T_M_overAll) 350 = some (o_pop) := rfl
set_option maxRecDepth 100000 in
theorem e_M_overAll_351 : ct_tab (T_M_overAll) 351 = some (o_aload 0 1) := rfl
set_option maxRecDepth 100000 in
theorem e_M_overAll_355 : ct_tab (T_M_overAll) 355 = some (o_if (fun x => x = 0) (fun x => ¬ x = 0) 365) := rfl
set_option maxRecDepth 100000 in
theorem e_M_overAll_358 : ct_tab (T_M_overAll) 358 = some (o_aload 0 1) := rfl
set_option maxRecDepth 100000 in
theorem e_M_overAll_359 : ct_tab (T_M_overAll) 359 = some (o_push (.int 8) 2) := rfl
set_option maxRecDepth 100000 in
theorem e_M_overAll_361 : ct_tab (T_M_overAll) 361 = some (o_push (.int 1) 1) := rfl
set_option maxRecDepth 100000 in
theorem e_M_overAll_365 : ct_tab (T_M_overAll) 365 = some (o_aload 0 1) := rfl
set_option maxRecDepth 100000 in
theorem e_M_overAll_369 : ct_tab (T_M_overAll) 369 = some (o_if (fun x => x = 0) (fun x => ¬ x = 0) 379) := rfl
set_option maxRecDepth 100000 in
theorem e_M_overAll_372 : ct_tab (T_M_overAll) 372 = some (o_aload 0 1) := rfl
set_option maxRecDepth 100000 in
theorem e_M_overAll_373 : ct_tab (T_M_overAll) 373 = some (o_push (.int 8) 2) := rfl
set_option maxRecDepth 100000 in
theorem e_M_overAll_375 : ct_tab (T_M_overAll) 375 = some (o_push (.int 1) 1) := rfl
set_option maxRecDepth 100000 in
theorem e_M_overAll_379 : ct_tab (T_M_overAll) 379 = some (o_iinc 1 1) := rfl
set_option maxRecDepth 100000 in
theorem e_M_overAll_382 : ct_tab (T_M_overAll) 382 = some (o_goto 305) := rfl
set_option maxRecDepth 100000 in
theorem e_M_overAll_385 : ct_tab (T_M_overAll) 385 = some (o_aload 0 1) := rfl
set_option maxRecDepth 100000 in
theorem e_M_overAll_386 : ct_tab (T_M_overAll) 386 = some (o_aload 0 1) := rfl
set_option maxRecDepth 100000 in
theorem e_M_overAll_390 : ct_tab (T_M_overAll) 390 = some (o_if (fun x => x = 0) (fun x => ¬ x = 0) 403) := rfl
set_option maxRecDepth 100000 in
theorem e_M_overAll_393 : ct_tab (T_M_overAll) 393 = some (o_aload 0 1) := rfl
set_option maxRecDepth 100000 in
theorem e_M_overAll_394 : ct_tab (T_M_overAll) 394 = some (o_push (.int 0) 1) := rfl
set_option maxRecDepth 100000 in
theorem e_M_overAll_395 : ct_tab (T_M_overAll) 395 = some (o_push (.int 32) 2) := rfl
set_option maxRecDepth 100000 in
theorem e_M_overAll_400 : ct_tab (T_M_overAll) 400 = some (o_goto 404) := rfl
set_option maxRecDepth 100000 in
theorem e_M_overAll_403 : ct_tab (T_M_overAll) 403 = some (o_push (.int 0) 1) := rfl
set_option maxRecDepth 100000 in
theorem e_M_overAll_404 : ct_tab (T_M_overAll) 404 = some (o_putI 4 24 12) := rfl
set_option maxRecDepth 100000 in
theorem e_M_overAll_407 : ct_tab (T_M_overAll) 407 = some (o_push (.int 0) 1) := rfl
set_option maxRecDepth 100000 in
theorem e_M_overAll_408 : ct_tab (T_M_overAll) 408 = some (o_istore 1 1) := rfl
set_option maxRecDepth 100000 in
theorem e_M_overAll_409 : ct_tab (T_M_overAll) 409 = some (o_iload 1 1) := rfl
set_option maxRecDepth 100000 in
theorem e_M_overAll_410 : ct_tab (T_M_overAll) 410 = some (o_aload 0 1) := rfl
set_option maxRecDepth 100000 in
theorem e_M_overAll_411 : ct_tab (T_M_overAll) 411 = some (o_getI 4 24 12) := rfl
set_option maxRecDepth 100000 in
theorem e_M_overAll_414 : ct_tab (T_M_overAll) 414 = some (o_ic (fun x y => y ≤ x) (fun x y => ¬ y ≤ x) 445) := rfl
set_option maxRecDepth 100000 in
theorem e_M_overAll_417 : ct_tab (T_M_overAll) 417 = some (o_aload 0 1) := rfl
set_option maxRecDepth 100000 in
theorem e_M_overAll_421 : ct_tab (T_M_overAll) 421 = some (o_if (fun x => x = 0) (fun x => ¬ x = 0) 445) := rfl
set_option maxRecDepth 100000 in
theorem e_M_overAll_424 : ct_tab (T_M_overAll) 424 = some (o_aload 0 1) := rfl
set_option maxRecDepth 100000 in
theorem e_M_overAll_425 : ct_tab (T_M_overAll) 425 = some (o_getR 4 24 17) := rfl
set_option maxRecDepth 100000 in
theorem e_M_overAll_428 : ct_tab (T_M_overAll) 428 = some (o_iload 1 1) := rfl
set_option maxRecDepth 100000 in
theorem e_M_overAll_429 : ct_tab (T_M_overAll) 429 = some (o_aload 0 1) := rfl
set_option maxRecDepth 100000 in
theorem e_M_overAll_430 : ct_tab (T_M_overAll) 430 = some (o_getI 4 24 5) := rfl
set_option maxRecDepth 100000 in
theorem e_M_overAll_433 : ct_tab (T_M_overAll) 433 = some (o_iast) := rfl
set_option maxRecDepth 100000 in
theorem e_M_overAll_434 : ct_tab (T_M_overAll) 434 = some (o_aload 0 1) := rfl
set_option maxRecDepth 100000 in
theorem e_M_overAll_435 : ct_tab (T_M_overAll) 435 = some (o_push (.int 0) 1) := rfl
set_option maxRecDepth 100000 in
theorem e_M_overAll_439 : ct_tab (T_M_overAll) 439 = some (o_iinc 1 1) := rfl
set_option maxRecDepth 100000 in
theorem e_M_overAll_442 : ct_tab (T_M_overAll) 442 = some (o_goto 409) := rfl
set_option maxRecDepth 100000 in
theorem e_M_overAll_445 : ct_tab (T_M_overAll) 445 = some (o_aload 0 1) := rfl
set_option maxRecDepth 100000 in
theorem e_M_overAll_446 : ct_tab (T_M_overAll) 446 = some (o_aload 0 1) := rfl
set_option maxRecDepth 100000 in
theorem e_M_overAll_450 : ct_tab (T_M_overAll) 450 = some (o_if (fun x => x = 0) (fun x => ¬ x = 0) 463) := rfl
set_option maxRecDepth 100000 in
theorem e_M_overAll_453 : ct_tab (T_M_overAll) 453 = some (o_aload 0 1) := rfl
set_option maxRecDepth 100000 in
theorem e_M_overAll_454 : ct_tab (T_M_overAll) 454 = some (o_push (.int 0) 1) := rfl
set_option maxRecDepth 100000 in
theorem e_M_overAll_455 : ct_tab (T_M_overAll) 455 = some (o_push (.int 64) 2) := rfl
set_option maxRecDepth 100000 in
theorem e_M_overAll_460 : ct_tab (T_M_overAll) 460 = some (o_goto 464) := rfl
set_option maxRecDepth 100000 in
theorem e_M_overAll_463 : ct_tab (T_M_overAll) 463 = some (o_push (.int 0) 1) := rfl
set_option maxRecDepth 100000 in
theorem e_M_overAll_464 : ct_tab (T_M_overAll) 464 = some (o_putI 4 24 13) := rfl
set_option maxRecDepth 100000 in
theorem e_M_overAll_467 : ct_tab (T_M_overAll) 467 = some (o_push (.int 0) 1) := rfl
set_option maxRecDepth 100000 in
theorem e_M_overAll_468 : ct_tab (T_M_overAll) 468 = some (o_istore 1 1) := rfl
set_option maxRecDepth 100000 in
theorem e_M_overAll_469 : ct_tab (T_M_overAll) 469 = some (o_iload 1 1) := rfl
set_option maxRecDepth 100000 in
theorem e_M_overAll_470 : ct_tab (T_M_overAll) 470 = some (o_aload 0 1) := rfl
set_option maxRecDepth 100000 in
theorem e_M_overAll_471 : ct_tab (T_M_overAll) 471 = some (o_getI 4 24 13) := rfl
set_option maxRecDepth 100000 in
theorem e_M_overAll_474 : ct_tab (T_M_overAll) 474 = some (o_ic (fun x y => y ≤ x) (fun x y => ¬ y ≤ x) 495) := rfl
set_option maxRecDepth 100000 in
theorem e_M_overAll_477 : ct_tab (T_M_overAll) 477 = some (o_aload 0 1) := rfl
set_option maxRecDepth 100000 in
theorem e_M_overAll_481 : ct_tab (T_M_overAll) 481 = some (o_if (fun x => x = 0) (fun x => ¬ x = 0) 495) := rfl
set_option maxRecDepth 100000 in
theorem e_M_overAll_484 : ct_tab (T_M_overAll) 484 = some (o_aload 0 1) := rfl
set_option maxRecDepth 100000 in
theorem e_M_overAll_485 : ct_tab (T_M_overAll) 485 = some (o_iload 1 1) := rfl
set_option maxRecDepth 100000 in
theorem e_M_overAll_489 : ct_tab (T_M_overAll) 489 = some (o_iinc 1 1) := rfl
set_option maxRecDepth 100000 in
theorem e_M_overAll_492 : ct_tab (T_M_overAll) 492 = some (o_goto 469) := rfl
set_option maxRecDepth 100000 in
theorem e_M_overAll_495 : ct_tab (T_M_overAll) 495 = some (o_aload 0 1) := rfl
set_option maxRecDepth 100000 in
theorem e_M_overAll_499 : ct_tab (T_M_overAll) 499 = some (o_if (fun x => x = 0) (fun x => ¬ x = 0) 523) := rfl
set_option maxRecDepth 100000 in
theorem e_M_overAll_502 : ct_tab (T_M_overAll) 502 = some (o_aload 0 1) := rfl
set_option maxRecDepth 100000 in
theorem e_M_overAll_503 : ct_tab (T_M_overAll) 503 = some (o_getI 4 24 5) := rfl
set_option maxRecDepth 100000 in
theorem e_M_overAll_506 : ct_tab (T_M_overAll) 506 = some (o_aload 0 1) := rfl
set_option maxRecDepth 100000 in
theorem e_M_overAll_507 : ct_tab (T_M_overAll) 507 = some (o_getI 4 24 3) := rfl
set_option maxRecDepth 100000 in
theorem e_M_overAll_510 : ct_tab (T_M_overAll) 510 = some (o_ic (fun x y => y ≤ x) (fun x y => ¬ y ≤ x) 523) := rfl
set_option maxRecDepth 100000 in
theorem e_M_overAll_513 : ct_tab (T_M_overAll) 513 = some (o_aload 0 1) := rfl
set_option maxRecDepth 100000 in
theorem e_M_overAll_514 : ct_tab (T_M_overAll) 514 = some (o_push (.int 6) 2) := rfl
set_option maxRecDepth 100000 in
theorem e_M_overAll_516 : ct_tab (T_M_overAll) 516 = some (o_aload 0 1) := rfl
set_option maxRecDepth 100000 in
theorem e_M_overAll_517 : ct_tab (T_M_overAll) 517 = some (o_getI 4 24 5) := rfl
theorem cl_M_overAll_8 {l : ct_Lx} {d d1 : Nat} {Post Post1 : Option Value → ct_Sg → Prop} {lv : ct_Lv} {st : List Value} {g : ct_Sg} {bc bs c1 s1 : Nat} {h : Nat} (hsh : g.2.1 h = (10 + 4, 24)) (hM : ct_Me l M_M_isGood d1 c1 s1 [.ref h] g Post1) (hdd : d1 + 1 ≤ d) (hk : (st.map fun v => v.category).sum ≤ 8) (hcc : c1 ≤ bc) (hss : s1 ≤ bs) (kk : ∀ (v : Option Value) (g' : ct_Sg), Post1 v g' → ct_Wp l M_M_overAll d Post (11, lv, v.toList ++ st, g', bc - c1, bs - s1)) : ct_Wp l M_M_overAll d Post (8, lv, .ref h :: st, g, bc, bs) := ct_Wp.callV (ci := 4) (N := 24) (T := ct_T4) (As := []) lk_M_isGood (Or.inl wd_373) wd_374 wd_375 rfl d_M_overAll_8 hsh hM rfl hdd hk hcc hss kk
theorem cl_M_overAll_16 {l : ct_Lx} {d d1 : Nat} {Post Post1 : Option Value → ct_Sg → Prop} {lv : ct_Lv} {st : List Value} {g : ct_Sg} {bc bs c1 s1 : Nat} {a1 : Value} {h : Nat} (hsh : g.2.1 h = (10 + 4, 24)) (hM : ct_Me l M_M_over d1 c1 s1 [.ref h, a1] g Post1) (hdd : d1 + 1 ≤ d) (hk : (st.map fun v => v.category).sum ≤ 8) (hcc : c1 ≤ bc) (hss : s1 ≤ bs) (kk : ∀ (v : Option Value) (g' : ct_Sg), Post1 v g' → ct_Wp l M_M_overAll d Post (19, lv, v.toList ++ st, g', bc - c1, bs - s1)) : ct_Wp l M_M_overAll d Post (16, lv, a1 :: .ref h :: st, g, bc, bs) := ct_Wp.callV (ci := 4) (N := 24) (T := ct_T4) (As := [a1]) lk_M_over (Or.inl wd_368) wd_369 wd_370 rfl d_M_overAll_16 hsh hM rfl hdd hk hcc hss kk
theorem cl_M_overAll_53 {l : ct_Lx} {d d1 : Nat} {Post Post1 : Option Value → ct_Sg → Prop} {lv : ct_Lv} {st : List Value} {g : ct_Sg} {bc bs c1 s1 : Nat} {h : Nat} (hsh : g.2.1 h = (10 + 4, 24)) (hM : ct_Me l M_M_isGood d1 c1 s1 [.ref h] g Post1) (hdd : d1 + 1 ≤ d) (hk : (st.map fun v => v.category).sum ≤ 8) (hcc : c1 ≤ bc) (hss : s1 ≤ bs) (kk : ∀ (v : Option Value) (g' : ct_Sg), Post1 v g' → ct_Wp l M_M_overAll d Post (56, lv, v.toList ++ st, g', bc - c1, bs - s1)) : ct_Wp l M_M_overAll d Post (53, lv, .ref h :: st, g, bc, bs) := ct_Wp.callV (ci := 4) (N := 24) (T := ct_T4) (As := []) lk_M_isGood (Or.inl wd_373) wd_374 wd_375 rfl d_M_overAll_53 hsh hM rfl hdd hk hcc hss kk
theorem cl_M_overAll_61 {l : ct_Lx} {d d1 : Nat} {Post Post1 : Option Value → ct_Sg → Prop} {lv : ct_Lv} {st : List Value} {g : ct_Sg} {bc bs c1 s1 : Nat} {a1 : Value} {h : Nat} (hsh : g.2.1 h = (10 + 4, 24)) (hM : ct_Me l M_M_byteAt d1 c1 s1 [.ref h, a1] g Post1) (hdd : d1 + 1 ≤ d) (hk : (st.map fun v => v.category).sum ≤ 8) (hcc : c1 ≤ bc) (hss : s1 ≤ bs) (kk : ∀ (v : Option Value) (g' : ct_Sg), Post1 v g' → ct_Wp l M_M_overAll d Post (64, lv, v.toList ++ st, g', bc - c1, bs - s1)) : ct_Wp l M_M_overAll d Post (61, lv, a1 :: .ref h :: st, g, bc, bs) := ct_Wp.callV (ci := 4) (N := 24) (T := ct_T4) (As := [a1]) lk_M_byteAt (Or.inl wd_357) wd_358 wd_359 rfl d_M_overAll_61 hsh hM rfl hdd hk hcc hss kk
theorem cl_M_overAll_71 {l : ct_Lx} {d d1 : Nat} {Post Post1 : Option Value → ct_Sg → Prop} {lv : ct_Lv} {st : List Value} {g : ct_Sg} {bc bs c1 s1 : Nat} {a1 a2 : Value} {h : Nat} (hsh : g.2.1 h = (10 + 4, 24)) (hM : ct_Me l M_M_fail d1 c1 s1 [.ref h, a1, a2] g Post1) (hdd : d1 + 1 ≤ d) (hk : (st.map fun v => v.category).sum ≤ 8) (hcc : c1 ≤ bc) (hss : s1 ≤ bs) (kk : ∀ (v : Option Value) (g' : ct_Sg), Post1 v g' → ct_Wp l M_M_overAll d Post (74, lv, v.toList ++ st, g', bc - c1, bs - s1)) : ct_Wp l M_M_overAll d Post (71, lv, a2 :: a1 :: .ref h :: st, g, bc, bs) := ct_Wp.callV (ci := 4) (N := 24) (T := ct_T4) (As := [a1, a2]) lk_M_fail (Or.inl wd_363) wd_364 wd_365 rfl d_M_overAll_71 hsh hM rfl hdd hk hcc hss kk
theorem cl_M_overAll_81 {l : ct_Lx} {d d1 : Nat} {Post Post1 : Option Value → ct_Sg → Prop} {lv : ct_Lv} {st : List Value} {g : ct_Sg} {bc bs c1 s1 : Nat} {h : Nat} (hsh : g.2.1 h = (10 + 4, 24)) (hM : ct_Me l M_M_isGood d1 c1 s1 [.ref h] g Post1) (hdd : d1 + 1 ≤ d) (hk : (st.map fun v => v.category).sum ≤ 8) (hcc : c1 ≤ bc) (hss : s1 ≤ bs) (kk : ∀ (v : Option Value) (g' : ct_Sg), Post1 v g' → ct_Wp l M_M_overAll d Post (84, lv, v.toList ++ st, g', bc - c1, bs - s1)) : ct_Wp l M_M_overAll d Post (81, lv, .ref h :: st, g, bc, bs) := ct_Wp.callV (ci := 4) (N := 24) (T := ct_T4) (As := []) lk_M_isGood (Or.inl wd_373) wd_374 wd_375 rfl d_M_overAll_81 hsh hM rfl hdd hk hcc hss kk
theorem cl_M_overAll_89 {l : ct_Lx} {d d1 : Nat} {Post Post1 : Option Value → ct_Sg → Prop} {lv : ct_Lv} {st : List Value} {g : ct_Sg} {bc bs c1 s1 : Nat} {a1 : Value} {h : Nat} (hsh : g.2.1 h = (10 + 4, 24)) (hM : ct_Me l M_M_over d1 c1 s1 [.ref h, a1] g Post1) (hdd : d1 + 1 ≤ d) (hk : (st.map fun v => v.category).sum ≤ 8) (hcc : c1 ≤ bc) (hss : s1 ≤ bs) (kk : ∀ (v : Option Value) (g' : ct_Sg), Post1 v g' → ct_Wp l M_M_overAll d Post (92, lv, v.toList ++ st, g', bc - c1, bs - s1)) : ct_Wp l M_M_overAll d Post (89, lv, a1 :: .ref h :: st, g, bc, bs) := ct_Wp.callV (ci := 4) (N := 24) (T := ct_T4) (As := [a1]) lk_M_over (Or.inl wd_368) wd_369 wd_370 rfl d_M_overAll_89 hsh hM rfl hdd hk hcc hss kk
theorem cl_M_overAll_95 {l : ct_Lx} {d d1 : Nat} {Post Post1 : Option Value → ct_Sg → Prop} {lv : ct_Lv} {st : List Value} {g : ct_Sg} {bc bs c1 s1 : Nat} {h : Nat} (hsh : g.2.1 h = (10 + 4, 24)) (hM : ct_Me l M_M_isGood d1 c1 s1 [.ref h] g Post1) (hdd : d1 + 1 ≤ d) (hk : (st.map fun v => v.category).sum ≤ 8) (hcc : c1 ≤ bc) (hss : s1 ≤ bs) (kk : ∀ (v : Option Value) (g' : ct_Sg), Post1 v g' → ct_Wp l M_M_overAll d Post (98, lv, v.toList ++ st, g', bc - c1, bs - s1)) : ct_Wp l M_M_overAll d Post (95, lv, .ref h :: st, g, bc, bs) := ct_Wp.callV (ci := 4) (N := 24) (T := ct_T4) (As := []) lk_M_isGood (Or.inl wd_373) wd_374 wd_375 rfl d_M_overAll_95 hsh hM rfl hdd hk hcc hss kk
theorem cl_M_overAll_105 {l : ct_Lx} {d d1 : Nat} {Post Post1 : Option Value → ct_Sg → Prop} {lv : ct_Lv} {st : List Value} {g : ct_Sg} {bc bs c1 s1 : Nat} {a1 a2 : Value} {h : Nat} (hsh : g.2.1 h = (10 + 4, 24)) (hM : ct_Me l M_M_count d1 c1 s1 [.ref h, a1, a2] g Post1) (hdd : d1 + 1 ≤ d) (hk : (st.map fun v => v.category).sum ≤ 8) (hcc : c1 ≤ bc) (hss : s1 ≤ bs) (kk : ∀ (v : Option Value) (g' : ct_Sg), Post1 v g' → ct_Wp l M_M_overAll d Post (108, lv, v.toList ++ st, g', bc - c1, bs - s1)) : ct_Wp l M_M_overAll d Post (105, lv, a2 :: a1 :: .ref h :: st, g, bc, bs) := ct_Wp.callV (ci := 4) (N := 24) (T := ct_T4) (As := [a1, a2]) lk_M_count (Or.inl wd_378) wd_379 wd_380 rfl d_M_overAll_105 hsh hM rfl hdd hk hcc hss kk
theorem cl_M_overAll_126 {l : ct_Lx} {d d1 : Nat} {Post Post1 : Option Value → ct_Sg → Prop} {lv : ct_Lv} {st : List Value} {g : ct_Sg} {bc bs c1 s1 : Nat} {h : Nat} (hsh : g.2.1 h = (10 + 4, 24)) (hM : ct_Me l M_M_isGood d1 c1 s1 [.ref h] g Post1) (hdd : d1 + 1 ≤ d) (hk : (st.map fun v => v.category).sum ≤ 8) (hcc : c1 ≤ bc) (hss : s1 ≤ bs) (kk : ∀ (v : Option Value) (g' : ct_Sg), Post1 v g' → ct_Wp l M_M_overAll d Post (129, lv, v.toList ++ st, g', bc - c1, bs - s1)) : ct_Wp l M_M_overAll d Post (126, lv, .ref h :: st, g, bc, bs) := ct_Wp.callV (ci := 4) (N := 24) (T := ct_T4) (As := []) lk_M_isGood (Or.inl wd_373) wd_374 wd_375 rfl d_M_overAll_126 hsh hM rfl hdd hk hcc hss kk
theorem cl_M_overAll_146 {l : ct_Lx} {d d1 : Nat} {Post Post1 : Option Value → ct_Sg → Prop} {lv : ct_Lv} {st : List Value} {g : ct_Sg} {bc bs c1 s1 : Nat} {a1 a2 : Value} {h : Nat} (hsh : g.2.1 h = (10 + 4, 24)) (hM : ct_Me l M_M_count d1 c1 s1 [.ref h, a1, a2] g Post1) (hdd : d1 + 1 ≤ d) (hk : (st.map fun v => v.category).sum ≤ 8) (hcc : c1 ≤ bc) (hss : s1 ≤ bs) (kk : ∀ (v : Option Value) (g' : ct_Sg), Post1 v g' → ct_Wp l M_M_overAll d Post (149, lv, v.toList ++ st, g', bc - c1, bs - s1)) : ct_Wp l M_M_overAll d Post (146, lv, a2 :: a1 :: .ref h :: st, g, bc, bs) := ct_Wp.callV (ci := 4) (N := 24) (T := ct_T4) (As := [a1, a2]) lk_M_count (Or.inl wd_378) wd_379 wd_380 rfl d_M_overAll_146 hsh hM rfl hdd hk hcc hss kk
theorem cl_M_overAll_151 {l : ct_Lx} {d d1 : Nat} {Post Post1 : Option Value → ct_Sg → Prop} {lv : ct_Lv} {st : List Value} {g : ct_Sg} {bc bs c1 s1 : Nat} {h : Nat} (hsh : g.2.1 h = (10 + 4, 24)) (hM : ct_Me l M_M_isGood d1 c1 s1 [.ref h] g Post1) (hdd : d1 + 1 ≤ d) (hk : (st.map fun v => v.category).sum ≤ 8) (hcc : c1 ≤ bc) (hss : s1 ≤ bs) (kk : ∀ (v : Option Value) (g' : ct_Sg), Post1 v g' → ct_Wp l M_M_overAll d Post (154, lv, v.toList ++ st, g', bc - c1, bs - s1)) : ct_Wp l M_M_overAll d Post (151, lv, .ref h :: st, g, bc, bs) := ct_Wp.callV (ci := 4) (N := 24) (T := ct_T4) (As := []) lk_M_isGood (Or.inl wd_373) wd_374 wd_375 rfl d_M_overAll_151 hsh hM rfl hdd hk hcc hss kk
theorem cl_M_overAll_161 {l : ct_Lx} {d d1 : Nat} {Post Post1 : Option Value → ct_Sg → Prop} {lv : ct_Lv} {st : List Value} {g : ct_Sg} {bc bs c1 s1 : Nat} {a1 a2 : Value} {h : Nat} (hsh : g.2.1 h = (10 + 4, 24)) (hM : ct_Me l M_M_count d1 c1 s1 [.ref h, a1, a2] g Post1) (hdd : d1 + 1 ≤ d) (hk : (st.map fun v => v.category).sum ≤ 8) (hcc : c1 ≤ bc) (hss : s1 ≤ bs) (kk : ∀ (v : Option Value) (g' : ct_Sg), Post1 v g' → ct_Wp l M_M_overAll d Post (164, lv, v.toList ++ st, g', bc - c1, bs - s1)) : ct_Wp l M_M_overAll d Post (161, lv, a2 :: a1 :: .ref h :: st, g, bc, bs) := ct_Wp.callV (ci := 4) (N := 24) (T := ct_T4) (As := [a1, a2]) lk_M_count (Or.inl wd_378) wd_379 wd_380 rfl d_M_overAll_161 hsh hM rfl hdd hk hcc hss kk
theorem cl_M_overAll_177 {l : ct_Lx} {d d1 : Nat} {Post Post1 : Option Value → ct_Sg → Prop} {lv : ct_Lv} {st : List Value} {g : ct_Sg} {bc bs c1 s1 : Nat} {h : Nat} (hsh : g.2.1 h = (10 + 4, 24)) (hM : ct_Me l M_M_isGood d1 c1 s1 [.ref h] g Post1) (hdd : d1 + 1 ≤ d) (hk : (st.map fun v => v.category).sum ≤ 8) (hcc : c1 ≤ bc) (hss : s1 ≤ bs) (kk : ∀ (v : Option Value) (g' : ct_Sg), Post1 v g' → ct_Wp l M_M_overAll d Post (180, lv, v.toList ++ st, g', bc - c1, bs - s1)) : ct_Wp l M_M_overAll d Post (177, lv, .ref h :: st, g, bc, bs) := ct_Wp.callV (ci := 4) (N := 24) (T := ct_T4) (As := []) lk_M_isGood (Or.inl wd_373) wd_374 wd_375 rfl d_M_overAll_177 hsh hM rfl hdd hk hcc hss kk
theorem cl_M_overAll_185 {l : ct_Lx} {d d1 : Nat} {Post Post1 : Option Value → ct_Sg → Prop} {lv : ct_Lv} {st : List Value} {g : ct_Sg} {bc bs c1 s1 : Nat} {a1 : Value} {h : Nat} (hsh : g.2.1 h = (10 + 4, 24)) (hM : ct_Me l M_M_overType d1 c1 s1 [.ref h, a1] g Post1) (hdd : d1 + 1 ≤ d) (hk : (st.map fun v => v.category).sum ≤ 8) (hcc : c1 ≤ bc) (hss : s1 ≤ bs) (kk : ∀ (v : Option Value) (g' : ct_Sg), Post1 v g' → ct_Wp l M_M_overAll d Post (188, lv, v.toList ++ st, g', bc - c1, bs - s1)) : ct_Wp l M_M_overAll d Post (185, lv, a1 :: .ref h :: st, g, bc, bs) := ct_Wp.callV (ci := 4) (N := 24) (T := ct_T4) (As := [a1]) lk_M_overType (Or.inl wd_383) wd_384 wd_385 rfl d_M_overAll_185 hsh hM rfl hdd hk hcc hss kk
theorem cl_M_overAll_202 {l : ct_Lx} {d d1 : Nat} {Post Post1 : Option Value → ct_Sg → Prop} {lv : ct_Lv} {st : List Value} {g : ct_Sg} {bc bs c1 s1 : Nat} {h : Nat} (hsh : g.2.1 h = (10 + 4, 24)) (hM : ct_Me l M_M_isGood d1 c1 s1 [.ref h] g Post1) (hdd : d1 + 1 ≤ d) (hk : (st.map fun v => v.category).sum ≤ 8) (hcc : c1 ≤ bc) (hss : s1 ≤ bs) (kk : ∀ (v : Option Value) (g' : ct_Sg), Post1 v g' → ct_Wp l M_M_overAll d Post (205, lv, v.toList ++ st, g', bc - c1, bs - s1)) : ct_Wp l M_M_overAll d Post (202, lv, .ref h :: st, g, bc, bs) := ct_Wp.callV (ci := 4) (N := 24) (T := ct_T4) (As := []) lk_M_isGood (Or.inl wd_373) wd_374 wd_375 rfl d_M_overAll_202 hsh hM rfl hdd hk hcc hss kk
theorem cl_M_overAll_212 {l : ct_Lx} {d d1 : Nat} {Post Post1 : Option Value → ct_Sg → Prop} {lv : ct_Lv} {st : List Value} {g : ct_Sg} {bc bs c1 s1 : Nat} {a1 a2 : Value} {h : Nat} (hsh : g.2.1 h = (10 + 4, 24)) (hM : ct_Me l M_M_count d1 c1 s1 [.ref h, a1, a2] g Post1) (hdd : d1 + 1 ≤ d) (hk : (st.map fun v => v.category).sum ≤ 8) (hcc : c1 ≤ bc) (hss : s1 ≤ bs) (kk : ∀ (v : Option Value) (g' : ct_Sg), Post1 v g' → ct_Wp l M_M_overAll d Post (215, lv, v.toList ++ st, g', bc - c1, bs - s1)) : ct_Wp l M_M_overAll d Post (212, lv, a2 :: a1 :: .ref h :: st, g, bc, bs) := ct_Wp.callV (ci := 4) (N := 24) (T := ct_T4) (As := [a1, a2]) lk_M_count (Or.inl wd_378) wd_379 wd_380 rfl d_M_overAll_212 hsh hM rfl hdd hk hcc hss kk
theorem cl_M_overAll_233 {l : ct_Lx} {d d1 : Nat} {Post Post1 : Option Value → ct_Sg → Prop} {lv : ct_Lv} {st : List Value} {g : ct_Sg} {bc bs c1 s1 : Nat} {h : Nat} (hsh : g.2.1 h = (10 + 4, 24)) (hM : ct_Me l M_M_isGood d1 c1 s1 [.ref h] g Post1) (hdd : d1 + 1 ≤ d) (hk : (st.map fun v => v.category).sum ≤ 8) (hcc : c1 ≤ bc) (hss : s1 ≤ bs) (kk : ∀ (v : Option Value) (g' : ct_Sg), Post1 v g' → ct_Wp l M_M_overAll d Post (236, lv, v.toList ++ st, g', bc - c1, bs - s1)) : ct_Wp l M_M_overAll d Post (233, lv, .ref h :: st, g, bc, bs) := ct_Wp.callV (ci := 4) (N := 24) (T := ct_T4) (As := []) lk_M_isGood (Or.inl wd_373) wd_374 wd_375 rfl d_M_overAll_233 hsh hM rfl hdd hk hcc hss kk
theorem cl_M_overAll_256 {l : ct_Lx} {d d1 : Nat} {Post Post1 : Option Value → ct_Sg → Prop} {lv : ct_Lv} {st : List Value} {g : ct_Sg} {bc bs c1 s1 : Nat} {a1 : Value} {h : Nat} (hsh : g.2.1 h = (10 + 4, 24)) (hM : ct_Me l M_M_over d1 c1 s1 [.ref h, a1] g Post1) (hdd : d1 + 1 ≤ d) (hk : (st.map fun v => v.category).sum ≤ 8) (hcc : c1 ≤ bc) (hss : s1 ≤ bs) (kk : ∀ (v : Option Value) (g' : ct_Sg), Post1 v g' → ct_Wp l M_M_overAll d Post (259, lv, v.toList ++ st, g', bc - c1, bs - s1)) : ct_Wp l M_M_overAll d Post (256, lv, a1 :: .ref h :: st, g, bc, bs) := ct_Wp.callV (ci := 4) (N := 24) (T := ct_T4) (As := [a1]) lk_M_over (Or.inl wd_368) wd_369 wd_370 rfl d_M_overAll_256 hsh hM rfl hdd hk hcc hss kk
theorem cl_M_overAll_261 {l : ct_Lx} {d d1 : Nat} {Post Post1 : Option Value → ct_Sg → Prop} {lv : ct_Lv} {st : List Value} {g : ct_Sg} {bc bs c1 s1 : Nat} {h : Nat} (hsh : g.2.1 h = (10 + 4, 24)) (hM : ct_Me l M_M_isGood d1 c1 s1 [.ref h] g Post1) (hdd : d1 + 1 ≤ d) (hk : (st.map fun v => v.category).sum ≤ 8) (hcc : c1 ≤ bc) (hss : s1 ≤ bs) (kk : ∀ (v : Option Value) (g' : ct_Sg), Post1 v g' → ct_Wp l M_M_overAll d Post (264, lv, v.toList ++ st, g', bc - c1, bs - s1)) : ct_Wp l M_M_overAll d Post (261, lv, .ref h :: st, g, bc, bs) := ct_Wp.callV (ci := 4) (N := 24) (T := ct_T4) (As := []) lk_M_isGood (Or.inl wd_373) wd_374 wd_375 rfl d_M_overAll_261 hsh hM rfl hdd hk hcc hss kk
theorem cl_M_overAll_271 {l : ct_Lx} {d d1 : Nat} {Post Post1 : Option Value → ct_Sg → Prop} {lv : ct_Lv} {st : List Value} {g : ct_Sg} {bc bs c1 s1 : Nat} {a1 a2 : Value} {h : Nat} (hsh : g.2.1 h = (10 + 4, 24)) (hM : ct_Me l M_M_count d1 c1 s1 [.ref h, a1, a2] g Post1) (hdd : d1 + 1 ≤ d) (hk : (st.map fun v => v.category).sum ≤ 8) (hcc : c1 ≤ bc) (hss : s1 ≤ bs) (kk : ∀ (v : Option Value) (g' : ct_Sg), Post1 v g' → ct_Wp l M_M_overAll d Post (274, lv, v.toList ++ st, g', bc - c1, bs - s1)) : ct_Wp l M_M_overAll d Post (271, lv, a2 :: a1 :: .ref h :: st, g, bc, bs) := ct_Wp.callV (ci := 4) (N := 24) (T := ct_T4) (As := [a1, a2]) lk_M_count (Or.inl wd_378) wd_379 wd_380 rfl d_M_overAll_271 hsh hM rfl hdd hk hcc hss kk
theorem cl_M_overAll_283 {l : ct_Lx} {d d1 : Nat} {Post Post1 : Option Value → ct_Sg → Prop} {lv : ct_Lv} {st : List Value} {g : ct_Sg} {bc bs c1 s1 : Nat} {h : Nat} (hsh : g.2.1 h = (10 + 4, 24)) (hM : ct_Me l M_M_isGood d1 c1 s1 [.ref h] g Post1) (hdd : d1 + 1 ≤ d) (hk : (st.map fun v => v.category).sum ≤ 8) (hcc : c1 ≤ bc) (hss : s1 ≤ bs) (kk : ∀ (v : Option Value) (g' : ct_Sg), Post1 v g' → ct_Wp l M_M_overAll d Post (286, lv, v.toList ++ st, g', bc - c1, bs - s1)) : ct_Wp l M_M_overAll d Post (283, lv, .ref h :: st, g, bc, bs) := ct_Wp.callV (ci := 4) (N := 24) (T := ct_T4) (As := []) lk_M_isGood (Or.inl wd_373) wd_374 wd_375 rfl d_M_overAll_283 hsh hM rfl hdd hk hcc hss kk
theorem cl_M_overAll_293 {l : ct_Lx} {d d1 : Nat} {Post Post1 : Option Value → ct_Sg → Prop} {lv : ct_Lv} {st : List Value} {g : ct_Sg} {bc bs c1 s1 : Nat} {a1 a2 : Value} {h : Nat} (hsh : g.2.1 h = (10 + 4, 24)) (hM : ct_Me l M_M_count d1 c1 s1 [.ref h, a1, a2] g Post1) (hdd : d1 + 1 ≤ d) (hk : (st.map fun v => v.category).sum ≤ 8) (hcc : c1 ≤ bc) (hss : s1 ≤ bs) (kk : ∀ (v : Option Value) (g' : ct_Sg), Post1 v g' → ct_Wp l M_M_overAll d Post (296, lv, v.toList ++ st, g', bc - c1, bs - s1)) : ct_Wp l M_M_overAll d Post (293, lv, a2 :: a1 :: .ref h :: st, g, bc, bs) := ct_Wp.callV (ci := 4) (N := 24) (T := ct_T4) (As := [a1, a2]) lk_M_count (Or.inl wd_378) wd_379 wd_380 rfl d_M_overAll_293 hsh hM rfl hdd hk hcc hss kk
theorem cl_M_overAll_314 {l : ct_Lx} {d d1 : Nat} {Post Post1 : Option Value → ct_Sg → Prop} {lv : ct_Lv} {st : List Value} {g : ct_Sg} {bc bs c1 s1 : Nat} {h : Nat} (hsh : g.2.1 h = (10 + 4, 24)) (hM : ct_Me l M_M_isGood d1 c1 s1 [.ref h] g Post1) (hdd : d1 + 1 ≤ d) (hk : (st.map fun v => v.category).sum ≤ 8) (hcc : c1 ≤ bc) (hss : s1 ≤ bs) (kk : ∀ (v : Option Value) (g' : ct_Sg), Post1 v g' → ct_Wp l M_M_overAll d Post (317, lv, v.toList ++ st, g', bc - c1, bs - s1)) : ct_Wp l M_M_overAll d Post (314, lv, .ref h :: st, g, bc, bs) := ct_Wp.callV (ci := 4) (N := 24) (T := ct_T4) (As := []) lk_M_isGood (Or.inl wd_373) wd_374 wd_375 rfl d_M_overAll_314 hsh hM rfl hdd hk hcc hss kk
theorem cl_M_overAll_332 {l : ct_Lx} {d d1 : Nat} {Post Post1 : Option Value → ct_Sg → Prop} {lv : ct_Lv} {st : List Value} {g : ct_Sg} {bc bs c1 s1 : Nat} {a1 : Value} {h : Nat} (hsh : g.2.1 h = (10 + 4, 24)) (hM : ct_Me l M_M_over d1 c1 s1 [.ref h, a1] g Post1) (hdd : d1 + 1 ≤ d) (hk : (st.map fun v => v.category).sum ≤ 8) (hcc : c1 ≤ bc) (hss : s1 ≤ bs) (kk : ∀ (v : Option Value) (g' : ct_Sg), Post1 v g' → ct_Wp l M_M_overAll d Post (335, lv, v.toList ++ st, g', bc - c1, bs - s1)) : ct_Wp l M_M_overAll d Post (332, lv, a1 :: .ref h :: st, g, bc, bs) := ct_Wp.callV (ci := 4) (N := 24) (T := ct_T4) (As := [a1]) lk_M_over (Or.inl wd_368) wd_369 wd_370 rfl d_M_overAll_332 hsh hM rfl hdd hk hcc hss kk
theorem cl_M_overAll_337 {l : ct_Lx} {d d1 : Nat} {Post Post1 : Option Value → ct_Sg → Prop} {lv : ct_Lv} {st : List Value} {g : ct_Sg} {bc bs c1 s1 : Nat} {h : Nat} (hsh : g.2.1 h = (10 + 4, 24)) (hM : ct_Me l M_M_isGood d1 c1 s1 [.ref h] g Post1) (hdd : d1 + 1 ≤ d) (hk : (st.map fun v => v.category).sum ≤ 8) (hcc : c1 ≤ bc) (hss : s1 ≤ bs) (kk : ∀ (v : Option Value) (g' : ct_Sg), Post1 v g' → ct_Wp l M_M_overAll d Post (340, lv, v.toList ++ st, g', bc - c1, bs - s1)) : ct_Wp l M_M_overAll d Post (337, lv, .ref h :: st, g, bc, bs) := ct_Wp.callV (ci := 4) (N := 24) (T := ct_T4) (As := []) lk_M_isGood (Or.inl wd_373) wd_374 wd_375 rfl d_M_overAll_337 hsh hM rfl hdd hk hcc hss kk
theorem cl_M_overAll_347 {l : ct_Lx} {d d1 : Nat} {Post Post1 : Option Value → ct_Sg → Prop} {lv : ct_Lv} {st : List Value} {g : ct_Sg} {bc bs c1 s1 : Nat} {a1 a2 : Value} {h : Nat} (hsh : g.2.1 h = (10 + 4, 24)) (hM : ct_Me l M_M_count d1 c1 s1 [.ref h, a1, a2] g Post1) (hdd : d1 + 1 ≤ d) (hk : (st.map fun v => v.category).sum ≤ 8) (hcc : c1 ≤ bc) (hss : s1 ≤ bs) (kk : ∀ (v : Option Value) (g' : ct_Sg), Post1 v g' → ct_Wp l M_M_overAll d Post (350, lv, v.toList ++ st, g', bc - c1, bs - s1)) : ct_Wp l M_M_overAll d Post (347, lv, a2 :: a1 :: .ref h :: st, g, bc, bs) := ct_Wp.callV (ci := 4) (N := 24) (T := ct_T4) (As := [a1, a2]) lk_M_count (Or.inl wd_378) wd_379 wd_380 rfl d_M_overAll_347 hsh hM rfl hdd hk hcc hss kk
theorem cl_M_overAll_352 {l : ct_Lx} {d d1 : Nat} {Post Post1 : Option Value → ct_Sg → Prop} {lv : ct_Lv} {st : List Value} {g : ct_Sg} {bc bs c1 s1 : Nat} {h : Nat} (hsh : g.2.1 h = (10 + 4, 24)) (hM : ct_Me l M_M_isGood d1 c1 s1 [.ref h] g Post1) (hdd : d1 + 1 ≤ d) (hk : (st.map fun v => v.category).sum ≤ 8) (hcc : c1 ≤ bc) (hss : s1 ≤ bs) (kk : ∀ (v : Option Value) (g' : ct_Sg), Post1 v g' → ct_Wp l M_M_overAll d Post (355, lv, v.toList ++ st, g', bc - c1, bs - s1)) : ct_Wp l M_M_overAll d Post (352, lv, .ref h :: st, g, bc, bs) := ct_Wp.callV (ci := 4) (N := 24) (T := ct_T4) (As := []) lk_M_isGood (Or.inl wd_373) wd_374 wd_375 rfl d_M_overAll_352 hsh hM rfl hdd hk hcc hss kk
theorem cl_M_overAll_362 {l : ct_Lx} {d d1 : Nat} {Post Post1 : Option Value → ct_Sg → Prop} {lv : ct_Lv} {st : List Value} {g : ct_Sg} {bc bs c1 s1 : Nat} {a1 a2 : Value} {h : Nat} (hsh : g.2.1 h = (10 + 4, 24)) (hM : ct_Me l M_M_overList d1 c1 s1 [.ref h, a1, a2] g Post1) (hdd : d1 + 1 ≤ d) (hk : (st.map fun v => v.category).sum ≤ 8) (hcc : c1 ≤ bc) (hss : s1 ≤ bs) (kk : ∀ (v : Option Value) (g' : ct_Sg), Post1 v g' → ct_Wp l M_M_overAll d Post (365, lv, v.toList ++ st, g', bc - c1, bs - s1)) : ct_Wp l M_M_overAll d Post (362, lv, a2 :: a1 :: .ref h :: st, g, bc, bs) := ct_Wp.callV (ci := 4) (N := 24) (T := ct_T4) (As := [a1, a2]) lk_M_overList (Or.inl wd_408) wd_409 wd_410 rfl d_M_overAll_362 hsh hM rfl hdd hk hcc hss kk
theorem cl_M_overAll_366 {l : ct_Lx} {d d1 : Nat} {Post Post1 : Option Value → ct_Sg → Prop} {lv : ct_Lv} {st : List Value} {g : ct_Sg} {bc bs c1 s1 : Nat} {h : Nat} (hsh : g.2.1 h = (10 + 4, 24)) (hM : ct_Me l M_M_isGood d1 c1 s1 [.ref h] g Post1) (hdd : d1 + 1 ≤ d) (hk : (st.map fun v => v.category).sum ≤ 8) (hcc : c1 ≤ bc) (hss : s1 ≤ bs) (kk : ∀ (v : Option Value) (g' : ct_Sg), Post1 v g' → ct_Wp l M_M_overAll d Post (369, lv, v.toList ++ st, g', bc - c1, bs - s1)) : ct_Wp l M_M_overAll d Post (366, lv, .ref h :: st, g, bc, bs) := ct_Wp.callV (ci := 4) (N := 24) (T := ct_T4) (As := []) lk_M_isGood (Or.inl wd_373) wd_374 wd_375 rfl d_M_overAll_366 hsh hM rfl hdd hk hcc hss kk
theorem cl_M_overAll_376 {l : ct_Lx} {d d1 : Nat} {Post Post1 : Option Value → ct_Sg → Prop} {lv : ct_Lv} {st : List Value} {g : ct_Sg} {bc bs c1 s1 : Nat} {a1 a2 : Value} {h : Nat} (hsh : g.2.1 h = (10 + 4, 24)) (hM : ct_Me l M_M_overList d1 c1 s1 [.ref h, a1, a2] g Post1) (hdd : d1 + 1 ≤ d) (hk : (st.map fun v => v.category).sum ≤ 8) (hcc : c1 ≤ bc) (hss : s1 ≤ bs) (kk : ∀ (v : Option Value) (g' : ct_Sg), Post1 v g' → ct_Wp l M_M_overAll d Post (379, lv, v.toList ++ st, g', bc - c1, bs - s1)) : ct_Wp l M_M_overAll d Post (376, lv, a2 :: a1 :: .ref h :: st, g, bc, bs) := ct_Wp.callV (ci := 4) (N := 24) (T := ct_T4) (As := [a1, a2]) lk_M_overList (Or.inl wd_408) wd_409 wd_410 rfl d_M_overAll_376 hsh hM rfl hdd hk hcc hss kk
theorem cl_M_overAll_387 {l : ct_Lx} {d d1 : Nat} {Post Post1 : Option Value → ct_Sg → Prop} {lv : ct_Lv} {st : List Value} {g : ct_Sg} {bc bs c1 s1 : Nat} {h : Nat} (hsh : g.2.1 h = (10 + 4, 24)) (hM : ct_Me l M_M_isGood d1 c1 s1 [.ref h] g Post1) (hdd : d1 + 1 ≤ d) (hk : (st.map fun v => v.category).sum ≤ 8) (hcc : c1 ≤ bc) (hss : s1 ≤ bs) (kk : ∀ (v : Option Value) (g' : ct_Sg), Post1 v g' → ct_Wp l M_M_overAll d Post (390, lv, v.toList ++ st, g', bc - c1, bs - s1)) : ct_Wp l M_M_overAll d Post (387, lv, .ref h :: st, g, bc, bs) := ct_Wp.callV (ci := 4) (N := 24) (T := ct_T4) (As := []) lk_M_isGood (Or.inl wd_373) wd_374 wd_375 rfl d_M_overAll_387 hsh hM rfl hdd hk hcc hss kk
theorem cl_M_overAll_397 {l : ct_Lx} {d d1 : Nat} {Post Post1 : Option Value → ct_Sg → Prop} {lv : ct_Lv} {st : List Value} {g : ct_Sg} {bc bs c1 s1 : Nat} {a1 a2 : Value} {h : Nat} (hsh : g.2.1 h = (10 + 4, 24)) (hM : ct_Me l M_M_count d1 c1 s1 [.ref h, a1, a2] g Post1) (hdd : d1 + 1 ≤ d) (hk : (st.map fun v => v.category).sum ≤ 8) (hcc : c1 ≤ bc) (hss : s1 ≤ bs) (kk : ∀ (v : Option Value) (g' : ct_Sg), Post1 v g' → ct_Wp l M_M_overAll d Post (400, lv, v.toList ++ st, g', bc - c1, bs - s1)) : ct_Wp l M_M_overAll d Post (397, lv, a2 :: a1 :: .ref h :: st, g, bc, bs) := ct_Wp.callV (ci := 4) (N := 24) (T := ct_T4) (As := [a1, a2]) lk_M_count (Or.inl wd_378) wd_379 wd_380 rfl d_M_overAll_397 hsh hM rfl hdd hk hcc hss kk
theorem cl_M_overAll_418 {l : ct_Lx} {d d1 : Nat} {Post Post1 : Option Value → ct_Sg → Prop} {lv : ct_Lv} {st : List Value} {g : ct_Sg} {bc bs c1 s1 : Nat} {h : Nat} (hsh : g.2.1 h = (10 + 4, 24)) (hM : ct_Me l M_M_isGood d1 c1 s1 [.ref h] g Post1) (hdd : d1 + 1 ≤ d) (hk : (st.map fun v => v.category).sum ≤ 8) (hcc : c1 ≤ bc) (hss : s1 ≤ bs) (kk : ∀ (v : Option Value) (g' : ct_Sg), Post1 v g' → ct_Wp l M_M_overAll d Post (421, lv, v.toList ++ st, g', bc - c1, bs - s1)) : ct_Wp l M_M_overAll d Post (418, lv, .ref h :: st, g, bc, bs) := ct_Wp.callV (ci := 4) (N := 24) (T := ct_T4) (As := []) lk_M_isGood (Or.inl wd_373) wd_374 wd_375 rfl d_M_overAll_418 hsh hM rfl hdd hk hcc hss kk
theorem cl_M_overAll_436 {l : ct_Lx} {d d1 : Nat} {Post Post1 : Option Value → ct_Sg → Prop} {lv : ct_Lv} {st : List Value} {g : ct_Sg} {bc bs c1 s1 : Nat} {a1 : Value} {h : Nat} (hsh : g.2.1 h = (10 + 4, 24)) (hM : ct_Me l M_M_overType d1 c1 s1 [.ref h, a1] g Post1) (hdd : d1 + 1 ≤ d) (hk : (st.map fun v => v.category).sum ≤ 8) (hcc : c1 ≤ bc) (hss : s1 ≤ bs) (kk : ∀ (v : Option Value) (g' : ct_Sg), Post1 v g' → ct_Wp l M_M_overAll d Post (439, lv, v.toList ++ st, g', bc - c1, bs - s1)) : ct_Wp l M_M_overAll d Post (436, lv, a1 :: .ref h :: st, g, bc, bs) := ct_Wp.callV (ci := 4) (N := 24) (T := ct_T4) (As := [a1]) lk_M_overType (Or.inl wd_383) wd_384 wd_385 rfl d_M_overAll_436 hsh hM rfl hdd hk hcc hss kk
theorem cl_M_overAll_447 {l : ct_Lx} {d d1 : Nat} {Post Post1 : Option Value → ct_Sg → Prop} {lv : ct_Lv} {st : List Value} {g : ct_Sg} {bc bs c1 s1 : Nat} {h : Nat} (hsh : g.2.1 h = (10 + 4, 24)) (hM : ct_Me l M_M_isGood d1 c1 s1 [.ref h] g Post1) (hdd : d1 + 1 ≤ d) (hk : (st.map fun v => v.category).sum ≤ 8) (hcc : c1 ≤ bc) (hss : s1 ≤ bs) (kk : ∀ (v : Option Value) (g' : ct_Sg), Post1 v g' → ct_Wp l M_M_overAll d Post (450, lv, v.toList ++ st, g', bc - c1, bs - s1)) : ct_Wp l M_M_overAll d Post (447, lv, .ref h :: st, g, bc, bs) := ct_Wp.callV (ci := 4) (N := 24) (T := ct_T4) (As := []) lk_M_isGood (Or.inl wd_373) wd_374 wd_375 rfl d_M_overAll_447 hsh hM rfl hdd hk hcc hss kk
theorem cl_M_overAll_457 {l : ct_Lx} {d d1 : Nat} {Post Post1 : Option Value → ct_Sg → Prop} {lv : ct_Lv} {st : List Value} {g : ct_Sg} {bc bs c1 s1 : Nat} {a1 a2 : Value} {h : Nat} (hsh : g.2.1 h = (10 + 4, 24)) (hM : ct_Me l M_M_count d1 c1 s1 [.ref h, a1, a2] g Post1) (hdd : d1 + 1 ≤ d) (hk : (st.map fun v => v.category).sum ≤ 8) (hcc : c1 ≤ bc) (hss : s1 ≤ bs) (kk : ∀ (v : Option Value) (g' : ct_Sg), Post1 v g' → ct_Wp l M_M_overAll d Post (460, lv, v.toList ++ st, g', bc - c1, bs - s1)) : ct_Wp l M_M_overAll d Post (457, lv, a2 :: a1 :: .ref h :: st, g, bc, bs) := ct_Wp.callV (ci := 4) (N := 24) (T := ct_T4) (As := [a1, a2]) lk_M_count (Or.inl wd_378) wd_379 wd_380 rfl d_M_overAll_457 hsh hM rfl hdd hk hcc hss kk
theorem cl_M_overAll_478 {l : ct_Lx} {d d1 : Nat} {Post Post1 : Option Value → ct_Sg → Prop} {lv : ct_Lv} {st : List Value} {g : ct_Sg} {bc bs c1 s1 : Nat} {h : Nat} (hsh : g.2.1 h = (10 + 4, 24)) (hM : ct_Me l M_M_isGood d1 c1 s1 [.ref h] g Post1) (hdd : d1 + 1 ≤ d) (hk : (st.map fun v => v.category).sum ≤ 8) (hcc : c1 ≤ bc) (hss : s1 ≤ bs) (kk : ∀ (v : Option Value) (g' : ct_Sg), Post1 v g' → ct_Wp l M_M_overAll d Post (481, lv, v.toList ++ st, g', bc - c1, bs - s1)) : ct_Wp l M_M_overAll d Post (478, lv, .ref h :: st, g, bc, bs) := ct_Wp.callV (ci := 4) (N := 24) (T := ct_T4) (As := []) lk_M_isGood (Or.inl wd_373) wd_374 wd_375 rfl d_M_overAll_478 hsh hM rfl hdd hk hcc hss kk
theorem cl_M_overAll_486 {l : ct_Lx} {d d1 : Nat} {Post Post1 : Option Value → ct_Sg → Prop} {lv : ct_Lv} {st : List Value} {g : ct_Sg} {bc bs c1 s1 : Nat} {a1 : Value} {h : Nat} (hsh : g.2.1 h = (10 + 4, 24)) (hM : ct_Me l M_M_overFunction d1 c1 s1 [.ref h, a1] g Post1) (hdd : d1 + 1 ≤ d) (hk : (st.map fun v => v.category).sum ≤ 8) (hcc : c1 ≤ bc) (hss : s1 ≤ bs) (kk : ∀ (v : Option Value) (g' : ct_Sg), Post1 v g' → ct_Wp l M_M_overAll d Post (489, lv, v.toList ++ st, g', bc - c1, bs - s1)) : ct_Wp l M_M_overAll d Post (486, lv, a1 :: .ref h :: st, g, bc, bs) := ct_Wp.callV (ci := 4) (N := 24) (T := ct_T4) (As := [a1]) lk_M_overFunction (Or.inl wd_418) wd_419 wd_420 rfl d_M_overAll_486 hsh hM rfl hdd hk hcc hss kk
theorem cl_M_overAll_496 {l : ct_Lx} {d d1 : Nat} {Post Post1 : Option Value → ct_Sg → Prop} {lv : ct_Lv} {st : List Value} {g : ct_Sg} {bc bs c1 s1 : Nat} {h : Nat} (hsh : g.2.1 h = (10 + 4, 24)) (hM : ct_Me l M_M_isGood d1 c1 s1 [.ref h] g Post1) (hdd : d1 + 1 ≤ d) (hk : (st.map fun v => v.category).sum ≤ 8) (hcc : c1 ≤ bc) (hss : s1 ≤ bs) (kk : ∀ (v : Option Value) (g' : ct_Sg), Post1 v g' → ct_Wp l M_M_overAll d Post (499, lv, v.toList ++ st, g', bc - c1, bs - s1)) : ct_Wp l M_M_overAll d Post (496, lv, .ref h :: st, g, bc, bs) := ct_Wp.callV (ci := 4) (N := 24) (T := ct_T4) (As := []) lk_M_isGood (Or.inl wd_373) wd_374 wd_375 rfl d_M_overAll_496 hsh hM rfl hdd hk hcc hss kk
theorem cl_M_overAll_520 {l : ct_Lx} {d d1 : Nat} {Post Post1 : Option Value → ct_Sg → Prop} {lv : ct_Lv} {st : List Value} {g : ct_Sg} {bc bs c1 s1 : Nat} {a1 a2 : Value} {h : Nat} (hsh : g.2.1 h = (10 + 4, 24)) (hM : ct_Me l M_M_fail d1 c1 s1 [.ref h, a1, a2] g Post1) (hdd : d1 + 1 ≤ d) (hk : (st.map fun v => v.category).sum ≤ 8) (hcc : c1 ≤ bc) (hss : s1 ≤ bs) (kk : ∀ (v : Option Value) (g' : ct_Sg), Post1 v g' → ct_Wp l M_M_overAll d Post (523, lv, v.toList ++ st, g', bc - c1, bs - s1)) : ct_Wp l M_M_overAll d Post (520, lv, a2 :: a1 :: .ref h :: st, g, bc, bs) := ct_Wp.callV (ci := 4) (N := 24) (T := ct_T4) (As := [a1, a2]) lk_M_fail (Or.inl wd_363) wd_364 wd_365 rfl d_M_overAll_520 hsh hM rfl hdd hk hcc hss kk
theorem d_M_typeEnd_0 : decode prog_7_method_16_code 0 = .ok (.iload_n 1, 1) := by decide +kernel
theorem d_M_typeEnd_1 : decode prog_7_method_16_code 1 = .ok (.istore_n 2, 1) := by decide +kernel
theorem d_M_typeEnd_2 : decode prog_7_method_16_code 2 = .ok (.aload_n 0, 1) := by decide +kernel
theorem d_M_typeEnd_3 : decode prog_7_method_16_code 3 = .ok (.iload_n 2, 1) := by decide +kernel
theorem d_M_typeEnd_4 : decode prog_7_method_16_code 4 = .ok (.invokevirtual 56, 3) := by decide +kernel
theorem d_M_typeEnd_7 : decode prog_7_method_16_code 7 = .ok (.bipush 6, 2) := by decide +kernel
theorem d_M_typeEnd_9 : decode prog_7_method_16_code 9 = .ok (.if_icmp .le 9, 3) := by decide +kernel
theorem d_M_typeEnd_12 : decode prog_7_method_16_code 12 = .ok (.iinc 2 1, 3) := by decide +kernel
theorem d_M_typeEnd_15 : decode prog_7_method_16_code 15 = .ok (.goto (-13), 3) := by decide +kernel
theorem d_M_typeEnd_18 : decode prog_7_method_16_code 18 = .ok (.aload_n 0, 1) := by decide +kernel
theorem d_M_typeEnd_19 : decode prog_7_method_16_code 19 = .ok (.iload_n 2, 1) := by decide +kernel
theorem d_M_typeEnd_20 : decode prog_7_method_16_code 20 = .ok (.invokevirtual 56, 3) := by decide +kernel
theorem d_M_typeEnd_23 : decode prog_7_method_16_code 23 = .ok (.bipush 6, 2) := by decide +kernel
theorem d_M_typeEnd_25 : decode prog_7_method_16_code 25 = .ok (.if_icmp .ne 9, 3) := by decide +kernel
theorem d_M_typeEnd_28 : decode prog_7_method_16_code 28 = .ok (.iload_n 2, 1) := by decide +kernel
theorem d_M_typeEnd_29 : decode prog_7_method_16_code 29 = .ok (.iconst 2, 1) := by decide +kernel
theorem d_M_typeEnd_30 : decode prog_7_method_16_code 30 = .ok (.iadd, 1) := by decide +kernel
theorem d_M_typeEnd_31 : decode prog_7_method_16_code 31 = .ok (.goto 6, 3) := by decide +kernel
theorem d_M_typeEnd_34 : decode prog_7_method_16_code 34 = .ok (.iload_n 2, 1) := by decide +kernel
theorem d_M_typeEnd_35 : decode prog_7_method_16_code 35 = .ok (.iconst 1, 1) := by decide +kernel
theorem d_M_typeEnd_36 : decode prog_7_method_16_code 36 = .ok (.iadd, 1) := by decide +kernel
theorem d_M_typeEnd_37 : decode prog_7_method_16_code 37 = .ok (.ireturn, 1) := by decide +kernel
abbrev T_M_typeEnd : List (Nat × ct_PT) := [(0, o_iload 1 1), (1, o_istore 2 1), (2, o_aload 0 1), (3, o_iload 2 1), (7, o_push (.int 6) 2), (9, o_ic (fun x y => x ≤ y) (fun x y => ¬ x ≤ y) 18), (12, o_iinc 2 1), (15, o_goto 2), (18, o_aload 0 1), (19, o_iload 2 1), (23, o_push (.int 6) 2), (25, o_ic (fun x y => ¬ x = y) (fun x y => x = y) 34), (28, o_iload 2 1), (29, o_push (.int 2) 1), (30, o_ii fun x y => x + y), (31, o_goto 37), (34, o_iload 2 1), (35, o_push (.int 1) 1), (36, o_ii fun x y => x + y)]
set_option maxRecDepth 100000 in
theorem A_M_typeEnd (l : ct_Lx) : ct_al l M_M_typeEnd (T_M_typeEnd) := by
  refine ct_al.cons (so_iload_n d_M_typeEnd_0 rfl) ?_
  refine ct_al.cons (so_istore_n d_M_typeEnd_1 rfl (by decide)) ?_
  refine ct_al.cons (so_aload_n d_M_typeEnd_2 rfl) ?_
  refine ct_al.cons (so_iload_n d_M_typeEnd_3 rfl) ?_
  refine ct_al.cons (so_bipush d_M_typeEnd_7 (by decide)) ?_
  refine ct_al.cons (so_ic_le d_M_typeEnd_9 (by decide)) ?_
  refine ct_al.cons (so_iinc d_M_typeEnd_12 (by decide) (by decide)) ?_
  refine ct_al.cons (so_goto d_M_typeEnd_15 (by decide)) ?_
  refine ct_al.cons (so_aload_n d_M_typeEnd_18 rfl) ?_
  refine ct_al.cons (so_iload_n d_M_typeEnd_19 rfl) ?_
  refine ct_al.cons (so_bipush d_M_typeEnd_23 (by decide)) ?_
  refine ct_al.cons (so_ic_ne d_M_typeEnd_25 (by decide)) ?_
  refine ct_al.cons (so_iload_n d_M_typeEnd_28 rfl) ?_
  refine ct_al.cons (so_iconst d_M_typeEnd_29 (by decide)) ?_
  refine ct_al.cons (so_iadd d_M_typeEnd_30) ?_
  refine ct_al.cons (so_goto d_M_typeEnd_31 (by decide)) ?_
  refine ct_al.cons (so_iload_n d_M_typeEnd_34 rfl) ?_
  refine ct_al.cons (so_iconst d_M_typeEnd_35 (by decide)) ?_
  refine ct_al.cons (so_iadd d_M_typeEnd_36) ?_
  exact ct_al.nil
theorem e_M_typeEnd_0 : ct_tab (T_M_typeEnd) 0 = some (o_iload 1 1) := rfl
theorem e_M_typeEnd_1 : ct_tab (T_M_typeEnd) 1 = some (o_istore 2 1) := rfl
theorem e_M_typeEnd_2 : ct_tab (T_M_typeEnd) 2 = some (o_aload 0 1) := rfl
theorem e_M_typeEnd_3 : ct_tab (T_M_typeEnd) 3 = some (o_iload 2 1) := rfl
theorem e_M_typeEnd_7 : ct_tab (T_M_typeEnd) 7 = some (o_push (.int 6) 2) := rfl
theorem e_M_typeEnd_9 : ct_tab (T_M_typeEnd) 9 = some (o_ic (fun x y => x ≤ y) (fun x y => ¬ x ≤ y) 18) := rfl
theorem e_M_typeEnd_12 : ct_tab (T_M_typeEnd) 12 = some (o_iinc 2 1) := rfl
theorem e_M_typeEnd_15 : ct_tab (T_M_typeEnd) 15 = some (o_goto 2) := rfl
theorem e_M_typeEnd_18 : ct_tab (T_M_typeEnd) 18 = some (o_aload 0 1) := rfl
theorem e_M_typeEnd_19 : ct_tab (T_M_typeEnd) 19 = some (o_iload 2 1) := rfl
theorem e_M_typeEnd_23 : ct_tab (T_M_typeEnd) 23 = some (o_push (.int 6) 2) := rfl
theorem e_M_typeEnd_25 : ct_tab (T_M_typeEnd) 25 = some (o_ic (fun x y => ¬ x = y) (fun x y => x = y) 34) := rfl
theorem e_M_typeEnd_28 : ct_tab (T_M_typeEnd) 28 = some (o_iload 2 1) := rfl
theorem e_M_typeEnd_29 : ct_tab (T_M_typeEnd) 29 = some (o_push (.int 2) 1) := rfl
theorem e_M_typeEnd_30 : ct_tab (T_M_typeEnd) 30 = some (o_ii fun x y => x + y) := rfl
theorem e_M_typeEnd_31 : ct_tab (T_M_typeEnd) 31 = some (o_goto 37) := rfl
theorem e_M_typeEnd_34 : ct_tab (T_M_typeEnd) 34 = some (o_iload 2 1) := rfl
theorem e_M_typeEnd_35 : ct_tab (T_M_typeEnd) 35 = some (o_push (.int 1) 1) := rfl
theorem e_M_typeEnd_36 : ct_tab (T_M_typeEnd) 36 = some (o_ii fun x y => x + y) := rfl
theorem cl_M_typeEnd_4 {l : ct_Lx} {d d1 : Nat} {Post Post1 : Option Value → ct_Sg → Prop} {lv : ct_Lv} {st : List Value} {g : ct_Sg} {bc bs c1 s1 : Nat} {a1 : Value} {h : Nat} (hsh : g.2.1 h = (10 + 4, 24)) (hM : ct_Me l M_M_byteAt d1 c1 s1 [.ref h, a1] g Post1) (hdd : d1 + 1 ≤ d) (hk : (st.map fun v => v.category).sum ≤ 8) (hcc : c1 ≤ bc) (hss : s1 ≤ bs) (kk : ∀ (v : Option Value) (g' : ct_Sg), Post1 v g' → ct_Wp l M_M_typeEnd d Post (7, lv, v.toList ++ st, g', bc - c1, bs - s1)) : ct_Wp l M_M_typeEnd d Post (4, lv, a1 :: .ref h :: st, g, bc, bs) := ct_Wp.callV (ci := 4) (N := 24) (T := ct_T4) (As := [a1]) lk_M_byteAt (Or.inl wd_357) wd_358 wd_359 rfl d_M_typeEnd_4 hsh hM rfl hdd hk hcc hss kk
theorem cl_M_typeEnd_20 {l : ct_Lx} {d d1 : Nat} {Post Post1 : Option Value → ct_Sg → Prop} {lv : ct_Lv} {st : List Value} {g : ct_Sg} {bc bs c1 s1 : Nat} {a1 : Value} {h : Nat} (hsh : g.2.1 h = (10 + 4, 24)) (hM : ct_Me l M_M_byteAt d1 c1 s1 [.ref h, a1] g Post1) (hdd : d1 + 1 ≤ d) (hk : (st.map fun v => v.category).sum ≤ 8) (hcc : c1 ≤ bc) (hss : s1 ≤ bs) (kk : ∀ (v : Option Value) (g' : ct_Sg), Post1 v g' → ct_Wp l M_M_typeEnd d Post (23, lv, v.toList ++ st, g', bc - c1, bs - s1)) : ct_Wp l M_M_typeEnd d Post (20, lv, a1 :: .ref h :: st, g, bc, bs) := ct_Wp.callV (ci := 4) (N := 24) (T := ct_T4) (As := [a1]) lk_M_byteAt (Or.inl wd_357) wd_358 wd_359 rfl d_M_typeEnd_20 hsh hM rfl hdd hk hcc hss kk
theorem d_M_lookType_0 : decode prog_7_method_17_code 0 = .ok (.aload_n 0, 1) := by decide +kernel
theorem d_M_lookType_1 : decode prog_7_method_17_code 1 = .ok (.iload_n 1, 1) := by decide +kernel
theorem d_M_lookType_2 : decode prog_7_method_17_code 2 = .ok (.invokevirtual 120, 3) := by decide +kernel
theorem d_M_lookType_5 : decode prog_7_method_17_code 5 = .ok (.istore_n 2, 1) := by decide +kernel
theorem d_M_lookType_6 : decode prog_7_method_17_code 6 = .ok (.aload_n 0, 1) := by decide +kernel
theorem d_M_lookType_7 : decode prog_7_method_17_code 7 = .ok (.iload_n 1, 1) := by decide +kernel
theorem d_M_lookType_8 : decode prog_7_method_17_code 8 = .ok (.invokevirtual 123, 3) := by decide +kernel
theorem d_M_lookType_11 : decode prog_7_method_17_code 11 = .ok (.ifCond .eq 31, 3) := by decide +kernel
theorem d_M_lookType_14 : decode prog_7_method_17_code 14 = .ok (.aload_n 0, 1) := by decide +kernel
theorem d_M_lookType_15 : decode prog_7_method_17_code 15 = .ok (.iload_n 2, 1) := by decide +kernel
theorem d_M_lookType_16 : decode prog_7_method_17_code 16 = .ok (.iconst 1, 1) := by decide +kernel
theorem d_M_lookType_17 : decode prog_7_method_17_code 17 = .ok (.isub, 1) := by decide +kernel
theorem d_M_lookType_18 : decode prog_7_method_17_code 18 = .ok (.invokevirtual 56, 3) := by decide +kernel
theorem d_M_lookType_21 : decode prog_7_method_17_code 21 = .ok (.aload_n 0, 1) := by decide +kernel
theorem d_M_lookType_22 : decode prog_7_method_17_code 22 = .ok (.getfield 102, 3) := by decide +kernel
theorem d_M_lookType_25 : decode prog_7_method_17_code 25 = .ok (.aload_n 0, 1) := by decide +kernel
theorem d_M_lookType_26 : decode prog_7_method_17_code 26 = .ok (.getfield 105, 3) := by decide +kernel
theorem d_M_lookType_29 : decode prog_7_method_17_code 29 = .ok (.iadd, 1) := by decide +kernel
theorem d_M_lookType_30 : decode prog_7_method_17_code 30 = .ok (.if_icmp .lt 12, 3) := by decide +kernel
theorem d_M_lookType_33 : decode prog_7_method_17_code 33 = .ok (.aload_n 0, 1) := by decide +kernel
theorem d_M_lookType_34 : decode prog_7_method_17_code 34 = .ok (.bipush 7, 2) := by decide +kernel
theorem d_M_lookType_36 : decode prog_7_method_17_code 36 = .ok (.iload_n 2, 1) := by decide +kernel
theorem d_M_lookType_37 : decode prog_7_method_17_code 37 = .ok (.iconst 1, 1) := by decide +kernel
theorem d_M_lookType_38 : decode prog_7_method_17_code 38 = .ok (.isub, 1) := by decide +kernel
theorem d_M_lookType_39 : decode prog_7_method_17_code 39 = .ok (.invokevirtual 63, 3) := by decide +kernel
theorem d_M_lookType_42 : decode prog_7_method_17_code 42 = .ok (.iload_n 2, 1) := by decide +kernel
theorem d_M_lookType_43 : decode prog_7_method_17_code 43 = .ok (.ireturn, 1) := by decide +kernel
abbrev T_M_lookType : List (Nat × ct_PT) := [(0, o_aload 0 1), (1, o_iload 1 1), (5, o_istore 2 1), (6, o_aload 0 1), (7, o_iload 1 1), (11, o_if (fun x => x = 0) (fun x => ¬ x = 0) 42), (14, o_aload 0 1), (15, o_iload 2 1), (16, o_push (.int 1) 1), (17, o_ii fun x y => x - y), (21, o_aload 0 1), (22, o_getI 4 24 9), (25, o_aload 0 1), (26, o_getI 4 24 10), (29, o_ii fun x y => x + y), (30, o_ic (fun x y => x < y) (fun x y => ¬ x < y) 42), (33, o_aload 0 1), (34, o_push (.int 7) 2), (36, o_iload 2 1), (37, o_push (.int 1) 1), (38, o_ii fun x y => x - y), (42, o_iload 2 1)]
set_option maxRecDepth 100000 in
theorem A_M_lookType (l : ct_Lx) : ct_al l M_M_lookType (T_M_lookType) := by
  refine ct_al.cons (so_aload_n d_M_lookType_0 rfl) ?_
  refine ct_al.cons (so_iload_n d_M_lookType_1 rfl) ?_
  refine ct_al.cons (so_istore_n d_M_lookType_5 rfl (by decide)) ?_
  refine ct_al.cons (so_aload_n d_M_lookType_6 rfl) ?_
  refine ct_al.cons (so_iload_n d_M_lookType_7 rfl) ?_
  refine ct_al.cons (so_if_eq d_M_lookType_11 (by decide)) ?_
  refine ct_al.cons (so_aload_n d_M_lookType_14 rfl) ?_
  refine ct_al.cons (so_iload_n d_M_lookType_15 rfl) ?_
  refine ct_al.cons (so_iconst d_M_lookType_16 (by decide)) ?_
  refine ct_al.cons (so_isub d_M_lookType_17) ?_
  refine ct_al.cons (so_aload_n d_M_lookType_21 rfl) ?_
  refine ct_al.cons (so_getI (Cn := "CodeTablesModel") (T := ct_T4) kc_4 (by decide) rfl rfl wd_411 d_M_lookType_22) ?_
  refine ct_al.cons (so_aload_n d_M_lookType_25 rfl) ?_
  refine ct_al.cons (so_getI (Cn := "CodeTablesModel") (T := ct_T4) kc_4 (by decide) rfl rfl wd_412 d_M_lookType_26) ?_
  refine ct_al.cons (so_iadd d_M_lookType_29) ?_
  refine ct_al.cons (so_ic_lt d_M_lookType_30 (by decide)) ?_
  refine ct_al.cons (so_aload_n d_M_lookType_33 rfl) ?_
  refine ct_al.cons (so_bipush d_M_lookType_34 (by decide)) ?_
  refine ct_al.cons (so_iload_n d_M_lookType_36 rfl) ?_
  refine ct_al.cons (so_iconst d_M_lookType_37 (by decide)) ?_
  refine ct_al.cons (so_isub d_M_lookType_38) ?_
  refine ct_al.cons (so_iload_n d_M_lookType_42 rfl) ?_
  exact ct_al.nil
theorem e_M_lookType_0 : ct_tab (T_M_lookType) 0 = some (o_aload 0 1) := rfl
theorem e_M_lookType_1 : ct_tab (T_M_lookType) 1 = some (o_iload 1 1) := rfl
theorem e_M_lookType_5 : ct_tab (T_M_lookType) 5 = some (o_istore 2 1) := rfl
theorem e_M_lookType_6 : ct_tab (T_M_lookType) 6 = some (o_aload 0 1) := rfl
theorem e_M_lookType_7 : ct_tab (T_M_lookType) 7 = some (o_iload 1 1) := rfl
theorem e_M_lookType_11 : ct_tab (T_M_lookType) 11 = some (o_if (fun x => x = 0) (fun x => ¬ x = 0) 42) := rfl
theorem e_M_lookType_14 : ct_tab (T_M_lookType) 14 = some (o_aload 0 1) := rfl
theorem e_M_lookType_15 : ct_tab (T_M_lookType) 15 = some (o_iload 2 1) := rfl
theorem e_M_lookType_16 : ct_tab (T_M_lookType) 16 = some (o_push (.int 1) 1) := rfl
theorem e_M_lookType_17 : ct_tab (T_M_lookType) 17 = some (o_ii fun x y => x - y) := rfl
theorem e_M_lookType_21 : ct_tab (T_M_lookType) 21 = some (o_aload 0 1) := rfl
theorem e_M_lookType_22 : ct_tab (T_M_lookType) 22 = some (o_getI 4 24 9) := rfl
theorem e_M_lookType_25 : ct_tab (T_M_lookType) 25 = some (o_aload 0 1) := rfl
theorem e_M_lookType_26 : ct_tab (T_M_lookType) 26 = some (o_getI 4 24 10) := rfl
theorem e_M_lookType_29 : ct_tab (T_M_lookType) 29 = some (o_ii fun x y => x + y) := rfl
theorem e_M_lookType_30 : ct_tab (T_M_lookType) 30 = some (o_ic (fun x y => x < y) (fun x y => ¬ x < y) 42) := rfl
theorem e_M_lookType_33 : ct_tab (T_M_lookType) 33 = some (o_aload 0 1) := rfl
theorem e_M_lookType_34 : ct_tab (T_M_lookType) 34 = some (o_push (.int 7) 2) := rfl
theorem e_M_lookType_36 : ct_tab (T_M_lookType) 36 = some (o_iload 2 1) := rfl
theorem e_M_lookType_37 : ct_tab (T_M_lookType) 37 = some (o_push (.int 1) 1) := rfl
theorem e_M_lookType_38 : ct_tab (T_M_lookType) 38 = some (o_ii fun x y => x - y) := rfl
theorem e_M_lookType_42 : ct_tab (T_M_lookType) 42 = some (o_iload 2 1) := rfl
theorem cl_M_lookType_2 {l : ct_Lx} {d d1 : Nat} {Post Post1 : Option Value → ct_Sg → Prop} {lv : ct_Lv} {st : List Value} {g : ct_Sg} {bc bs c1 s1 : Nat} {a1 : Value} {h : Nat} (hsh : g.2.1 h = (10 + 4, 24)) (hM : ct_Me l M_M_typeEnd d1 c1 s1 [.ref h, a1] g Post1) (hdd : d1 + 1 ≤ d) (hk : (st.map fun v => v.category).sum ≤ 8) (hcc : c1 ≤ bc) (hss : s1 ≤ bs) (kk : ∀ (v : Option Value) (g' : ct_Sg), Post1 v g' → ct_Wp l M_M_lookType d Post (5, lv, v.toList ++ st, g', bc - c1, bs - s1)) : ct_Wp l M_M_lookType d Post (2, lv, a1 :: .ref h :: st, g, bc, bs) := ct_Wp.callV (ci := 4) (N := 24) (T := ct_T4) (As := [a1]) lk_M_typeEnd (Or.inl wd_423) wd_424 wd_425 rfl d_M_lookType_2 hsh hM rfl hdd hk hcc hss kk
theorem cl_M_lookType_8 {l : ct_Lx} {d d1 : Nat} {Post Post1 : Option Value → ct_Sg → Prop} {lv : ct_Lv} {st : List Value} {g : ct_Sg} {bc bs c1 s1 : Nat} {a1 : Value} {h : Nat} (hsh : g.2.1 h = (10 + 4, 24)) (hM : ct_Me l M_M_isStructureType d1 c1 s1 [.ref h, a1] g Post1) (hdd : d1 + 1 ≤ d) (hk : (st.map fun v => v.category).sum ≤ 8) (hcc : c1 ≤ bc) (hss : s1 ≤ bs) (kk : ∀ (v : Option Value) (g' : ct_Sg), Post1 v g' → ct_Wp l M_M_lookType d Post (11, lv, v.toList ++ st, g', bc - c1, bs - s1)) : ct_Wp l M_M_lookType d Post (8, lv, a1 :: .ref h :: st, g, bc, bs) := ct_Wp.callV (ci := 4) (N := 24) (T := ct_T4) (As := [a1]) lk_M_isStructureType (Or.inl wd_428) wd_429 wd_430 rfl d_M_lookType_8 hsh hM rfl hdd hk hcc hss kk
theorem cl_M_lookType_18 {l : ct_Lx} {d d1 : Nat} {Post Post1 : Option Value → ct_Sg → Prop} {lv : ct_Lv} {st : List Value} {g : ct_Sg} {bc bs c1 s1 : Nat} {a1 : Value} {h : Nat} (hsh : g.2.1 h = (10 + 4, 24)) (hM : ct_Me l M_M_byteAt d1 c1 s1 [.ref h, a1] g Post1) (hdd : d1 + 1 ≤ d) (hk : (st.map fun v => v.category).sum ≤ 8) (hcc : c1 ≤ bc) (hss : s1 ≤ bs) (kk : ∀ (v : Option Value) (g' : ct_Sg), Post1 v g' → ct_Wp l M_M_lookType d Post (21, lv, v.toList ++ st, g', bc - c1, bs - s1)) : ct_Wp l M_M_lookType d Post (18, lv, a1 :: .ref h :: st, g, bc, bs) := ct_Wp.callV (ci := 4) (N := 24) (T := ct_T4) (As := [a1]) lk_M_byteAt (Or.inl wd_357) wd_358 wd_359 rfl d_M_lookType_18 hsh hM rfl hdd hk hcc hss kk
theorem cl_M_lookType_39 {l : ct_Lx} {d d1 : Nat} {Post Post1 : Option Value → ct_Sg → Prop} {lv : ct_Lv} {st : List Value} {g : ct_Sg} {bc bs c1 s1 : Nat} {a1 a2 : Value} {h : Nat} (hsh : g.2.1 h = (10 + 4, 24)) (hM : ct_Me l M_M_fail d1 c1 s1 [.ref h, a1, a2] g Post1) (hdd : d1 + 1 ≤ d) (hk : (st.map fun v => v.category).sum ≤ 8) (hcc : c1 ≤ bc) (hss : s1 ≤ bs) (kk : ∀ (v : Option Value) (g' : ct_Sg), Post1 v g' → ct_Wp l M_M_lookType d Post (42, lv, v.toList ++ st, g', bc - c1, bs - s1)) : ct_Wp l M_M_lookType d Post (39, lv, a2 :: a1 :: .ref h :: st, g, bc, bs) := ct_Wp.callV (ci := 4) (N := 24) (T := ct_T4) (As := [a1, a2]) lk_M_fail (Or.inl wd_363) wd_364 wd_365 rfl d_M_lookType_39 hsh hM rfl hdd hk hcc hss kk
theorem d_M_isStructureType_0 : decode prog_7_method_18_code 0 = .ok (.iload_n 1, 1) := by decide +kernel
theorem d_M_isStructureType_1 : decode prog_7_method_18_code 1 = .ok (.istore_n 2, 1) := by decide +kernel
theorem d_M_isStructureType_2 : decode prog_7_method_18_code 2 = .ok (.aload_n 0, 1) := by decide +kernel
theorem d_M_isStructureType_3 : decode prog_7_method_18_code 3 = .ok (.iload_n 2, 1) := by decide +kernel
theorem d_M_isStructureType_4 : decode prog_7_method_18_code 4 = .ok (.invokevirtual 56, 3) := by decide +kernel
theorem d_M_isStructureType_7 : decode prog_7_method_18_code 7 = .ok (.bipush 6, 2) := by decide +kernel
theorem d_M_isStructureType_9 : decode prog_7_method_18_code 9 = .ok (.if_icmp .le 9, 3) := by decide +kernel
theorem d_M_isStructureType_12 : decode prog_7_method_18_code 12 = .ok (.iinc 2 1, 3) := by decide +kernel
theorem d_M_isStructureType_15 : decode prog_7_method_18_code 15 = .ok (.goto (-13), 3) := by decide +kernel
theorem d_M_isStructureType_18 : decode prog_7_method_18_code 18 = .ok (.aload_n 0, 1) := by decide +kernel
theorem d_M_isStructureType_19 : decode prog_7_method_18_code 19 = .ok (.iload_n 2, 1) := by decide +kernel
theorem d_M_isStructureType_20 : decode prog_7_method_18_code 20 = .ok (.invokevirtual 56, 3) := by decide +kernel
theorem d_M_isStructureType_23 : decode prog_7_method_18_code 23 = .ok (.bipush 6, 2) := by decide +kernel
theorem d_M_isStructureType_25 : decode prog_7_method_18_code 25 = .ok (.if_icmp .ne 7, 3) := by decide +kernel
theorem d_M_isStructureType_28 : decode prog_7_method_18_code 28 = .ok (.iconst 1, 1) := by decide +kernel
theorem d_M_isStructureType_29 : decode prog_7_method_18_code 29 = .ok (.goto 4, 3) := by decide +kernel
theorem d_M_isStructureType_32 : decode prog_7_method_18_code 32 = .ok (.iconst 0, 1) := by decide +kernel
theorem d_M_isStructureType_33 : decode prog_7_method_18_code 33 = .ok (.ireturn, 1) := by decide +kernel
abbrev T_M_isStructureType : List (Nat × ct_PT) := [(0, o_iload 1 1), (1, o_istore 2 1), (2, o_aload 0 1), (3, o_iload 2 1), (7, o_push (.int 6) 2), (9, o_ic (fun x y => x ≤ y) (fun x y => ¬ x ≤ y) 18), (12, o_iinc 2 1), (15, o_goto 2), (18, o_aload 0 1), (19, o_iload 2 1), (23, o_push (.int 6) 2), (25, o_ic (fun x y => ¬ x = y) (fun x y => x = y) 32), (28, o_push (.int 1) 1), (29, o_goto 33), (32, o_push (.int 0) 1)]
set_option maxRecDepth 100000 in
theorem A_M_isStructureType (l : ct_Lx) : ct_al l M_M_isStructureType (T_M_isStructureType) := by
  refine ct_al.cons (so_iload_n d_M_isStructureType_0 rfl) ?_
  refine ct_al.cons (so_istore_n d_M_isStructureType_1 rfl (by decide)) ?_
  refine ct_al.cons (so_aload_n d_M_isStructureType_2 rfl) ?_
  refine ct_al.cons (so_iload_n d_M_isStructureType_3 rfl) ?_
  refine ct_al.cons (so_bipush d_M_isStructureType_7 (by decide)) ?_
  refine ct_al.cons (so_ic_le d_M_isStructureType_9 (by decide)) ?_
  refine ct_al.cons (so_iinc d_M_isStructureType_12 (by decide) (by decide)) ?_
  refine ct_al.cons (so_goto d_M_isStructureType_15 (by decide)) ?_
  refine ct_al.cons (so_aload_n d_M_isStructureType_18 rfl) ?_
  refine ct_al.cons (so_iload_n d_M_isStructureType_19 rfl) ?_
  refine ct_al.cons (so_bipush d_M_isStructureType_23 (by decide)) ?_
  refine ct_al.cons (so_ic_ne d_M_isStructureType_25 (by decide)) ?_
  refine ct_al.cons (so_iconst d_M_isStructureType_28 (by decide)) ?_
  refine ct_al.cons (so_goto d_M_isStructureType_29 (by decide)) ?_
  refine ct_al.cons (so_iconst d_M_isStructureType_32 (by decide)) ?_
  exact ct_al.nil
theorem e_M_isStructureType_0 : ct_tab (T_M_isStructureType) 0 = some (o_iload 1 1) := rfl
theorem e_M_isStructureType_1 : ct_tab (T_M_isStructureType) 1 = some (o_istore 2 1) := rfl
theorem e_M_isStructureType_2 : ct_tab (T_M_isStructureType) 2 = some (o_aload 0 1) := rfl
theorem e_M_isStructureType_3 : ct_tab (T_M_isStructureType) 3 = some (o_iload 2 1) := rfl
theorem e_M_isStructureType_7 : ct_tab (T_M_isStructureType) 7 = some (o_push (.int 6) 2) := rfl
theorem e_M_isStructureType_9 : ct_tab (T_M_isStructureType) 9 = some (o_ic (fun x y => x ≤ y) (fun x y => ¬ x ≤ y) 18) := rfl
theorem e_M_isStructureType_12 : ct_tab (T_M_isStructureType) 12 = some (o_iinc 2 1) := rfl
theorem e_M_isStructureType_15 : ct_tab (T_M_isStructureType) 15 = some (o_goto 2) := rfl
theorem e_M_isStructureType_18 : ct_tab (T_M_isStructureType) 18 = some (o_aload 0 1) := rfl
theorem e_M_isStructureType_19 : ct_tab (T_M_isStructureType) 19 = some (o_iload 2 1) := rfl
theorem e_M_isStructureType_23 : ct_tab (T_M_isStructureType) 23 = some (o_push (.int 6) 2) := rfl
theorem e_M_isStructureType_25 : ct_tab (T_M_isStructureType) 25 = some (o_ic (fun x y => ¬ x = y) (fun x y => x = y) 32) := rfl
theorem e_M_isStructureType_28 : ct_tab (T_M_isStructureType) 28 = some (o_push (.int 1) 1) := rfl
theorem e_M_isStructureType_29 : ct_tab (T_M_isStructureType) 29 = some (o_goto 33) := rfl
theorem e_M_isStructureType_32 : ct_tab (T_M_isStructureType) 32 = some (o_push (.int 0) 1) := rfl
theorem cl_M_isStructureType_4 {l : ct_Lx} {d d1 : Nat} {Post Post1 : Option Value → ct_Sg → Prop} {lv : ct_Lv} {st : List Value} {g : ct_Sg} {bc bs c1 s1 : Nat} {a1 : Value} {h : Nat} (hsh : g.2.1 h = (10 + 4, 24)) (hM : ct_Me l M_M_byteAt d1 c1 s1 [.ref h, a1] g Post1) (hdd : d1 + 1 ≤ d) (hk : (st.map fun v => v.category).sum ≤ 8) (hcc : c1 ≤ bc) (hss : s1 ≤ bs) (kk : ∀ (v : Option Value) (g' : ct_Sg), Post1 v g' → ct_Wp l M_M_isStructureType d Post (7, lv, v.toList ++ st, g', bc - c1, bs - s1)) : ct_Wp l M_M_isStructureType d Post (4, lv, a1 :: .ref h :: st, g, bc, bs) := ct_Wp.callV (ci := 4) (N := 24) (T := ct_T4) (As := [a1]) lk_M_byteAt (Or.inl wd_357) wd_358 wd_359 rfl d_M_isStructureType_4 hsh hM rfl hdd hk hcc hss kk
theorem cl_M_isStructureType_20 {l : ct_Lx} {d d1 : Nat} {Post Post1 : Option Value → ct_Sg → Prop} {lv : ct_Lv} {st : List Value} {g : ct_Sg} {bc bs c1 s1 : Nat} {a1 : Value} {h : Nat} (hsh : g.2.1 h = (10 + 4, 24)) (hM : ct_Me l M_M_byteAt d1 c1 s1 [.ref h, a1] g Post1) (hdd : d1 + 1 ≤ d) (hk : (st.map fun v => v.category).sum ≤ 8) (hcc : c1 ≤ bc) (hss : s1 ≤ bs) (kk : ∀ (v : Option Value) (g' : ct_Sg), Post1 v g' → ct_Wp l M_M_isStructureType d Post (23, lv, v.toList ++ st, g', bc - c1, bs - s1)) : ct_Wp l M_M_isStructureType d Post (20, lv, a1 :: .ref h :: st, g, bc, bs) := ct_Wp.callV (ci := 4) (N := 24) (T := ct_T4) (As := [a1]) lk_M_byteAt (Or.inl wd_357) wd_358 wd_359 rfl d_M_isStructureType_20 hsh hM rfl hdd hk hcc hss kk
theorem d_M_lookList_0 : decode prog_7_method_19_code 0 = .ok (.aload_n 0, 1) := by decide +kernel
theorem d_M_lookList_1 : decode prog_7_method_19_code 1 = .ok (.iload_n 1, 1) := by decide +kernel
theorem d_M_lookList_2 : decode prog_7_method_19_code 2 = .ok (.invokevirtual 56, 3) := by decide +kernel
theorem d_M_lookList_5 : decode prog_7_method_19_code 5 = .ok (.istore_n 2, 1) := by decide +kernel
theorem d_M_lookList_6 : decode prog_7_method_19_code 6 = .ok (.iload_n 1, 1) := by decide +kernel
theorem d_M_lookList_7 : decode prog_7_method_19_code 7 = .ok (.iconst 1, 1) := by decide +kernel
theorem d_M_lookList_8 : decode prog_7_method_19_code 8 = .ok (.iadd, 1) := by decide +kernel
theorem d_M_lookList_9 : decode prog_7_method_19_code 9 = .ok (.istore_n 3, 1) := by decide +kernel
theorem d_M_lookList_10 : decode prog_7_method_19_code 10 = .ok (.iconst 0, 1) := by decide +kernel
theorem d_M_lookList_11 : decode prog_7_method_19_code 11 = .ok (.istore 4, 2) := by decide +kernel
theorem d_M_lookList_13 : decode prog_7_method_19_code 13 = .ok (.iload 4, 2) := by decide +kernel
theorem d_M_lookList_15 : decode prog_7_method_19_code 15 = .ok (.iload_n 2, 1) := by decide +kernel
theorem d_M_lookList_16 : decode prog_7_method_19_code 16 = .ok (.if_icmp .ge 15, 3) := by decide +kernel
theorem d_M_lookList_19 : decode prog_7_method_19_code 19 = .ok (.aload_n 0, 1) := by decide +kernel
theorem d_M_lookList_20 : decode prog_7_method_19_code 20 = .ok (.iload_n 3, 1) := by decide +kernel
theorem d_M_lookList_21 : decode prog_7_method_19_code 21 = .ok (.invokevirtual 127, 3) := by decide +kernel
theorem d_M_lookList_24 : decode prog_7_method_19_code 24 = .ok (.istore_n 3, 1) := by decide +kernel
theorem d_M_lookList_25 : decode prog_7_method_19_code 25 = .ok (.iinc 4 1, 3) := by decide +kernel
theorem d_M_lookList_28 : decode prog_7_method_19_code 28 = .ok (.goto (-15), 3) := by decide +kernel
theorem d_M_lookList_31 : decode prog_7_method_19_code 31 = .ok (.iload_n 3, 1) := by decide +kernel
theorem d_M_lookList_32 : decode prog_7_method_19_code 32 = .ok (.ireturn, 1) := by decide +kernel
abbrev T_M_lookList : List (Nat × ct_PT) := [(0, o_aload 0 1), (1, o_iload 1 1), (5, o_istore 2 1), (6, o_iload 1 1), (7, o_push (.int 1) 1), (8, o_ii fun x y => x + y), (9, o_istore 3 1), (10, o_push (.int 0) 1), (11, o_istore 4 2), (13, o_iload 4 2), (15, o_iload 2 1), (16, o_ic (fun x y => y ≤ x) (fun x y => ¬ y ≤ x) 31), (19, o_aload 0 1), (20, o_iload 3 1), (24, o_istore 3 1), (25, o_iinc 4 1), (28, o_goto 13), (31, o_iload 3 1)]
set_option maxRecDepth 100000 in
theorem A_M_lookList (l : ct_Lx) : ct_al l M_M_lookList (T_M_lookList) := by
  refine ct_al.cons (so_aload_n d_M_lookList_0 rfl) ?_
  refine ct_al.cons (so_iload_n d_M_lookList_1 rfl) ?_
  refine ct_al.cons (so_istore_n d_M_lookList_5 rfl (by decide)) ?_
  refine ct_al.cons (so_iload_n d_M_lookList_6 rfl) ?_
  refine ct_al.cons (so_iconst d_M_lookList_7 (by decide)) ?_
  refine ct_al.cons (so_iadd d_M_lookList_8) ?_
  refine ct_al.cons (so_istore_n d_M_lookList_9 rfl (by decide)) ?_
  refine ct_al.cons (so_iconst d_M_lookList_10 (by decide)) ?_
  refine ct_al.cons (so_istore d_M_lookList_11 (by decide)) ?_
  refine ct_al.cons (so_iload d_M_lookList_13) ?_
  refine ct_al.cons (so_iload_n d_M_lookList_15 rfl) ?_
  refine ct_al.cons (so_ic_ge d_M_lookList_16 (by decide)) ?_
  refine ct_al.cons (so_aload_n d_M_lookList_19 rfl) ?_
  refine ct_al.cons (so_iload_n d_M_lookList_20 rfl) ?_
  refine ct_al.cons (so_istore_n d_M_lookList_24 rfl (by decide)) ?_
  refine ct_al.cons (so_iinc d_M_lookList_25 (by decide) (by decide)) ?_
  refine ct_al.cons (so_goto d_M_lookList_28 (by decide)) ?_
  refine ct_al.cons (so_iload_n d_M_lookList_31 rfl) ?_
  exact ct_al.nil
theorem e_M_lookList_0 : ct_tab (T_M_lookList) 0 = some (o_aload 0 1) := rfl
theorem e_M_lookList_1 : ct_tab (T_M_lookList) 1 = some (o_iload 1 1) := rfl
theorem e_M_lookList_5 : ct_tab (T_M_lookList) 5 = some (o_istore 2 1) := rfl
theorem e_M_lookList_6 : ct_tab (T_M_lookList) 6 = some (o_iload 1 1) := rfl
theorem e_M_lookList_7 : ct_tab (T_M_lookList) 7 = some (o_push (.int 1) 1) := rfl
theorem e_M_lookList_8 : ct_tab (T_M_lookList) 8 = some (o_ii fun x y => x + y) := rfl
theorem e_M_lookList_9 : ct_tab (T_M_lookList) 9 = some (o_istore 3 1) := rfl
theorem e_M_lookList_10 : ct_tab (T_M_lookList) 10 = some (o_push (.int 0) 1) := rfl
theorem e_M_lookList_11 : ct_tab (T_M_lookList) 11 = some (o_istore 4 2) := rfl
theorem e_M_lookList_13 : ct_tab (T_M_lookList) 13 = some (o_iload 4 2) := rfl
theorem e_M_lookList_15 : ct_tab (T_M_lookList) 15 = some (o_iload 2 1) := rfl
theorem e_M_lookList_16 : ct_tab (T_M_lookList) 16 = some (o_ic (fun x y => y ≤ x) (fun x y => ¬ y ≤ x) 31) := rfl
theorem e_M_lookList_19 : ct_tab (T_M_lookList) 19 = some (o_aload 0 1) := rfl
theorem e_M_lookList_20 : ct_tab (T_M_lookList) 20 = some (o_iload 3 1) := rfl
theorem e_M_lookList_24 : ct_tab (T_M_lookList) 24 = some (o_istore 3 1) := rfl
theorem e_M_lookList_25 : ct_tab (T_M_lookList) 25 = some (o_iinc 4 1) := rfl
theorem e_M_lookList_28 : ct_tab (T_M_lookList) 28 = some (o_goto 13) := rfl
theorem e_M_lookList_31 : ct_tab (T_M_lookList) 31 = some (o_iload 3 1) := rfl
theorem cl_M_lookList_2 {l : ct_Lx} {d d1 : Nat} {Post Post1 : Option Value → ct_Sg → Prop} {lv : ct_Lv} {st : List Value} {g : ct_Sg} {bc bs c1 s1 : Nat} {a1 : Value} {h : Nat} (hsh : g.2.1 h = (10 + 4, 24)) (hM : ct_Me l M_M_byteAt d1 c1 s1 [.ref h, a1] g Post1) (hdd : d1 + 1 ≤ d) (hk : (st.map fun v => v.category).sum ≤ 8) (hcc : c1 ≤ bc) (hss : s1 ≤ bs) (kk : ∀ (v : Option Value) (g' : ct_Sg), Post1 v g' → ct_Wp l M_M_lookList d Post (5, lv, v.toList ++ st, g', bc - c1, bs - s1)) : ct_Wp l M_M_lookList d Post (2, lv, a1 :: .ref h :: st, g, bc, bs) := ct_Wp.callV (ci := 4) (N := 24) (T := ct_T4) (As := [a1]) lk_M_byteAt (Or.inl wd_357) wd_358 wd_359 rfl d_M_lookList_2 hsh hM rfl hdd hk hcc hss kk
theorem cl_M_lookList_21 {l : ct_Lx} {d d1 : Nat} {Post Post1 : Option Value → ct_Sg → Prop} {lv : ct_Lv} {st : List Value} {g : ct_Sg} {bc bs c1 s1 : Nat} {a1 : Value} {h : Nat} (hsh : g.2.1 h = (10 + 4, 24)) (hM : ct_Me l M_M_lookType d1 c1 s1 [.ref h, a1] g Post1) (hdd : d1 + 1 ≤ d) (hk : (st.map fun v => v.category).sum ≤ 8) (hcc : c1 ≤ bc) (hss : s1 ≤ bs) (kk : ∀ (v : Option Value) (g' : ct_Sg), Post1 v g' → ct_Wp l M_M_lookList d Post (24, lv, v.toList ++ st, g', bc - c1, bs - s1)) : ct_Wp l M_M_lookList d Post (21, lv, a1 :: .ref h :: st, g, bc, bs) := ct_Wp.callV (ci := 4) (N := 24) (T := ct_T4) (As := [a1]) lk_M_lookType (Or.inl wd_433) wd_434 wd_435 rfl d_M_lookList_21 hsh hM rfl hdd hk hcc hss kk
theorem d_M_listEnd_0 : decode prog_7_method_20_code 0 = .ok (.aload_n 0, 1) := by decide +kernel
theorem d_M_listEnd_1 : decode prog_7_method_20_code 1 = .ok (.iload_n 1, 1) := by decide +kernel
theorem d_M_listEnd_2 : decode prog_7_method_20_code 2 = .ok (.invokevirtual 56, 3) := by decide +kernel
theorem d_M_listEnd_5 : decode prog_7_method_20_code 5 = .ok (.istore_n 2, 1) := by decide +kernel
theorem d_M_listEnd_6 : decode prog_7_method_20_code 6 = .ok (.iload_n 1, 1) := by decide +kernel
theorem d_M_listEnd_7 : decode prog_7_method_20_code 7 = .ok (.iconst 1, 1) := by decide +kernel
theorem d_M_listEnd_8 : decode prog_7_method_20_code 8 = .ok (.iadd, 1) := by decide +kernel
theorem d_M_listEnd_9 : decode prog_7_method_20_code 9 = .ok (.istore_n 3, 1) := by decide +kernel
theorem d_M_listEnd_10 : decode prog_7_method_20_code 10 = .ok (.iconst 0, 1) := by decide +kernel
theorem d_M_listEnd_11 : decode prog_7_method_20_code 11 = .ok (.istore 4, 2) := by decide +kernel
theorem d_M_listEnd_13 : decode prog_7_method_20_code 13 = .ok (.iload 4, 2) := by decide +kernel
theorem d_M_listEnd_15 : decode prog_7_method_20_code 15 = .ok (.iload_n 2, 1) := by decide +kernel
theorem d_M_listEnd_16 : decode prog_7_method_20_code 16 = .ok (.if_icmp .ge 15, 3) := by decide +kernel
theorem d_M_listEnd_19 : decode prog_7_method_20_code 19 = .ok (.aload_n 0, 1) := by decide +kernel
theorem d_M_listEnd_20 : decode prog_7_method_20_code 20 = .ok (.iload_n 3, 1) := by decide +kernel
theorem d_M_listEnd_21 : decode prog_7_method_20_code 21 = .ok (.invokevirtual 120, 3) := by decide +kernel
theorem d_M_listEnd_24 : decode prog_7_method_20_code 24 = .ok (.istore_n 3, 1) := by decide +kernel
theorem d_M_listEnd_25 : decode prog_7_method_20_code 25 = .ok (.iinc 4 1, 3) := by decide +kernel
theorem d_M_listEnd_28 : decode prog_7_method_20_code 28 = .ok (.goto (-15), 3) := by decide +kernel
theorem d_M_listEnd_31 : decode prog_7_method_20_code 31 = .ok (.iload_n 3, 1) := by decide +kernel
theorem d_M_listEnd_32 : decode prog_7_method_20_code 32 = .ok (.ireturn, 1) := by decide +kernel
abbrev T_M_listEnd : List (Nat × ct_PT) := [(0, o_aload 0 1), (1, o_iload 1 1), (5, o_istore 2 1), (6, o_iload 1 1), (7, o_push (.int 1) 1), (8, o_ii fun x y => x + y), (9, o_istore 3 1), (10, o_push (.int 0) 1), (11, o_istore 4 2), (13, o_iload 4 2), (15, o_iload 2 1), (16, o_ic (fun x y => y ≤ x) (fun x y => ¬ y ≤ x) 31), (19, o_aload 0 1), (20, o_iload 3 1), (24, o_istore 3 1), (25, o_iinc 4 1), (28, o_goto 13), (31, o_iload 3 1)]
set_option maxRecDepth 100000 in
theorem A_M_listEnd (l : ct_Lx) : ct_al l M_M_listEnd (T_M_listEnd) := by
  refine ct_al.cons (so_aload_n d_M_listEnd_0 rfl) ?_
  refine ct_al.cons (so_iload_n d_M_listEnd_1 rfl) ?_
  refine ct_al.cons (so_istore_n d_M_listEnd_5 rfl (by decide)) ?_
  refine ct_al.cons (so_iload_n d_M_listEnd_6 rfl) ?_
  refine ct_al.cons (so_iconst d_M_listEnd_7 (by decide)) ?_
  refine ct_al.cons (so_iadd d_M_listEnd_8) ?_
  refine ct_al.cons (so_istore_n d_M_listEnd_9 rfl (by decide)) ?_
  refine ct_al.cons (so_iconst d_M_listEnd_10 (by decide)) ?_
  refine ct_al.cons (so_istore d_M_listEnd_11 (by decide)) ?_
  refine ct_al.cons (so_iload d_M_listEnd_13) ?_
  refine ct_al.cons (so_iload_n d_M_listEnd_15 rfl) ?_
  refine ct_al.cons (so_ic_ge d_M_listEnd_16 (by decide)) ?_
  refine ct_al.cons (so_aload_n d_M_listEnd_19 rfl) ?_
  refine ct_al.cons (so_iload_n d_M_listEnd_20 rfl) ?_
  refine ct_al.cons (so_istore_n d_M_listEnd_24 rfl (by decide)) ?_
  refine ct_al.cons (so_iinc d_M_listEnd_25 (by decide) (by decide)) ?_
  refine ct_al.cons (so_goto d_M_listEnd_28 (by decide)) ?_
  refine ct_al.cons (so_iload_n d_M_listEnd_31 rfl) ?_
  exact ct_al.nil
theorem e_M_listEnd_0 : ct_tab (T_M_listEnd) 0 = some (o_aload 0 1) := rfl
theorem e_M_listEnd_1 : ct_tab (T_M_listEnd) 1 = some (o_iload 1 1) := rfl
theorem e_M_listEnd_5 : ct_tab (T_M_listEnd) 5 = some (o_istore 2 1) := rfl
theorem e_M_listEnd_6 : ct_tab (T_M_listEnd) 6 = some (o_iload 1 1) := rfl
theorem e_M_listEnd_7 : ct_tab (T_M_listEnd) 7 = some (o_push (.int 1) 1) := rfl
theorem e_M_listEnd_8 : ct_tab (T_M_listEnd) 8 = some (o_ii fun x y => x + y) := rfl
theorem e_M_listEnd_9 : ct_tab (T_M_listEnd) 9 = some (o_istore 3 1) := rfl
theorem e_M_listEnd_10 : ct_tab (T_M_listEnd) 10 = some (o_push (.int 0) 1) := rfl
theorem e_M_listEnd_11 : ct_tab (T_M_listEnd) 11 = some (o_istore 4 2) := rfl
theorem e_M_listEnd_13 : ct_tab (T_M_listEnd) 13 = some (o_iload 4 2) := rfl
theorem e_M_listEnd_15 : ct_tab (T_M_listEnd) 15 = some (o_iload 2 1) := rfl
theorem e_M_listEnd_16 : ct_tab (T_M_listEnd) 16 = some (o_ic (fun x y => y ≤ x) (fun x y => ¬ y ≤ x) 31) := rfl
theorem e_M_listEnd_19 : ct_tab (T_M_listEnd) 19 = some (o_aload 0 1) := rfl
theorem e_M_listEnd_20 : ct_tab (T_M_listEnd) 20 = some (o_iload 3 1) := rfl
theorem e_M_listEnd_24 : ct_tab (T_M_listEnd) 24 = some (o_istore 3 1) := rfl
theorem e_M_listEnd_25 : ct_tab (T_M_listEnd) 25 = some (o_iinc 4 1) := rfl
theorem e_M_listEnd_28 : ct_tab (T_M_listEnd) 28 = some (o_goto 13) := rfl
theorem e_M_listEnd_31 : ct_tab (T_M_listEnd) 31 = some (o_iload 3 1) := rfl
theorem cl_M_listEnd_2 {l : ct_Lx} {d d1 : Nat} {Post Post1 : Option Value → ct_Sg → Prop} {lv : ct_Lv} {st : List Value} {g : ct_Sg} {bc bs c1 s1 : Nat} {a1 : Value} {h : Nat} (hsh : g.2.1 h = (10 + 4, 24)) (hM : ct_Me l M_M_byteAt d1 c1 s1 [.ref h, a1] g Post1) (hdd : d1 + 1 ≤ d) (hk : (st.map fun v => v.category).sum ≤ 8) (hcc : c1 ≤ bc) (hss : s1 ≤ bs) (kk : ∀ (v : Option Value) (g' : ct_Sg), Post1 v g' → ct_Wp l M_M_listEnd d Post (5, lv, v.toList ++ st, g', bc - c1, bs - s1)) : ct_Wp l M_M_listEnd d Post (2, lv, a1 :: .ref h :: st, g, bc, bs) := ct_Wp.callV (ci := 4) (N := 24) (T := ct_T4) (As := [a1]) lk_M_byteAt (Or.inl wd_357) wd_358 wd_359 rfl d_M_listEnd_2 hsh hM rfl hdd hk hcc hss kk
theorem cl_M_listEnd_21 {l : ct_Lx} {d d1 : Nat} {Post Post1 : Option Value → ct_Sg → Prop} {lv : ct_Lv} {st : List Value} {g : ct_Sg} {bc bs c1 s1 : Nat} {a1 : Value} {h : Nat} (hsh : g.2.1 h = (10 + 4, 24)) (hM : ct_Me l M_M_typeEnd d1 c1 s1 [.ref h, a1] g Post1) (hdd : d1 + 1 ≤ d) (hk : (st.map fun v => v.category).sum ≤ 8) (hcc : c1 ≤ bc) (hss : s1 ≤ bs) (kk : ∀ (v : Option Value) (g' : ct_Sg), Post1 v g' → ct_Wp l M_M_listEnd d Post (24, lv, v.toList ++ st, g', bc - c1, bs - s1)) : ct_Wp l M_M_listEnd d Post (21, lv, a1 :: .ref h :: st, g, bc, bs) := ct_Wp.callV (ci := 4) (N := 24) (T := ct_T4) (As := [a1]) lk_M_typeEnd (Or.inl wd_423) wd_424 wd_425 rfl d_M_listEnd_21 hsh hM rfl hdd hk hcc hss kk
theorem d_M_fieldsOf_0 : decode prog_7_method_21_code 0 = .ok (.aload_n 0, 1) := by decide +kernel
theorem d_M_fieldsOf_1 : decode prog_7_method_21_code 1 = .ok (.aload_n 0, 1) := by decide +kernel
theorem d_M_fieldsOf_2 : decode prog_7_method_21_code 2 = .ok (.getfield 17, 3) := by decide +kernel
theorem d_M_fieldsOf_5 : decode prog_7_method_21_code 5 = .ok (.iload_n 1, 1) := by decide +kernel
theorem d_M_fieldsOf_6 : decode prog_7_method_21_code 6 = .ok (.iaload, 1) := by decide +kernel
theorem d_M_fieldsOf_7 : decode prog_7_method_21_code 7 = .ok (.iconst 1, 1) := by decide +kernel
theorem d_M_fieldsOf_8 : decode prog_7_method_21_code 8 = .ok (.iadd, 1) := by decide +kernel
theorem d_M_fieldsOf_9 : decode prog_7_method_21_code 9 = .ok (.invokevirtual 56, 3) := by decide +kernel
theorem d_M_fieldsOf_12 : decode prog_7_method_21_code 12 = .ok (.ireturn, 1) := by decide +kernel
abbrev T_M_fieldsOf : List (Nat × ct_PT) := [(0, o_aload 0 1), (1, o_aload 0 1), (2, o_getR 4 24 15), (5, o_iload 1 1), (6, o_iald), (7, o_push (.int 1) 1), (8, o_ii fun x y => x + y)]
set_option maxRecDepth 100000 in
theorem A_M_fieldsOf (l : ct_Lx) : ct_al l M_M_fieldsOf (T_M_fieldsOf) := by
  refine ct_al.cons (so_aload_n d_M_fieldsOf_0 rfl) ?_
  refine ct_al.cons (so_aload_n d_M_fieldsOf_1 rfl) ?_
  refine ct_al.cons (so_getR (Cn := "CodeTablesModel") (T := ct_T4) kc_4 (by decide) rfl rfl wd_341 d_M_fieldsOf_2) ?_
  refine ct_al.cons (so_iload_n d_M_fieldsOf_5 rfl) ?_
  refine ct_al.cons (so_iald d_M_fieldsOf_6) ?_
  refine ct_al.cons (so_iconst d_M_fieldsOf_7 (by decide)) ?_
  refine ct_al.cons (so_iadd d_M_fieldsOf_8) ?_
  exact ct_al.nil
theorem e_M_fieldsOf_0 : ct_tab (T_M_fieldsOf) 0 = some (o_aload 0 1) := rfl
theorem e_M_fieldsOf_1 : ct_tab (T_M_fieldsOf) 1 = some (o_aload 0 1) := rfl
theorem e_M_fieldsOf_2 : ct_tab (T_M_fieldsOf) 2 = some (o_getR 4 24 15) := rfl
theorem e_M_fieldsOf_5 : ct_tab (T_M_fieldsOf) 5 = some (o_iload 1 1) := rfl
theorem e_M_fieldsOf_6 : ct_tab (T_M_fieldsOf) 6 = some (o_iald) := rfl
theorem e_M_fieldsOf_7 : ct_tab (T_M_fieldsOf) 7 = some (o_push (.int 1) 1) := rfl
theorem e_M_fieldsOf_8 : ct_tab (T_M_fieldsOf) 8 = some (o_ii fun x y => x + y) := rfl
theorem cl_M_fieldsOf_9 {l : ct_Lx} {d d1 : Nat} {Post Post1 : Option Value → ct_Sg → Prop} {lv : ct_Lv} {st : List Value} {g : ct_Sg} {bc bs c1 s1 : Nat} {a1 : Value} {h : Nat} (hsh : g.2.1 h = (10 + 4, 24)) (hM : ct_Me l M_M_byteAt d1 c1 s1 [.ref h, a1] g Post1) (hdd : d1 + 1 ≤ d) (hk : (st.map fun v => v.category).sum ≤ 8) (hcc : c1 ≤ bc) (hss : s1 ≤ bs) (kk : ∀ (v : Option Value) (g' : ct_Sg), Post1 v g' → ct_Wp l M_M_fieldsOf d Post (12, lv, v.toList ++ st, g', bc - c1, bs - s1)) : ct_Wp l M_M_fieldsOf d Post (9, lv, a1 :: .ref h :: st, g, bc, bs) := ct_Wp.callV (ci := 4) (N := 24) (T := ct_T4) (As := [a1]) lk_M_byteAt (Or.inl wd_357) wd_358 wd_359 rfl d_M_fieldsOf_9 hsh hM rfl hdd hk hcc hss kk
theorem d_M_lookOwn_0 : decode prog_7_method_22_code 0 = .ok (.aload_n 0, 1) := by decide +kernel
theorem d_M_lookOwn_1 : decode prog_7_method_22_code 1 = .ok (.iload_n 1, 1) := by decide +kernel
theorem d_M_lookOwn_2 : decode prog_7_method_22_code 2 = .ok (.invokevirtual 56, 3) := by decide +kernel
theorem d_M_lookOwn_5 : decode prog_7_method_22_code 5 = .ok (.aload_n 0, 1) := by decide +kernel
theorem d_M_lookOwn_6 : decode prog_7_method_22_code 6 = .ok (.getfield 102, 3) := by decide +kernel
theorem d_M_lookOwn_9 : decode prog_7_method_22_code 9 = .ok (.aload_n 0, 1) := by decide +kernel
theorem d_M_lookOwn_10 : decode prog_7_method_22_code 10 = .ok (.getfield 105, 3) := by decide +kernel
theorem d_M_lookOwn_13 : decode prog_7_method_22_code 13 = .ok (.iadd, 1) := by decide +kernel
theorem d_M_lookOwn_14 : decode prog_7_method_22_code 14 = .ok (.if_icmp .lt 13, 3) := by decide +kernel
theorem d_M_lookOwn_17 : decode prog_7_method_22_code 17 = .ok (.aload_n 0, 1) := by decide +kernel
theorem d_M_lookOwn_18 : decode prog_7_method_22_code 18 = .ok (.bipush 7, 2) := by decide +kernel
theorem d_M_lookOwn_20 : decode prog_7_method_22_code 20 = .ok (.iload_n 1, 1) := by decide +kernel
theorem d_M_lookOwn_21 : decode prog_7_method_22_code 21 = .ok (.invokevirtual 63, 3) := by decide +kernel
theorem d_M_lookOwn_24 : decode prog_7_method_22_code 24 = .ok (.goto 22, 3) := by decide +kernel
theorem d_M_lookOwn_27 : decode prog_7_method_22_code 27 = .ok (.aload_n 0, 1) := by decide +kernel
theorem d_M_lookOwn_28 : decode prog_7_method_22_code 28 = .ok (.iload_n 1, 1) := by decide +kernel
theorem d_M_lookOwn_29 : decode prog_7_method_22_code 29 = .ok (.invokevirtual 56, 3) := by decide +kernel
theorem d_M_lookOwn_32 : decode prog_7_method_22_code 32 = .ok (.aload_n 0, 1) := by decide +kernel
theorem d_M_lookOwn_33 : decode prog_7_method_22_code 33 = .ok (.getfield 102, 3) := by decide +kernel
theorem d_M_lookOwn_36 : decode prog_7_method_22_code 36 = .ok (.if_icmp .lt 10, 3) := by decide +kernel
theorem d_M_lookOwn_39 : decode prog_7_method_22_code 39 = .ok (.aload_n 0, 1) := by decide +kernel
theorem d_M_lookOwn_40 : decode prog_7_method_22_code 40 = .ok (.bipush 8, 2) := by decide +kernel
theorem d_M_lookOwn_42 : decode prog_7_method_22_code 42 = .ok (.iload_n 1, 1) := by decide +kernel
theorem d_M_lookOwn_43 : decode prog_7_method_22_code 43 = .ok (.invokevirtual 63, 3) := by decide +kernel
theorem d_M_lookOwn_46 : decode prog_7_method_22_code 46 = .ok (.return_, 1) := by decide +kernel
abbrev T_M_lookOwn : List (Nat × ct_PT) := [(0, o_aload 0 1), (1, o_iload 1 1), (5, o_aload 0 1), (6, o_getI 4 24 9), (9, o_aload 0 1), (10, o_getI 4 24 10), (13, o_ii fun x y => x + y), (14, o_ic (fun x y => x < y) (fun x y => ¬ x < y) 27), (17, o_aload 0 1), (18, o_push (.int 7) 2), (20, o_iload 1 1), (24, o_goto 46), (27, o_aload 0 1), (28, o_iload 1 1), (32, o_aload 0 1), (33, o_getI 4 24 9), (36, o_ic (fun x y => x < y) (fun x y => ¬ x < y) 46), (39, o_aload 0 1), (40, o_push (.int 8) 2), (42, o_iload 1 1)]
set_option maxRecDepth 100000 in
theorem A_M_lookOwn (l : ct_Lx) : ct_al l M_M_lookOwn (T_M_lookOwn) := by
  refine ct_al.cons (so_aload_n d_M_lookOwn_0 rfl) ?_
  refine ct_al.cons (so_iload_n d_M_lookOwn_1 rfl) ?_
  refine ct_al.cons (so_aload_n d_M_lookOwn_5 rfl) ?_
  refine ct_al.cons (so_getI (Cn := "CodeTablesModel") (T := ct_T4) kc_4 (by decide) rfl rfl wd_411 d_M_lookOwn_6) ?_
  refine ct_al.cons (so_aload_n d_M_lookOwn_9 rfl) ?_
  refine ct_al.cons (so_getI (Cn := "CodeTablesModel") (T := ct_T4) kc_4 (by decide) rfl rfl wd_412 d_M_lookOwn_10) ?_
  refine ct_al.cons (so_iadd d_M_lookOwn_13) ?_
  refine ct_al.cons (so_ic_lt d_M_lookOwn_14 (by decide)) ?_
  refine ct_al.cons (so_aload_n d_M_lookOwn_17 rfl) ?_
  refine ct_al.cons (so_bipush d_M_lookOwn_18 (by decide)) ?_
  refine ct_al.cons (so_iload_n d_M_lookOwn_20 rfl) ?_
  refine ct_al.cons (so_goto d_M_lookOwn_24 (by decide)) ?_
  refine ct_al.cons (so_aload_n d_M_lookOwn_27 rfl) ?_
  refine ct_al.cons (so_iload_n d_M_lookOwn_28 rfl) ?_
  refine ct_al.cons (so_aload_n d_M_lookOwn_32 rfl) ?_
  refine ct_al.cons (so_getI (Cn := "CodeTablesModel") (T := ct_T4) kc_4 (by decide) rfl rfl wd_411 d_M_lookOwn_33) ?_
  refine ct_al.cons (so_ic_lt d_M_lookOwn_36 (by decide)) ?_
  refine ct_al.cons (so_aload_n d_M_lookOwn_39 rfl) ?_
  refine ct_al.cons (so_bipush d_M_lookOwn_40 (by decide)) ?_
  refine ct_al.cons (so_iload_n d_M_lookOwn_42 rfl) ?_
  exact ct_al.nil
theorem e_M_lookOwn_0 : ct_tab (T_M_lookOwn) 0 = some (o_aload 0 1) := rfl
theorem e_M_lookOwn_1 : ct_tab (T_M_lookOwn) 1 = some (o_iload 1 1) := rfl
theorem e_M_lookOwn_5 : ct_tab (T_M_lookOwn) 5 = some (o_aload 0 1) := rfl
theorem e_M_lookOwn_6 : ct_tab (T_M_lookOwn) 6 = some (o_getI 4 24 9) := rfl
theorem e_M_lookOwn_9 : ct_tab (T_M_lookOwn) 9 = some (o_aload 0 1) := rfl
theorem e_M_lookOwn_10 : ct_tab (T_M_lookOwn) 10 = some (o_getI 4 24 10) := rfl
theorem e_M_lookOwn_13 : ct_tab (T_M_lookOwn) 13 = some (o_ii fun x y => x + y) := rfl
theorem e_M_lookOwn_14 : ct_tab (T_M_lookOwn) 14 = some (o_ic (fun x y => x < y) (fun x y => ¬ x < y) 27) := rfl
theorem e_M_lookOwn_17 : ct_tab (T_M_lookOwn) 17 = some (o_aload 0 1) := rfl
theorem e_M_lookOwn_18 : ct_tab (T_M_lookOwn) 18 = some (o_push (.int 7) 2) := rfl
theorem e_M_lookOwn_20 : ct_tab (T_M_lookOwn) 20 = some (o_iload 1 1) := rfl
theorem e_M_lookOwn_24 : ct_tab (T_M_lookOwn) 24 = some (o_goto 46) := rfl
theorem e_M_lookOwn_27 : ct_tab (T_M_lookOwn) 27 = some (o_aload 0 1) := rfl
theorem e_M_lookOwn_28 : ct_tab (T_M_lookOwn) 28 = some (o_iload 1 1) := rfl
theorem e_M_lookOwn_32 : ct_tab (T_M_lookOwn) 32 = some (o_aload 0 1) := rfl
theorem e_M_lookOwn_33 : ct_tab (T_M_lookOwn) 33 = some (o_getI 4 24 9) := rfl
theorem e_M_lookOwn_36 : ct_tab (T_M_lookOwn) 36 = some (o_ic (fun x y => x < y) (fun x y => ¬ x < y) 46) := rfl
theorem e_M_lookOwn_39 : ct_tab (T_M_lookOwn) 39 = some (o_aload 0 1) := rfl
theorem e_M_lookOwn_40 : ct_tab (T_M_lookOwn) 40 = some (o_push (.int 8) 2) := rfl
theorem e_M_lookOwn_42 : ct_tab (T_M_lookOwn) 42 = some (o_iload 1 1) := rfl
theorem cl_M_lookOwn_2 {l : ct_Lx} {d d1 : Nat} {Post Post1 : Option Value → ct_Sg → Prop} {lv : ct_Lv} {st : List Value} {g : ct_Sg} {bc bs c1 s1 : Nat} {a1 : Value} {h : Nat} (hsh : g.2.1 h = (10 + 4, 24)) (hM : ct_Me l M_M_byteAt d1 c1 s1 [.ref h, a1] g Post1) (hdd : d1 + 1 ≤ d) (hk : (st.map fun v => v.category).sum ≤ 8) (hcc : c1 ≤ bc) (hss : s1 ≤ bs) (kk : ∀ (v : Option Value) (g' : ct_Sg), Post1 v g' → ct_Wp l M_M_lookOwn d Post (5, lv, v.toList ++ st, g', bc - c1, bs - s1)) : ct_Wp l M_M_lookOwn d Post (2, lv, a1 :: .ref h :: st, g, bc, bs) := ct_Wp.callV (ci := 4) (N := 24) (T := ct_T4) (As := [a1]) lk_M_byteAt (Or.inl wd_357) wd_358 wd_359 rfl d_M_lookOwn_2 hsh hM rfl hdd hk hcc hss kk
theorem cl_M_lookOwn_21 {l : ct_Lx} {d d1 : Nat} {Post Post1 : Option Value → ct_Sg → Prop} {lv : ct_Lv} {st : List Value} {g : ct_Sg} {bc bs c1 s1 : Nat} {a1 a2 : Value} {h : Nat} (hsh : g.2.1 h = (10 + 4, 24)) (hM : ct_Me l M_M_fail d1 c1 s1 [.ref h, a1, a2] g Post1) (hdd : d1 + 1 ≤ d) (hk : (st.map fun v => v.category).sum ≤ 8) (hcc : c1 ≤ bc) (hss : s1 ≤ bs) (kk : ∀ (v : Option Value) (g' : ct_Sg), Post1 v g' → ct_Wp l M_M_lookOwn d Post (24, lv, v.toList ++ st, g', bc - c1, bs - s1)) : ct_Wp l M_M_lookOwn d Post (21, lv, a2 :: a1 :: .ref h :: st, g, bc, bs) := ct_Wp.callV (ci := 4) (N := 24) (T := ct_T4) (As := [a1, a2]) lk_M_fail (Or.inl wd_363) wd_364 wd_365 rfl d_M_lookOwn_21 hsh hM rfl hdd hk hcc hss kk
theorem cl_M_lookOwn_29 {l : ct_Lx} {d d1 : Nat} {Post Post1 : Option Value → ct_Sg → Prop} {lv : ct_Lv} {st : List Value} {g : ct_Sg} {bc bs c1 s1 : Nat} {a1 : Value} {h : Nat} (hsh : g.2.1 h = (10 + 4, 24)) (hM : ct_Me l M_M_byteAt d1 c1 s1 [.ref h, a1] g Post1) (hdd : d1 + 1 ≤ d) (hk : (st.map fun v => v.category).sum ≤ 8) (hcc : c1 ≤ bc) (hss : s1 ≤ bs) (kk : ∀ (v : Option Value) (g' : ct_Sg), Post1 v g' → ct_Wp l M_M_lookOwn d Post (32, lv, v.toList ++ st, g', bc - c1, bs - s1)) : ct_Wp l M_M_lookOwn d Post (29, lv, a1 :: .ref h :: st, g, bc, bs) := ct_Wp.callV (ci := 4) (N := 24) (T := ct_T4) (As := [a1]) lk_M_byteAt (Or.inl wd_357) wd_358 wd_359 rfl d_M_lookOwn_29 hsh hM rfl hdd hk hcc hss kk
theorem cl_M_lookOwn_43 {l : ct_Lx} {d d1 : Nat} {Post Post1 : Option Value → ct_Sg → Prop} {lv : ct_Lv} {st : List Value} {g : ct_Sg} {bc bs c1 s1 : Nat} {a1 a2 : Value} {h : Nat} (hsh : g.2.1 h = (10 + 4, 24)) (hM : ct_Me l M_M_fail d1 c1 s1 [.ref h, a1, a2] g Post1) (hdd : d1 + 1 ≤ d) (hk : (st.map fun v => v.category).sum ≤ 8) (hcc : c1 ≤ bc) (hss : s1 ≤ bs) (kk : ∀ (v : Option Value) (g' : ct_Sg), Post1 v g' → ct_Wp l M_M_lookOwn d Post (46, lv, v.toList ++ st, g', bc - c1, bs - s1)) : ct_Wp l M_M_lookOwn d Post (43, lv, a2 :: a1 :: .ref h :: st, g, bc, bs) := ct_Wp.callV (ci := 4) (N := 24) (T := ct_T4) (As := [a1, a2]) lk_M_fail (Or.inl wd_363) wd_364 wd_365 rfl d_M_lookOwn_43 hsh hM rfl hdd hk hcc hss kk
theorem d_M_lookInstruction_0 : decode prog_7_method_23_code 0 = .ok (.aload_n 0, 1) := by decide +kernel
theorem d_M_lookInstruction_1 : decode prog_7_method_23_code 1 = .ok (.iload_n 1, 1) := by decide +kernel
theorem d_M_lookInstruction_2 : decode prog_7_method_23_code 2 = .ok (.invokevirtual 56, 3) := by decide +kernel
theorem d_M_lookInstruction_5 : decode prog_7_method_23_code 5 = .ok (.istore 4, 2) := by decide +kernel
theorem d_M_lookInstruction_7 : decode prog_7_method_23_code 7 = .ok (.iload 4, 2) := by decide +kernel
theorem d_M_lookInstruction_9 : decode prog_7_method_23_code 9 = .ok (.iconst 1, 1) := by decide +kernel
theorem d_M_lookInstruction_10 : decode prog_7_method_23_code 10 = .ok (.if_icmp .le 32, 3) := by decide +kernel
theorem d_M_lookInstruction_13 : decode prog_7_method_23_code 13 = .ok (.iload 4, 2) := by decide +kernel
theorem d_M_lookInstruction_15 : decode prog_7_method_23_code 15 = .ok (.iconst 5, 1) := by decide +kernel
theorem d_M_lookInstruction_16 : decode prog_7_method_23_code 16 = .ok (.if_icmp .ge 26, 3) := by decide +kernel
theorem d_M_lookInstruction_19 : decode prog_7_method_23_code 19 = .ok (.aload_n 0, 1) := by decide +kernel
theorem d_M_lookInstruction_20 : decode prog_7_method_23_code 20 = .ok (.iload_n 1, 1) := by decide +kernel
theorem d_M_lookInstruction_21 : decode prog_7_method_23_code 21 = .ok (.iconst 1, 1) := by decide +kernel
theorem d_M_lookInstruction_22 : decode prog_7_method_23_code 22 = .ok (.iadd, 1) := by decide +kernel
theorem d_M_lookInstruction_23 : decode prog_7_method_23_code 23 = .ok (.invokevirtual 92, 3) := by decide +kernel
theorem d_M_lookInstruction_26 : decode prog_7_method_23_code 26 = .ok (.iload_n 3, 1) := by decide +kernel
theorem d_M_lookInstruction_27 : decode prog_7_method_23_code 27 = .ok (.if_icmp .lt 226, 3) := by decide +kernel
theorem d_M_lookInstruction_30 : decode prog_7_method_23_code 30 = .ok (.aload_n 0, 1) := by decide +kernel
theorem d_M_lookInstruction_31 : decode prog_7_method_23_code 31 = .ok (.bipush 13, 2) := by decide +kernel
theorem d_M_lookInstruction_33 : decode prog_7_method_23_code 33 = .ok (.iload_n 1, 1) := by decide +kernel
theorem d_M_lookInstruction_34 : decode prog_7_method_23_code 34 = .ok (.iconst 1, 1) := by decide +kernel
theorem d_M_lookInstruction_35 : decode prog_7_method_23_code 35 = .ok (.iadd, 1) := by decide +kernel
theorem d_M_lookInstruction_36 : decode prog_7_method_23_code 36 = .ok (.invokevirtual 63, 3) := by decide +kernel
theorem d_M_lookInstruction_39 : decode prog_7_method_23_code 39 = .ok (.goto 214, 3) := by decide +kernel
theorem d_M_lookInstruction_42 : decode prog_7_method_23_code 42 = .ok (.iload 4, 2) := by decide +kernel
theorem d_M_lookInstruction_44 : decode prog_7_method_23_code 44 = .ok (.bipush 10, 2) := by decide +kernel
theorem d_M_lookInstruction_46 : decode prog_7_method_23_code 46 = .ok (.if_icmp .le 33, 3) := by decide +kernel
theorem d_M_lookInstruction_49 : decode prog_7_method_23_code 49 = .ok (.iload 4, 2) := by decide +kernel
theorem d_M_lookInstruction_51 : decode prog_7_method_23_code 51 = .ok (.bipush 16, 2) := by decide +kernel
theorem d_M_lookInstruction_53 : decode prog_7_method_23_code 53 = .ok (.if_icmp .ge 26, 3) := by decide +kernel
theorem d_M_lookInstruction_56 : decode prog_7_method_23_code 56 = .ok (.aload_n 0, 1) := by decide +kernel
theorem d_M_lookInstruction_57 : decode prog_7_method_23_code 57 = .ok (.iload_n 1, 1) := by decide +kernel
theorem d_M_lookInstruction_58 : decode prog_7_method_23_code 58 = .ok (.iconst 1, 1) := by decide +kernel
theorem d_M_lookInstruction_59 : decode prog_7_method_23_code 59 = .ok (.iadd, 1) := by decide +kernel
theorem d_M_lookInstruction_60 : decode prog_7_method_23_code 60 = .ok (.invokevirtual 56, 3) := by decide +kernel
theorem d_M_lookInstruction_63 : decode prog_7_method_23_code 63 = .ok (.iload_n 2, 1) := by decide +kernel
theorem d_M_lookInstruction_64 : decode prog_7_method_23_code 64 = .ok (.if_icmp .lt 189, 3) := by decide +kernel
theorem d_M_lookInstruction_67 : decode prog_7_method_23_code 67 = .ok (.aload_n 0, 1) := by decide +kernel
theorem d_M_lookInstruction_68 : decode prog_7_method_23_code 68 = .ok (.bipush 10, 2) := by decide +kernel
theorem d_M_lookInstruction_70 : decode prog_7_method_23_code 70 = .ok (.iload_n 1, 1) := by decide +kernel
theorem d_M_lookInstruction_71 : decode prog_7_method_23_code 71 = .ok (.iconst 1, 1) := by decide +kernel
theorem d_M_lookInstruction_72 : decode prog_7_method_23_code 72 = .ok (.iadd, 1) := by decide +kernel
theorem d_M_lookInstruction_73 : decode prog_7_method_23_code 73 = .ok (.invokevirtual 63, 3) := by decide +kernel
theorem d_M_lookInstruction_76 : decode prog_7_method_23_code 76 = .ok (.goto 177, 3) := by decide +kernel
theorem d_M_lookInstruction_79 : decode prog_7_method_23_code 79 = .ok (.iload 4, 2) := by decide +kernel
theorem d_M_lookInstruction_81 : decode prog_7_method_23_code 81 = .ok (.bipush 16, 2) := by decide +kernel
theorem d_M_lookInstruction_83 : decode prog_7_method_23_code 83 = .ok (.if_icmp .eq 10, 3) := by decide +kernel
theorem d_M_lookInstruction_86 : decode prog_7_method_23_code 86 = .ok (.iload 4, 2) := by decide +kernel
theorem d_M_lookInstruction_88 : decode prog_7_method_23_code 88 = .ok (.bipush 17, 2) := by decide +kernel
theorem d_M_lookInstruction_90 : decode prog_7_method_23_code 90 = .ok (.if_icmp .ne 50, 3) := by decide +kernel
theorem d_M_lookInstruction_93 : decode prog_7_method_23_code 93 = .ok (.aload_n 0, 1) := by decide +kernel
theorem d_M_lookInstruction_94 : decode prog_7_method_23_code 94 = .ok (.iload_n 1, 1) := by decide +kernel
theorem d_M_lookInstruction_95 : decode prog_7_method_23_code 95 = .ok (.iconst 1, 1) := by decide +kernel
theorem d_M_lookInstruction_96 : decode prog_7_method_23_code 96 = .ok (.iadd, 1) := by decide +kernel
theorem d_M_lookInstruction_97 : decode prog_7_method_23_code 97 = .ok (.invokevirtual 130, 3) := by decide +kernel
theorem d_M_lookInstruction_100 : decode prog_7_method_23_code 100 = .ok (.aload_n 0, 1) := by decide +kernel
theorem d_M_lookInstruction_101 : decode prog_7_method_23_code 101 = .ok (.invokevirtual 70, 3) := by decide +kernel
theorem d_M_lookInstruction_104 : decode prog_7_method_23_code 104 = .ok (.ifCond .eq 149, 3) := by decide +kernel
theorem d_M_lookInstruction_107 : decode prog_7_method_23_code 107 = .ok (.aload_n 0, 1) := by decide +kernel
theorem d_M_lookInstruction_108 : decode prog_7_method_23_code 108 = .ok (.iload_n 1, 1) := by decide +kernel
theorem d_M_lookInstruction_109 : decode prog_7_method_23_code 109 = .ok (.iconst 2, 1) := by decide +kernel
theorem d_M_lookInstruction_110 : decode prog_7_method_23_code 110 = .ok (.iadd, 1) := by decide +kernel
theorem d_M_lookInstruction_111 : decode prog_7_method_23_code 111 = .ok (.invokevirtual 56, 3) := by decide +kernel
theorem d_M_lookInstruction_114 : decode prog_7_method_23_code 114 = .ok (.aload_n 0, 1) := by decide +kernel
theorem d_M_lookInstruction_115 : decode prog_7_method_23_code 115 = .ok (.aload_n 0, 1) := by decide +kernel
theorem d_M_lookInstruction_116 : decode prog_7_method_23_code 116 = .ok (.iload_n 1, 1) := by decide +kernel
theorem d_M_lookInstruction_117 : decode prog_7_method_23_code 117 = .ok (.iconst 1, 1) := by decide +kernel
theorem d_M_lookInstruction_118 : decode prog_7_method_23_code 118 = .ok (.iadd, 1) := by decide +kernel
theorem d_M_lookInstruction_119 : decode prog_7_method_23_code 119 = .ok (.invokevirtual 56, 3) := by decide +kernel
theorem d_M_lookInstruction_122 : decode prog_7_method_23_code 122 = .ok (.invokevirtual 133, 3) := by decide +kernel
theorem d_M_lookInstruction_125 : decode prog_7_method_23_code 125 = .ok (.if_icmp .lt 128, 3) := by decide +kernel
theorem d_M_lookInstruction_128 : decode prog_7_method_23_code 128 = .ok (.aload_n 0, 1) := by decide +kernel
theorem d_M_lookInstruction_129 : decode prog_7_method_23_code 129 = .ok (.bipush 9, 2) := by decide +kernel
theorem d_M_lookInstruction_131 : decode prog_7_method_23_code 131 = .ok (.iload_n 1, 1) := by decide +kernel
theorem d_M_lookInstruction_132 : decode prog_7_method_23_code 132 = .ok (.iconst 2, 1) := by decide +kernel
theorem d_M_lookInstruction_133 : decode prog_7_method_23_code 133 = .ok (.iadd, 1) := by decide +kernel
theorem d_M_lookInstruction_134 : decode prog_7_method_23_code 134 = .ok (.invokevirtual 63, 3) := by decide +kernel
theorem d_M_lookInstruction_137 : decode prog_7_method_23_code 137 = .ok (.goto 116, 3) := by decide +kernel
theorem d_M_lookInstruction_140 : decode prog_7_method_23_code 140 = .ok (.iload 4, 2) := by decide +kernel
theorem d_M_lookInstruction_142 : decode prog_7_method_23_code 142 = .ok (.bipush 21, 2) := by decide +kernel
theorem d_M_lookInstruction_144 : decode prog_7_method_23_code 144 = .ok (.if_icmp .eq 24, 3) := by decide +kernel
theorem d_M_lookInstruction_147 : decode prog_7_method_23_code 147 = .ok (.iload 4, 2) := by decide +kernel
theorem d_M_lookInstruction_149 : decode prog_7_method_23_code 149 = .ok (.bipush 22, 2) := by decide +kernel
theorem d_M_lookInstruction_151 : decode prog_7_method_23_code 151 = .ok (.if_icmp .eq 17, 3) := by decide +kernel
theorem d_M_lookInstruction_154 : decode prog_7_method_23_code 154 = .ok (.iload 4, 2) := by decide +kernel
theorem d_M_lookInstruction_156 : decode prog_7_method_23_code 156 = .ok (.bipush 46, 2) := by decide +kernel
theorem d_M_lookInstruction_158 : decode prog_7_method_23_code 158 = .ok (.if_icmp .le 20, 3) := by decide +kernel
theorem d_M_lookInstruction_161 : decode prog_7_method_23_code 161 = .ok (.iload 4, 2) := by decide +kernel
theorem d_M_lookInstruction_163 : decode prog_7_method_23_code 163 = .ok (.bipush 52, 2) := by decide +kernel
theorem d_M_lookInstruction_165 : decode prog_7_method_23_code 165 = .ok (.if_icmp .ge 13, 3) := by decide +kernel
theorem d_M_lookInstruction_168 : decode prog_7_method_23_code 168 = .ok (.aload_n 0, 1) := by decide +kernel
theorem d_M_lookInstruction_169 : decode prog_7_method_23_code 169 = .ok (.iload_n 1, 1) := by decide +kernel
theorem d_M_lookInstruction_170 : decode prog_7_method_23_code 170 = .ok (.iconst 1, 1) := by decide +kernel
theorem d_M_lookInstruction_171 : decode prog_7_method_23_code 171 = .ok (.iadd, 1) := by decide +kernel
theorem d_M_lookInstruction_172 : decode prog_7_method_23_code 172 = .ok (.invokevirtual 130, 3) := by decide +kernel
theorem d_M_lookInstruction_175 : decode prog_7_method_23_code 175 = .ok (.goto 78, 3) := by decide +kernel
theorem d_M_lookInstruction_178 : decode prog_7_method_23_code 178 = .ok (.iload 4, 2) := by decide +kernel
theorem d_M_lookInstruction_180 : decode prog_7_method_23_code 180 = .ok (.bipush 23, 2) := by decide +kernel
theorem d_M_lookInstruction_182 : decode prog_7_method_23_code 182 = .ok (.if_icmp .ne 34, 3) := by decide +kernel
theorem d_M_lookInstruction_185 : decode prog_7_method_23_code 185 = .ok (.aload_n 0, 1) := by decide +kernel
theorem d_M_lookInstruction_186 : decode prog_7_method_23_code 186 = .ok (.iload_n 1, 1) := by decide +kernel
theorem d_M_lookInstruction_187 : decode prog_7_method_23_code 187 = .ok (.iconst 1, 1) := by decide +kernel
theorem d_M_lookInstruction_188 : decode prog_7_method_23_code 188 = .ok (.iadd, 1) := by decide +kernel
theorem d_M_lookInstruction_189 : decode prog_7_method_23_code 189 = .ok (.invokevirtual 56, 3) := by decide +kernel
theorem d_M_lookInstruction_192 : decode prog_7_method_23_code 192 = .ok (.aload_n 0, 1) := by decide +kernel
theorem d_M_lookInstruction_193 : decode prog_7_method_23_code 193 = .ok (.getfield 114, 3) := by decide +kernel
theorem d_M_lookInstruction_196 : decode prog_7_method_23_code 196 = .ok (.aload_n 0, 1) := by decide +kernel
theorem d_M_lookInstruction_197 : decode prog_7_method_23_code 197 = .ok (.getfield 108, 3) := by decide +kernel
theorem d_M_lookInstruction_200 : decode prog_7_method_23_code 200 = .ok (.iadd, 1) := by decide +kernel
theorem d_M_lookInstruction_201 : decode prog_7_method_23_code 201 = .ok (.if_icmp .lt 52, 3) := by decide +kernel
theorem d_M_lookInstruction_204 : decode prog_7_method_23_code 204 = .ok (.aload_n 0, 1) := by decide +kernel
theorem d_M_lookInstruction_205 : decode prog_7_method_23_code 205 = .ok (.bipush 11, 2) := by decide +kernel
theorem d_M_lookInstruction_207 : decode prog_7_method_23_code 207 = .ok (.iload_n 1, 1) := by decide +kernel
theorem d_M_lookInstruction_208 : decode prog_7_method_23_code 208 = .ok (.iconst 1, 1) := by decide +kernel
theorem d_M_lookInstruction_209 : decode prog_7_method_23_code 209 = .ok (.iadd, 1) := by decide +kernel
theorem d_M_lookInstruction_210 : decode prog_7_method_23_code 210 = .ok (.invokevirtual 63, 3) := by decide +kernel
theorem d_M_lookInstruction_213 : decode prog_7_method_23_code 213 = .ok (.goto 40, 3) := by decide +kernel
theorem d_M_lookInstruction_216 : decode prog_7_method_23_code 216 = .ok (.iload 4, 2) := by decide +kernel
theorem d_M_lookInstruction_218 : decode prog_7_method_23_code 218 = .ok (.bipush 51, 2) := by decide +kernel
theorem d_M_lookInstruction_220 : decode prog_7_method_23_code 220 = .ok (.if_icmp .le 33, 3) := by decide +kernel
theorem d_M_lookInstruction_223 : decode prog_7_method_23_code 223 = .ok (.iload 4, 2) := by decide +kernel
theorem d_M_lookInstruction_225 : decode prog_7_method_23_code 225 = .ok (.bipush 59, 2) := by decide +kernel
theorem d_M_lookInstruction_227 : decode prog_7_method_23_code 227 = .ok (.if_icmp .ge 26, 3) := by decide +kernel
theorem d_M_lookInstruction_230 : decode prog_7_method_23_code 230 = .ok (.aload_n 0, 1) := by decide +kernel
theorem d_M_lookInstruction_231 : decode prog_7_method_23_code 231 = .ok (.iload_n 1, 1) := by decide +kernel
theorem d_M_lookInstruction_232 : decode prog_7_method_23_code 232 = .ok (.iconst 1, 1) := by decide +kernel
theorem d_M_lookInstruction_233 : decode prog_7_method_23_code 233 = .ok (.iadd, 1) := by decide +kernel
theorem d_M_lookInstruction_234 : decode prog_7_method_23_code 234 = .ok (.invokevirtual 56, 3) := by decide +kernel
theorem d_M_lookInstruction_237 : decode prog_7_method_23_code 237 = .ok (.aload_n 0, 1) := by decide +kernel
theorem d_M_lookInstruction_238 : decode prog_7_method_23_code 238 = .ok (.getfield 111, 3) := by decide +kernel
theorem d_M_lookInstruction_241 : decode prog_7_method_23_code 241 = .ok (.if_icmp .lt 12, 3) := by decide +kernel
theorem d_M_lookInstruction_244 : decode prog_7_method_23_code 244 = .ok (.aload_n 0, 1) := by decide +kernel
theorem d_M_lookInstruction_245 : decode prog_7_method_23_code 245 = .ok (.bipush 12, 2) := by decide +kernel
theorem d_M_lookInstruction_247 : decode prog_7_method_23_code 247 = .ok (.iload_n 1, 1) := by decide +kernel
theorem d_M_lookInstruction_248 : decode prog_7_method_23_code 248 = .ok (.iconst 1, 1) := by decide +kernel
theorem d_M_lookInstruction_249 : decode prog_7_method_23_code 249 = .ok (.iadd, 1) := by decide +kernel
theorem d_M_lookInstruction_250 : decode prog_7_method_23_code 250 = .ok (.invokevirtual 63, 3) := by decide +kernel
theorem d_M_lookInstruction_253 : decode prog_7_method_23_code 253 = .ok (.return_, 1) := by decide +kernel
abbrev T_M_lookInstruction : List (Nat × ct_PT) := [(0, o_aload 0 1), (1, o_iload 1 1), (5, o_istore 4 2), (7, o_iload 4 2), (9, o_push (.int 1) 1), (10, o_ic (fun x y => x ≤ y) (fun x y => ¬ x ≤ y) 42), (13, o_iload 4 2), (15, o_push (.int 5) 1), (16, o_ic (fun x y => y ≤ x) (fun x y => ¬ y ≤ x) 42), (19, o_aload 0 1), (20, o_iload 1 1), (21, o_push (.int 1) 1), (22, o_ii fun x y => x + y), (26, o_iload 3 1), (27, o_ic (fun x y => x < y) (fun x y => ¬ x < y) 253), (30, o_aload 0 1), (31, o_push (.int 13) 2), (33, o_iload 1 1), (34, o_push (.int 1) 1), (35, o_ii fun x y => x + y), (39, o_goto 253), (42, o_iload 4 2), (44, o_push (.int 10) 2), (46, o_ic (fun x y => x ≤ y) (fun x y => ¬ x ≤ y) 79), (49, o_iload 4 2), (51, o_push (.int 16) 2), (53, o_ic (fun x y => y ≤ x) (fun x y => ¬ y ≤ x) 79), (56, o_aload 0 1), (57, o_iload 1 1), (58, o_push (.int 1) 1), (59, o_ii fun x y => x + y), (63, o_iload 2 1), (64, o_ic (fun x y => x < y) (fun x y => ¬ x < y) 253), (67, o_aload 0 1), (68, o_push (.int 10) 2), (70, o_iload 1 1), (71, o_push (.int 1) 1), (72, o_ii fun x y => x + y), (76, o_goto 253), (79, o_iload 4 2), (81, o_push (.int 16) 2), (83, o_ic (fun x y => x = y) (fun x y => ¬ x = y) 93), (86, o_iload 4 2), (88, o_push (.int 17) 2), (90, o_ic (fun x y => ¬ x = y) (fun x y => x = y) 140), (93, o_aload 0 1), (94, o_iload 1 1), (95, o_push (.int 1) 1), (96, o_ii fun x y => x + y), (100, o_aload 0 1), (104, o_if (fun x => x = 0) (fun x => ¬ x = 0) 253), (107, o_aload 0 1), (108, o_iload 1 1), (109, o_push (.int 2) 1), (110, o_ii fun x y => x + y), (114, o_aload 0 1), (115, o_aload 0 1), (116, o_iload 1 1), (117, o_push (.int 1) 1), (118, o_ii fun x y => x + y), (125, o_ic (fun x y => x < y) (fun x y => ¬ x < y) 253), (128, o_aload 0 1), (129, o_push (.int 9) 2), (131, o_iload 1 1), (132, o_push (.int 2) 1), (133, o_ii fun x y => x + y), (137, o_goto 253), (140, o_iload 4 2), (142, o_push (.int 21) 2), (144, o_ic (fun x y => x = y) (fun x y => ¬ x = y) 168), (147, o_iload 4 2), (149, o_push (.int 22) 2), (151, o_ic (fun x y => x = y) (fun x y => ¬ x = y) 168), (154, o_iload 4 2), (156, o_push (.int 46) 2), (158, o_ic (fun x y => x ≤ y) (fun x y => ¬ x ≤ y) 178), (161, o_iload 4 2), (163, o_push (.int 52) 2), (165, o_ic (fun x y => y ≤ x) (fun x y => ¬ y ≤ x) 178), (168, o_aload 0 1), (169, o_iload 1 1), (170, o_push (.int 1) 1), (171, o_ii fun x y => x + y), (175, o_goto 253), (178, o_iload 4 2), (180, o_push (.int 23) 2), (182, o_ic (fun x y => ¬ x = y) (fun x y => x = y) 216), (185, o_aload 0 1), (186, o_iload 1 1), (187, o_push (.int 1) 1), (188, o_ii fun x y => x + y), (192, o_aload 0 1), (193, o_getI 4 24 13), (196, o_aload 0 1), (197, o_getI 4 24 11), (200, o_ii fun x y => x + y), (201, o_ic (fun x y => x < y) (fun x y => ¬ x < y) 253), (204, o_aload 0 1), (205, o_push (.int 11) 2), (207, o_iload 1 1), (208, o_push (.int 1) 1), (209, o_ii fun x y => x + y), (213, o_goto 253), (216, o_iload 4 2), (218, o_push (.int 51) 2), (220, o_ic (fun x y => x ≤ y) (fun x y => ¬ x ≤ y) 253), (223, o_iload 4 2), (225, o_push (.int 59) 2), (227, o_ic (fun x y => y ≤ x) (fun x y => ¬ y ≤ x) 253), (230, o_aload 0 1), (231, o_iload 1 1), (232, o_push (.int 1) 1), (233, o_ii fun x y => x + y), (237, o_aload 0 1), (238, o_getI 4 24 12), (241, o_ic (fun x y => x < y) (fun x y => ¬ x < y) 253), (244, o_aload 0 1), (245, o_push (.int 12) 2), (247, o_iload 1 1), (248, o_push (.int 1) 1), (249, o_ii fun x y => x + y)]
set_option maxRecDepth 100000 in
theorem A_M_lookInstruction (l : ct_Lx) : ct_al l M_M_lookInstruction (T_M_lookInstruction) := by
  refine ct_al.cons (so_aload_n d_M_lookInstruction_0 rfl) ?_
  refine ct_al.cons (so_iload_n d_M_lookInstruction_1 rfl) ?_
  refine ct_al.cons (so_istore d_M_lookInstruction_5 (by decide)) ?_
  refine ct_al.cons (so_iload d_M_lookInstruction_7) ?_
  refine ct_al.cons (so_iconst d_M_lookInstruction_9 (by decide)) ?_
  refine ct_al.cons (so_ic_le d_M_lookInstruction_10 (by decide)) ?_
  refine ct_al.cons (so_iload d_M_lookInstruction_13) ?_
  refine ct_al.cons (so_iconst d_M_lookInstruction_15 (by decide)) ?_
  refine ct_al.cons (so_ic_ge d_M_lookInstruction_16 (by decide)) ?_
  refine ct_al.cons (so_aload_n d_M_lookInstruction_19 rfl) ?_
  refine ct_al.cons (so_iload_n d_M_lookInstruction_20 rfl) ?_
  refine ct_al.cons (so_iconst d_M_lookInstruction_21 (by decide)) ?_
  refine ct_al.cons (so_iadd d_M_lookInstruction_22) ?_
  refine ct_al.cons (so_iload_n d_M_lookInstruction_26 rfl) ?_
  refine ct_al.cons (so_ic_lt d_M_lookInstruction_27 (by decide)) ?_
  refine ct_al.cons (so_aload_n d_M_lookInstruction_30 rfl) ?_
  refine ct_al.cons (so_bipush d_M_lookInstruction_31 (by decide)) ?_
  refine ct_al.cons (so_iload_n d_M_lookInstruction_33 rfl) ?_
  refine ct_al.cons (so_iconst d_M_lookInstruction_34 (by decide)) ?_
  refine ct_al.cons (so_iadd d_M_lookInstruction_35) ?_
  refine ct_al.cons (so_goto d_M_lookInstruction_39 (by decide)) ?_
  refine ct_al.cons (so_iload d_M_lookInstruction_42) ?_
  refine ct_al.cons (so_bipush d_M_lookInstruction_44 (by decide)) ?_
  refine ct_al.cons (so_ic_le d_M_lookInstruction_46 (by decide)) ?_
  refine ct_al.cons (so_iload d_M_lookInstruction_49) ?_
  refine ct_al.cons (so_bipush d_M_lookInstruction_51 (by decide)) ?_
  refine ct_al.cons (so_ic_ge d_M_lookInstruction_53 (by decide)) ?_
  refine ct_al.cons (so_aload_n d_M_lookInstruction_56 rfl) ?_
  refine ct_al.cons (so_iload_n d_M_lookInstruction_57 rfl) ?_
  refine ct_al.cons (so_iconst d_M_lookInstruction_58 (by decide)) ?_
  refine ct_al.cons (so_iadd d_M_lookInstruction_59) ?_
  refine ct_al.cons (so_iload_n d_M_lookInstruction_63 rfl) ?_
  refine ct_al.cons (so_ic_lt d_M_lookInstruction_64 (by decide)) ?_
  refine ct_al.cons (so_aload_n d_M_lookInstruction_67 rfl) ?_
  refine ct_al.cons (so_bipush d_M_lookInstruction_68 (by decide)) ?_
  refine ct_al.cons (so_iload_n d_M_lookInstruction_70 rfl) ?_
  refine ct_al.cons (so_iconst d_M_lookInstruction_71 (by decide)) ?_
  refine ct_al.cons (so_iadd d_M_lookInstruction_72) ?_
  refine ct_al.cons (so_goto d_M_lookInstruction_76 (by decide)) ?_
  refine ct_al.cons (so_iload d_M_lookInstruction_79) ?_
  refine ct_al.cons (so_bipush d_M_lookInstruction_81 (by decide)) ?_
  refine ct_al.cons (so_ic_eq d_M_lookInstruction_83 (by decide)) ?_
  refine ct_al.cons (so_iload d_M_lookInstruction_86) ?_
  refine ct_al.cons (so_bipush d_M_lookInstruction_88 (by decide)) ?_
  refine ct_al.cons (so_ic_ne d_M_lookInstruction_90 (by decide)) ?_
  refine ct_al.cons (so_aload_n d_M_lookInstruction_93 rfl) ?_
  refine ct_al.cons (so_iload_n d_M_lookInstruction_94 rfl) ?_
  refine ct_al.cons (so_iconst d_M_lookInstruction_95 (by decide)) ?_
  refine ct_al.cons (so_iadd d_M_lookInstruction_96) ?_
  refine ct_al.cons (so_aload_n d_M_lookInstruction_100 rfl) ?_
  refine ct_al.cons (so_if_eq d_M_lookInstruction_104 (by decide)) ?_
  refine ct_al.cons (so_aload_n d_M_lookInstruction_107 rfl) ?_
  refine ct_al.cons (so_iload_n d_M_lookInstruction_108 rfl) ?_
  refine ct_al.cons (so_iconst d_M_lookInstruction_109 (by decide)) ?_
  refine ct_al.cons (so_iadd d_M_lookInstruction_110) ?_
  refine ct_al.cons (so_aload_n d_M_lookInstruction_114 rfl) ?_
  refine ct_al.cons (so_aload_n d_M_lookInstruction_115 rfl) ?_
  refine ct_al.cons (so_iload_n d_M_lookInstruction_116 rfl) ?_
  refine ct_al.cons (so_iconst d_M_lookInstruction_117 (by decide)) ?_
  refine ct_al.cons (so_iadd d_M_lookInstruction_118) ?_
  refine ct_al.cons (so_ic_lt d_M_lookInstruction_125 (by decide)) ?_
  refine ct_al.cons (so_aload_n d_M_lookInstruction_128 rfl) ?_
  refine ct_al.cons (so_bipush d_M_lookInstruction_129 (by decide)) ?_
  refine ct_al.cons (so_iload_n d_M_lookInstruction_131 rfl) ?_
  refine ct_al.cons (so_iconst d_M_lookInstruction_132 (by decide)) ?_
  refine ct_al.cons (so_iadd d_M_lookInstruction_133) ?_
  refine ct_al.cons (so_goto d_M_lookInstruction_137 (by decide)) ?_
  refine ct_al.cons (so_iload d_M_lookInstruction_140) ?_
  refine ct_al.cons (so_bipush d_M_lookInstruction_142 (by decide)) ?_
  refine ct_al.cons (so_ic_eq d_M_lookInstruction_144 (by decide)) ?_
  refine ct_al.cons (so_iload d_M_lookInstruction_147) ?_
  refine ct_al.cons (so_bipush d_M_lookInstruction_149 (by decide)) ?_
  refine ct_al.cons (so_ic_eq d_M_lookInstruction_151 (by decide)) ?_
  refine ct_al.cons (so_iload d_M_lookInstruction_154) ?_
  refine ct_al.cons (so_bipush d_M_lookInstruction_156 (by decide)) ?_
  refine ct_al.cons (so_ic_le d_M_lookInstruction_158 (by decide)) ?_
  refine ct_al.cons (so_iload d_M_lookInstruction_161) ?_
  refine ct_al.cons (so_bipush d_M_lookInstruction_163 (by decide)) ?_
  refine ct_al.cons (so_ic_ge d_M_lookInstruction_165 (by decide)) ?_
  refine ct_al.cons (so_aload_n d_M_lookInstruction_168 rfl) ?_
  refine ct_al.cons (so_iload_n d_M_lookInstruction_169 rfl) ?_
  refine ct_al.cons (so_iconst d_M_lookInstruction_170 (by decide)) ?_
  refine ct_al.cons (so_iadd d_M_lookInstruction_171) ?_
  refine ct_al.cons (so_goto d_M_lookInstruction_175 (by decide)) ?_
  refine ct_al.cons (so_iload d_M_lookInstruction_178) ?_
  refine ct_al.cons (so_bipush d_M_lookInstruction_180 (by decide)) ?_
  refine ct_al.cons (so_ic_ne d_M_lookInstruction_182 (by decide)) ?_
  refine ct_al.cons (so_aload_n d_M_lookInstruction_185 rfl) ?_
  refine ct_al.cons (so_iload_n d_M_lookInstruction_186 rfl) ?_
  refine ct_al.cons (so_iconst d_M_lookInstruction_187 (by decide)) ?_
  refine ct_al.cons (so_iadd d_M_lookInstruction_188) ?_
  refine ct_al.cons (so_aload_n d_M_lookInstruction_192 rfl) ?_
  refine ct_al.cons (so_getI (Cn := "CodeTablesModel") (T := ct_T4) kc_4 (by decide) rfl rfl wd_415 d_M_lookInstruction_193) ?_
  refine ct_al.cons (so_aload_n d_M_lookInstruction_196 rfl) ?_
  refine ct_al.cons (so_getI (Cn := "CodeTablesModel") (T := ct_T4) kc_4 (by decide) rfl rfl wd_413 d_M_lookInstruction_197) ?_
  refine ct_al.cons (so_iadd d_M_lookInstruction_200) ?_
  refine ct_al.cons (so_ic_lt d_M_lookInstruction_201 (by decide)) ?_
  refine ct_al.cons (so_aload_n d_M_lookInstruction_204 rfl) ?_
  refine ct_al.cons (so_bipush d_M_lookInstruction_205 (by decide)) ?_
  refine ct_al.cons (so_iload_n d_M_lookInstruction_207 rfl) ?_
  refine ct_al.cons (so_iconst d_M_lookInstruction_208 (by decide)) ?_
  refine ct_al.cons (so_iadd d_M_lookInstruction_209) ?_
  refine ct_al.cons (so_goto d_M_lookInstruction_213 (by decide)) ?_
  refine ct_al.cons (so_iload d_M_lookInstruction_216) ?_
  refine ct_al.cons (so_bipush d_M_lookInstruction_218 (by decide)) ?_
  refine ct_al.cons (so_ic_le d_M_lookInstruction_220 (by decide)) ?_
  refine ct_al.cons (so_iload d_M_lookInstruction_223) ?_
  refine ct_al.cons (so_bipush d_M_lookInstruction_225 (by decide)) ?_
  refine ct_al.cons (so_ic_ge d_M_lookInstruction_227 (by decide)) ?_
  refine ct_al.cons (so_aload_n d_M_lookInstruction_230 rfl) ?_
  refine ct_al.cons (so_iload_n d_M_lookInstruction_231 rfl) ?_
  refine ct_al.cons (so_iconst d_M_lookInstruction_232 (by decide)) ?_
  refine ct_al.cons (so_iadd d_M_lookInstruction_233) ?_
  refine ct_al.cons (so_aload_n d_M_lookInstruction_237 rfl) ?_
  refine ct_al.cons (so_getI (Cn := "CodeTablesModel") (T := ct_T4) kc_4 (by decide) rfl rfl wd_414 d_M_lookInstruction_238) ?_
  refine ct_al.cons (so_ic_lt d_M_lookInstruction_241 (by decide)) ?_
  refine ct_al.cons (so_aload_n d_M_lookInstruction_244 rfl) ?_
  refine ct_al.cons (so_bipush d_M_lookInstruction_245 (by decide)) ?_
  refine ct_al.cons (so_iload_n d_M_lookInstruction_247 rfl) ?_
  refine ct_al.cons (so_iconst d_M_lookInstruction_248 (by decide)) ?_
  refine ct_al.cons (so_iadd d_M_lookInstruction_249) ?_
  exact ct_al.nil
set_option maxRecDepth 100000 in
theorem e_M_lookInstruction_0 : ct_tab (T_M_lookInstruction) 0 = some (o_aload 0 1) := rfl
set_option maxRecDepth 100000 in
theorem e_M_lookInstruction_1 : ct_tab (T_M_lookInstruction) 1 = some (o_iload 1 1) := rfl
set_option maxRecDepth 100000 in
theorem e_M_lookInstruction_5 : ct_tab (T_M_lookInstruction) 5 = some (o_istore 4 2) := rfl
set_option maxRecDepth 100000 in
theorem e_M_lookInstruction_7 : ct_tab (T_M_lookInstruction) 7 = some (o_iload 4 2) := rfl
set_option maxRecDepth 100000 in
theorem e_M_lookInstruction_9 : ct_tab (T_M_lookInstruction) 9 = some (o_push (.int 1) 1) := rfl
set_option maxRecDepth 100000 in
theorem e_M_lookInstruction_10 : ct_tab (T_M_lookInstruction) 10 = some (o_ic (fun x y => x ≤ y) (fun x y => ¬ x ≤ y) 42) := rfl
set_option maxRecDepth 100000 in
theorem e_M_lookInstruction_13 : ct_tab (T_M_lookInstruction) 13 = some (o_iload 4 2) := rfl
set_option maxRecDepth 100000 in
theorem e_M_lookInstruction_15 : ct_tab (T_M_lookInstruction) 15 = some (o_push (.int 5) 1) := rfl
set_option maxRecDepth 100000 in
theorem e_M_lookInstruction_16 : ct_tab (T_M_lookInstruction) 16 = some (o_ic (fun x y => y ≤ x) (fun x y => ¬ y ≤ x) 42) := rfl
set_option maxRecDepth 100000 in
theorem e_M_lookInstruction_19 : ct_tab (T_M_lookInstruction) 19 = some (o_aload 0 1) := rfl
set_option maxRecDepth 100000 in
theorem e_M_lookInstruction_20 : ct_tab (T_M_lookInstruction) 20 = some (o_iload 1 1) := rfl
set_option maxRecDepth 100000 in
theorem e_M_lookInstruction_21 : ct_tab (T_M_lookInstruction) 21 = some (o_push (.int 1) 1) := rfl
set_option maxRecDepth 100000 in
theorem e_M_lookInstruction_22 : ct_tab (T_M_lookInstruction) 22 = some (o_ii fun x y => x + y) := rfl
set_option maxRecDepth 100000 in
theorem e_M_lookInstruction_26 : ct_tab (T_M_lookInstruction) 26 = some (o_iload 3 1) := rfl
set_option maxRecDepth 100000 in
theorem e_M_lookInstruction_27 : ct_tab (T_M_lookInstruction) 27 = some (o_ic (fun x y => x < y) (fun x y => ¬ x < y) 253) := rfl
set_option maxRecDepth 100000 in
theorem e_M_lookInstruction_30 : ct_tab (T_M_lookInstruction) 30 = some (o_aload 0 1) := rfl
set_option maxRecDepth 100000 in
theorem e_M_lookInstruction_31 : ct_tab (T_M_lookInstruction) 31 = some (o_push (.int 13) 2) := rfl
set_option maxRecDepth 100000 in
theorem e_M_lookInstruction_33 : ct_tab (T_M_lookInstruction) 33 = some (o_iload 1 1) := rfl
set_option maxRecDepth 100000 in
theorem e_M_lookInstruction_34 : ct_tab (T_M_lookInstruction) 34 = some (o_push (.int 1) 1) := rfl
set_option maxRecDepth 100000 in
theorem e_M_lookInstruction_35 : ct_tab (T_M_lookInstruction) 35 = some (o_ii fun x y => x + y) := rfl
set_option maxRecDepth 100000 in
theorem e_M_lookInstruction_39 : ct_tab (T_M_lookInstruction) 39 = some (o_goto 253) := rfl
set_option maxRecDepth 100000 in
theorem e_M_lookInstruction_42 : ct_tab (T_M_lookInstruction) 42 = some (o_iload 4 2) := rfl
set_option maxRecDepth 100000 in
theorem e_M_lookInstruction_44 : ct_tab (T_M_lookInstruction) 44 = some (o_push (.int 10) 2) := rfl
set_option maxRecDepth 100000 in
theorem e_M_lookInstruction_46 : ct_tab (T_M_lookInstruction) 46 = some (o_ic (fun x y => x ≤ y) (fun x y => ¬ x ≤ y) 79) := rfl
set_option maxRecDepth 100000 in
theorem e_M_lookInstruction_49 : ct_tab (T_M_lookInstruction) 49 = some (o_iload 4 2) := rfl
set_option maxRecDepth 100000 in
theorem e_M_lookInstruction_51 : ct_tab (T_M_lookInstruction) 51 = some (o_push (.int 16) 2) := rfl
set_option maxRecDepth 100000 in
theorem e_M_lookInstruction_53 : ct_tab (T_M_lookInstruction) 53 = some (o_ic (fun x y => y ≤ x) (fun x y => ¬ y ≤ x) 79) := rfl
set_option maxRecDepth 100000 in
theorem e_M_lookInstruction_56 : ct_tab (T_M_lookInstruction) 56 = some (o_aload 0 1) := rfl
set_option maxRecDepth 100000 in
theorem e_M_lookInstruction_57 : ct_tab (T_M_lookInstruction) 57 = some (o_iload 1 1) := rfl
set_option maxRecDepth 100000 in
theorem e_M_lookInstruction_58 : ct_tab (T_M_lookInstruction) 58 = some (o_push (.int 1) 1) := rfl
set_option maxRecDepth 100000 in
theorem e_M_lookInstruction_59 : ct_tab (T_M_lookInstruction) 59 = some (o_ii fun x y => x + y) := rfl
set_option maxRecDepth 100000 in
theorem e_M_lookInstruction_63 : ct_tab (T_M_lookInstruction) 63 = some (o_iload 2 1) := rfl
set_option maxRecDepth 100000 in
theorem e_M_lookInstruction_64 : ct_tab (T_M_lookInstruction) 64 = some (o_ic (fun x y => x < y) (fun x y => ¬ x < y) 253) := rfl
set_option maxRecDepth 100000 in
theorem e_M_lookInstruction_67 : ct_tab (T_M_lookInstruction) 67 = some (o_aload 0 1) := rfl
set_option maxRecDepth 100000 in
theorem e_M_lookInstruction_68 : ct_tab (T_M_lookInstruction) 68 = some (o_push (.int 10) 2) := rfl
set_option maxRecDepth 100000 in
theorem e_M_lookInstruction_70 : ct_tab (T_M_lookInstruction) 70 = some (o_iload 1 1) := rfl
set_option maxRecDepth 100000 in
theorem e_M_lookInstruction_71 : ct_tab (T_M_lookInstruction) 71 = some (o_push (.int 1) 1) := rfl
set_option maxRecDepth 100000 in
theorem e_M_lookInstruction_72 : ct_tab (T_M_lookInstruction) 72 = some (o_ii fun x y => x + y) := rfl
set_option maxRecDepth 100000 in
theorem e_M_lookInstruction_76 : ct_tab (T_M_lookInstruction) 76 = some (o_goto 253) := rfl
set_option maxRecDepth 100000 in
theorem e_M_lookInstruction_79 : ct_tab (T_M_lookInstruction) 79 = some (o_iload 4 2) := rfl
set_option maxRecDepth 100000 in
theorem e_M_lookInstruction_81 : ct_tab (T_M_lookInstruction) 81 = some (o_push (.int 16) 2) := rfl
set_option maxRecDepth 100000 in
theorem e_M_lookInstruction_83 : ct_tab (T_M_lookInstruction) 83 = some (o_ic (fun x y => x = y) (fun x y => ¬ x = y) 93) := rfl
set_option maxRecDepth 100000 in
theorem e_M_lookInstruction_86 : ct_tab (T_M_lookInstruction) 86 = some (o_iload 4 2) := rfl
set_option maxRecDepth 100000 in
theorem e_M_lookInstruction_88 : ct_tab (T_M_lookInstruction) 88 = some (o_push (.int 17) 2) := rfl
set_option maxRecDepth 100000 in
theorem e_M_lookInstruction_90 : ct_tab (T_M_lookInstruction) 90 = some (o_ic (fun x y => ¬ x = y) (fun x y => x = y) 140) := rfl
set_option maxRecDepth 100000 in
theorem e_M_lookInstruction_93 : ct_tab (T_M_lookInstruction) 93 = some (o_aload 0 1) := rfl
set_option maxRecDepth 100000 in
theorem e_M_lookInstruction_94 : ct_tab (T_M_lookInstruction) 94 = some (o_iload 1 1) := rfl
set_option maxRecDepth 100000 in
theorem e_M_lookInstruction_95 : ct_tab (T_M_lookInstruction) 95 = some (o_push (.int 1) 1) := rfl
set_option maxRecDepth 100000 in
theorem e_M_lookInstruction_96 : ct_tab (T_M_lookInstruction) 96 = some (o_ii fun x y => x + y) := rfl
set_option maxRecDepth 100000 in
theorem e_M_lookInstruction_100 : ct_tab (T_M_lookInstruction) 100 = some (o_aload 0 1) := rfl
set_option maxRecDepth 100000 in
theorem e_M_lookInstruction_104 : ct_tab (T_M_lookInstruction) 104 = some (o_if (fun x => x = 0) (fun x => ¬ x = 0) 253) := rfl
set_option maxRecDepth 100000 in
theorem e_M_lookInstruction_107 : ct_tab (T_M_lookInstruction) 107 = some (o_aload 0 1) := rfl
set_option maxRecDepth 100000 in
theorem e_M_lookInstruction_108 : ct_tab (T_M_lookInstruction) 108 = some (o_iload 1 1) := rfl
set_option maxRecDepth 100000 in
theorem e_M_lookInstruction_109 : ct_tab (T_M_lookInstruction) 109 = some (o_push (.int 2) 1) := rfl
set_option maxRecDepth 100000 in
theorem e_M_lookInstruction_110 : ct_tab (T_M_lookInstruction) 110 = some (o_ii fun x y => x + y) := rfl
set_option maxRecDepth 100000 in
theorem e_M_lookInstruction_114 : ct_tab (T_M_lookInstruction) 114 = some (o_aload 0 1) := rfl
set_option maxRecDepth 100000 in
theorem e_M_lookInstruction_115 : ct_tab (T_M_lookInstruction) 115 = some (o_aload 0 1) := rfl
set_option maxRecDepth 100000 in
theorem e_M_lookInstruction_116 : ct_tab (T_M_lookInstruction) 116 = some (o_iload 1 1) := rfl
set_option maxRecDepth 100000 in
theorem e_M_lookInstruction_117 : ct_tab (T_M_lookInstruction) 117 = some (o_push (.int 1) 1) := rfl
set_option maxRecDepth 100000 in
theorem e_M_lookInstruction_118 : ct_tab (T_M_lookInstruction) 118 = some (o_ii fun x y => x + y) := rfl
set_option maxRecDepth 100000 in
theorem e_M_lookInstruction_125 : ct_tab (T_M_lookInstruction) 125 = some (o_ic (fun x y => x < y) (fun x y => ¬ x < y) 253) := rfl
set_option maxRecDepth 100000 in
theorem e_M_lookInstruction_128 : ct_tab (T_M_lookInstruction) 128 = some (o_aload 0 1) := rfl
set_option maxRecDepth 100000 in
theorem e_M_lookInstruction_129 : ct_tab (T_M_lookInstruction) 129 = some (o_push (.int 9) 2) := rfl
set_option maxRecDepth 100000 in
theorem e_M_lookInstruction_131 : ct_tab (T_M_lookInstruction) 131 = some (o_iload 1 1) := rfl
set_option maxRecDepth 100000 in
theorem e_M_lookInstruction_132 : ct_tab (T_M_lookInstruction) 132 = some (o_push (.int 2) 1) := rfl
set_option maxRecDepth 100000 in
theorem e_M_lookInstruction_133 : ct_tab (T_M_lookInstruction) 133 = some (o_ii fun x y => x + y) := rfl
set_option maxRecDepth 100000 in
theorem e_M_lookInstruction_137 : ct_tab (T_M_lookInstruction) 137 = some (o_goto 253) := rfl
set_option maxRecDepth 100000 in
theorem e_M_lookInstruction_140 : ct_tab (T_M_lookInstruction) 140 = some (o_iload 4 2) := rfl
set_option maxRecDepth 100000 in
theorem e_M_lookInstruction_142 : ct_tab (T_M_lookInstruction) 142 = some (o_push (.int 21) 2) := rfl
set_option maxRecDepth 100000 in
theorem e_M_lookInstruction_144 : ct_tab (T_M_lookInstruction) 144 = some (o_ic (fun x y => x = y) (fun x y => ¬ x = y) 168) := rfl
set_option maxRecDepth 100000 in
theorem e_M_lookInstruction_147 : ct_tab (T_M_lookInstruction) 147 = some (o_iload 4 2) := rfl
set_option maxRecDepth 100000 in
theorem e_M_lookInstruction_149 : ct_tab (T_M_lookInstruction) 149 = some (o_push (.int 22) 2) := rfl
set_option maxRecDepth 100000 in
theorem e_M_lookInstruction_151 : ct_tab (T_M_lookInstruction) 151 = some (o_ic (fun x y => x = y) (fun x y => ¬ x = y) 168) := rfl
set_option maxRecDepth 100000 in
theorem e_M_lookInstruction_154 : ct_tab (T_M_lookInstruction) 154 = some (o_iload 4 2) := rfl
set_option maxRecDepth 100000 in
theorem e_M_lookInstruction_156 : ct_tab (T_M_lookInstruction) 156 = some (o_push (.int 46) 2) := rfl
set_option maxRecDepth 100000 in
theorem e_M_lookInstruction_158 : ct_tab (T_M_lookInstruction) 158 = some (o_ic (fun x y => x ≤ y) (fun x y => ¬ x ≤ y) 178) := rfl
set_option maxRecDepth 100000 in
theorem e_M_lookInstruction_161 : ct_tab (T_M_lookInstruction) 161 = some (o_iload 4 2) := rfl
set_option maxRecDepth 100000 in
theorem e_M_lookInstruction_163 : ct_tab (T_M_lookInstruction) 163 = some (o_push (.int 52) 2) := rfl
set_option maxRecDepth 100000 in
theorem e_M_lookInstruction_165 : ct_tab (T_M_lookInstruction) 165 = some (o_ic (fun x y => y ≤ x) (fun x y => ¬ y ≤ x) 178) := rfl
set_option maxRecDepth 100000 in
theorem e_M_lookInstruction_168 : ct_tab (T_M_lookInstruction) 168 = some (o_aload 0 1) := rfl
set_option maxRecDepth 100000 in
theorem e_M_lookInstruction_169 : ct_tab (T_M_lookInstruction) 169 = some (o_iload 1 1) := rfl
set_option maxRecDepth 100000 in
theorem e_M_lookInstruction_170 : ct_tab (T_M_lookInstruction) 170 = some (o_push (.int 1) 1) := rfl
set_option maxRecDepth 100000 in
theorem e_M_lookInstruction_171 : ct_tab (T_M_lookInstruction) 171 = some (o_ii fun x y => x + y) := rfl
set_option maxRecDepth 100000 in
theorem e_M_lookInstruction_175 : ct_tab (T_M_lookInstruction) 175 = some (o_goto 253) := rfl
set_option maxRecDepth 100000 in
theorem e_M_lookInstruction_178 : ct_tab (T_M_lookInstruction) 178 = some (o_iload 4 2) := rfl
set_option maxRecDepth 100000 in
theorem e_M_lookInstruction_180 : ct_tab (T_M_lookInstruction) 180 = some (o_push (.int 23) 2) := rfl
set_option maxRecDepth 100000 in
theorem e_M_lookInstruction_182 : ct_tab (T_M_lookInstruction) 182 = some (o_ic (fun x y => ¬ x = y) (fun x y => x = y) 216) := rfl
set_option maxRecDepth 100000 in
theorem e_M_lookInstruction_185 : ct_tab (T_M_lookInstruction) 185 = some (o_aload 0 1) := rfl
set_option maxRecDepth 100000 in
theorem e_M_lookInstruction_186 : ct_tab (T_M_lookInstruction) 186 = some (o_iload 1 1) := rfl
set_option maxRecDepth 100000 in
theorem e_M_lookInstruction_187 : ct_tab (T_M_lookInstruction) 187 = some (o_push (.int 1) 1) := rfl
set_option maxRecDepth 100000 in
theorem e_M_lookInstruction_188 : ct_tab (T_M_lookInstruction) 188 = some (o_ii fun x y => x + y) := rfl
set_option maxRecDepth 100000 in
theorem e_M_lookInstruction_192 : ct_tab (T_M_lookInstruction) 192 = some (o_aload 0 1) := rfl
set_option maxRecDepth 100000 in
theorem e_M_lookInstruction_193 : ct_tab (T_M_lookInstruction) 193 = some (o_getI 4 24 13) := rfl
set_option maxRecDepth 100000 in
theorem e_M_lookInstruction_196 : ct_tab (T_M_lookInstruction) 196 = some (o_aload 0 1) := rfl
set_option maxRecDepth 100000 in
theorem e_M_lookInstruction_197 : ct_tab (T_M_lookInstruction) 197 = some (o_getI 4 24 11) := rfl
set_option maxRecDepth 100000 in
theorem e_M_lookInstruction_200 : ct_tab (T_M_lookInstruction) 200 = some (o_ii fun x y => x + y) := rfl
set_option maxRecDepth 100000 in
theorem e_M_lookInstruction_201 : ct_tab (T_M_lookInstruction) 201 = some (o_ic (fun x y => x < y) (fun x y => ¬ x < y) 253) := rfl
set_option maxRecDepth 100000 in
theorem e_M_lookInstruction_204 : ct_tab (T_M_lookInstruction) 204 = some (o_aload 0 1) := rfl
set_option maxRecDepth 100000 in
theorem e_M_lookInstruction_205 : ct_tab (T_M_lookInstruction) 205 = some (o_push (.int 11) 2) := rfl
set_option maxRecDepth 100000 in
theorem e_M_lookInstruction_207 : ct_tab (T_M_lookInstruction) 207 = some (o_iload 1 1) := rfl
set_option maxRecDepth 100000 in
theorem e_M_lookInstruction_208 : ct_tab (T_M_lookInstruction) 208 = some (o_push (.int 1) 1) := rfl
set_option maxRecDepth 100000 in
theorem e_M_lookInstruction_209 : ct_tab (T_M_lookInstruction) 209 = some (o_ii fun x y => x + y) := rfl
set_option maxRecDepth 100000 in
theorem e_M_lookInstruction_213 : ct_tab (T_M_lookInstruction) 213 = some (o_goto 253) := rfl
set_option maxRecDepth 100000 in
theorem e_M_lookInstruction_216 : ct_tab (T_M_lookInstruction) 216 = some (o_iload 4 2) := rfl
set_option maxRecDepth 100000 in
theorem e_M_lookInstruction_218 : ct_tab (T_M_lookInstruction) 218 = some (o_push (.int 51) 2) := rfl
set_option maxRecDepth 100000 in
theorem e_M_lookInstruction_220 : ct_tab (T_M_lookInstruction) 220 = some (o_ic (fun x y => x ≤ y) (fun x y => ¬ x ≤ y) 253) := rfl
set_option maxRecDepth 100000 in
theorem e_M_lookInstruction_223 : ct_tab (T_M_lookInstruction) 223 = some (o_iload 4 2) := rfl
set_option maxRecDepth 100000 in
theorem e_M_lookInstruction_225 : ct_tab (T_M_lookInstruction) 225 = some (o_push (.int 59) 2) := rfl
set_option maxRecDepth 100000 in
theorem e_M_lookInstruction_227 : ct_tab (T_M_lookInstruction) 227 = some (o_ic (fun x y => y ≤ x) (fun x y => ¬ y ≤ x) 253) := rfl
set_option maxRecDepth 100000 in
theorem e_M_lookInstruction_230 : ct_tab (T_M_lookInstruction) 230 = some (o_aload 0 1) := rfl
set_option maxRecDepth 100000 in
theorem e_M_lookInstruction_231 : ct_tab (T_M_lookInstruction) 231 = some (o_iload 1 1) := rfl
set_option maxRecDepth 100000 in
theorem e_M_lookInstruction_232 : ct_tab (T_M_lookInstruction) 232 = some (o_push (.int 1) 1) := rfl
set_option maxRecDepth 100000 in
theorem e_M_lookInstruction_233 : ct_tab (T_M_lookInstruction) 233 = some (o_ii fun x y => x + y) := rfl
set_option maxRecDepth 100000 in
theorem e_M_lookInstruction_237 : ct_tab (T_M_lookInstruction) 237 = some (o_aload 0 1) := rfl
set_option maxRecDepth 100000 in
theorem e_M_lookInstruction_238 : ct_tab (T_M_lookInstruction) 238 = some (o_getI 4 24 12) := rfl
set_option maxRecDepth 100000 in
theorem e_M_lookInstruction_241 : ct_tab (T_M_lookInstruction) 241 = some (o_ic (fun x y => x < y) (fun x y => ¬ x < y) 253) := rfl
set_option maxRecDepth 100000 in
theorem e_M_lookInstruction_244 : ct_tab (T_M_lookInstruction) 244 = some (o_aload 0 1) := rfl
set_option maxRecDepth 100000 in
theorem e_M_lookInstruction_245 : ct_tab (T_M_lookInstruction) 245 = some (o_push (.int 12) 2) := rfl
set_option maxRecDepth 100000 in
theorem e_M_lookInstruction_247 : ct_tab (T_M_lookInstruction) 247 = some (o_iload 1 1) := rfl
set_option maxRecDepth 100000 in
theorem e_M_lookInstruction_248 : ct_tab (T_M_lookInstruction) 248 = some (o_push (.int 1) 1) := rfl
set_option maxRecDepth 100000 in
theorem e_M_lookInstruction_249 : ct_tab (T_M_lookInstruction) 249 = some (o_ii fun x y => x + y) := rfl
theorem cl_M_lookInstruction_2 {l : ct_Lx} {d d1 : Nat} {Post Post1 : Option Value → ct_Sg → Prop} {lv : ct_Lv} {st : List Value} {g : ct_Sg} {bc bs c1 s1 : Nat} {a1 : Value} {h : Nat} (hsh : g.2.1 h = (10 + 4, 24)) (hM : ct_Me l M_M_byteAt d1 c1 s1 [.ref h, a1] g Post1) (hdd : d1 + 1 ≤ d) (hk : (st.map fun v => v.category).sum ≤ 8) (hcc : c1 ≤ bc) (hss : s1 ≤ bs) (kk : ∀ (v : Option Value) (g' : ct_Sg), Post1 v g' → ct_Wp l M_M_lookInstruction d Post (5, lv, v.toList ++ st, g', bc - c1, bs - s1)) : ct_Wp l M_M_lookInstruction d Post (2, lv, a1 :: .ref h :: st, g, bc, bs) := ct_Wp.callV (ci := 4) (N := 24) (T := ct_T4) (As := [a1]) lk_M_byteAt (Or.inl wd_357) wd_358 wd_359 rfl d_M_lookInstruction_2 hsh hM rfl hdd hk hcc hss kk
theorem cl_M_lookInstruction_23 {l : ct_Lx} {d d1 : Nat} {Post Post1 : Option Value → ct_Sg → Prop} {lv : ct_Lv} {st : List Value} {g : ct_Sg} {bc bs c1 s1 : Nat} {a1 : Value} {h : Nat} (hsh : g.2.1 h = (10 + 4, 24)) (hM : ct_Me l M_M_shortAt d1 c1 s1 [.ref h, a1] g Post1) (hdd : d1 + 1 ≤ d) (hk : (st.map fun v => v.category).sum ≤ 8) (hcc : c1 ≤ bc) (hss : s1 ≤ bs) (kk : ∀ (v : Option Value) (g' : ct_Sg), Post1 v g' → ct_Wp l M_M_lookInstruction d Post (26, lv, v.toList ++ st, g', bc - c1, bs - s1)) : ct_Wp l M_M_lookInstruction d Post (23, lv, a1 :: .ref h :: st, g, bc, bs) := ct_Wp.callV (ci := 4) (N := 24) (T := ct_T4) (As := [a1]) lk_M_shortAt (Or.inl wd_398) wd_399 wd_400 rfl d_M_lookInstruction_23 hsh hM rfl hdd hk hcc hss kk
theorem cl_M_lookInstruction_36 {l : ct_Lx} {d d1 : Nat} {Post Post1 : Option Value → ct_Sg → Prop} {lv : ct_Lv} {st : List Value} {g : ct_Sg} {bc bs c1 s1 : Nat} {a1 a2 : Value} {h : Nat} (hsh : g.2.1 h = (10 + 4, 24)) (hM : ct_Me l M_M_fail d1 c1 s1 [.ref h, a1, a2] g Post1) (hdd : d1 + 1 ≤ d) (hk : (st.map fun v => v.category).sum ≤ 8) (hcc : c1 ≤ bc) (hss : s1 ≤ bs) (kk : ∀ (v : Option Value) (g' : ct_Sg), Post1 v g' → ct_Wp l M_M_lookInstruction d Post (39, lv, v.toList ++ st, g', bc - c1, bs - s1)) : ct_Wp l M_M_lookInstruction d Post (36, lv, a2 :: a1 :: .ref h :: st, g, bc, bs) := ct_Wp.callV (ci := 4) (N := 24) (T := ct_T4) (As := [a1, a2]) lk_M_fail (Or.inl wd_363) wd_364 wd_365 rfl d_M_lookInstruction_36 hsh hM rfl hdd hk hcc hss kk
theorem cl_M_lookInstruction_60 {l : ct_Lx} {d d1 : Nat} {Post Post1 : Option Value → ct_Sg → Prop} {lv : ct_Lv} {st : List Value} {g : ct_Sg} {bc bs c1 s1 : Nat} {a1 : Value} {h : Nat} (hsh : g.2.1 h = (10 + 4, 24)) (hM : ct_Me l M_M_byteAt d1 c1 s1 [.ref h, a1] g Post1) (hdd : d1 + 1 ≤ d) (hk : (st.map fun v => v.category).sum ≤ 8) (hcc : c1 ≤ bc) (hss : s1 ≤ bs) (kk : ∀ (v : Option Value) (g' : ct_Sg), Post1 v g' → ct_Wp l M_M_lookInstruction d Post (63, lv, v.toList ++ st, g', bc - c1, bs - s1)) : ct_Wp l M_M_lookInstruction d Post (60, lv, a1 :: .ref h :: st, g, bc, bs) := ct_Wp.callV (ci := 4) (N := 24) (T := ct_T4) (As := [a1]) lk_M_byteAt (Or.inl wd_357) wd_358 wd_359 rfl d_M_lookInstruction_60 hsh hM rfl hdd hk hcc hss kk
theorem cl_M_lookInstruction_73 {l : ct_Lx} {d d1 : Nat} {Post Post1 : Option Value → ct_Sg → Prop} {lv : ct_Lv} {st : List Value} {g : ct_Sg} {bc bs c1 s1 : Nat} {a1 a2 : Value} {h : Nat} (hsh : g.2.1 h = (10 + 4, 24)) (hM : ct_Me l M_M_fail d1 c1 s1 [.ref h, a1, a2] g Post1) (hdd : d1 + 1 ≤ d) (hk : (st.map fun v => v.category).sum ≤ 8) (hcc : c1 ≤ bc) (hss : s1 ≤ bs) (kk : ∀ (v : Option Value) (g' : ct_Sg), Post1 v g' → ct_Wp l M_M_lookInstruction d Post (76, lv, v.toList ++ st, g', bc - c1, bs - s1)) : ct_Wp l M_M_lookInstruction d Post (73, lv, a2 :: a1 :: .ref h :: st, g, bc, bs) := ct_Wp.callV (ci := 4) (N := 24) (T := ct_T4) (As := [a1, a2]) lk_M_fail (Or.inl wd_363) wd_364 wd_365 rfl d_M_lookInstruction_73 hsh hM rfl hdd hk hcc hss kk
theorem cl_M_lookInstruction_97 {l : ct_Lx} {d d1 : Nat} {Post Post1 : Option Value → ct_Sg → Prop} {lv : ct_Lv} {st : List Value} {g : ct_Sg} {bc bs c1 s1 : Nat} {a1 : Value} {h : Nat} (hsh : g.2.1 h = (10 + 4, 24)) (hM : ct_Me l M_M_lookOwn d1 c1 s1 [.ref h, a1] g Post1) (hdd : d1 + 1 ≤ d) (hk : (st.map fun v => v.category).sum ≤ 8) (hcc : c1 ≤ bc) (hss : s1 ≤ bs) (kk : ∀ (v : Option Value) (g' : ct_Sg), Post1 v g' → ct_Wp l M_M_lookInstruction d Post (100, lv, v.toList ++ st, g', bc - c1, bs - s1)) : ct_Wp l M_M_lookInstruction d Post (97, lv, a1 :: .ref h :: st, g, bc, bs) := ct_Wp.callV (ci := 4) (N := 24) (T := ct_T4) (As := [a1]) lk_M_lookOwn (Or.inl wd_438) wd_439 wd_440 rfl d_M_lookInstruction_97 hsh hM rfl hdd hk hcc hss kk
theorem cl_M_lookInstruction_101 {l : ct_Lx} {d d1 : Nat} {Post Post1 : Option Value → ct_Sg → Prop} {lv : ct_Lv} {st : List Value} {g : ct_Sg} {bc bs c1 s1 : Nat} {h : Nat} (hsh : g.2.1 h = (10 + 4, 24)) (hM : ct_Me l M_M_isGood d1 c1 s1 [.ref h] g Post1) (hdd : d1 + 1 ≤ d) (hk : (st.map fun v => v.category).sum ≤ 8) (hcc : c1 ≤ bc) (hss : s1 ≤ bs) (kk : ∀ (v : Option Value) (g' : ct_Sg), Post1 v g' → ct_Wp l M_M_lookInstruction d Post (104, lv, v.toList ++ st, g', bc - c1, bs - s1)) : ct_Wp l M_M_lookInstruction d Post (101, lv, .ref h :: st, g, bc, bs) := ct_Wp.callV (ci := 4) (N := 24) (T := ct_T4) (As := []) lk_M_isGood (Or.inl wd_373) wd_374 wd_375 rfl d_M_lookInstruction_101 hsh hM rfl hdd hk hcc hss kk
theorem cl_M_lookInstruction_111 {l : ct_Lx} {d d1 : Nat} {Post Post1 : Option Value → ct_Sg → Prop} {lv : ct_Lv} {st : List Value} {g : ct_Sg} {bc bs c1 s1 : Nat} {a1 : Value} {h : Nat} (hsh : g.2.1 h = (10 + 4, 24)) (hM : ct_Me l M_M_byteAt d1 c1 s1 [.ref h, a1] g Post1) (hdd : d1 + 1 ≤ d) (hk : (st.map fun v => v.category).sum ≤ 8) (hcc : c1 ≤ bc) (hss : s1 ≤ bs) (kk : ∀ (v : Option Value) (g' : ct_Sg), Post1 v g' → ct_Wp l M_M_lookInstruction d Post (114, lv, v.toList ++ st, g', bc - c1, bs - s1)) : ct_Wp l M_M_lookInstruction d Post (111, lv, a1 :: .ref h :: st, g, bc, bs) := ct_Wp.callV (ci := 4) (N := 24) (T := ct_T4) (As := [a1]) lk_M_byteAt (Or.inl wd_357) wd_358 wd_359 rfl d_M_lookInstruction_111 hsh hM rfl hdd hk hcc hss kk
theorem cl_M_lookInstruction_119 {l : ct_Lx} {d d1 : Nat} {Post Post1 : Option Value → ct_Sg → Prop} {lv : ct_Lv} {st : List Value} {g : ct_Sg} {bc bs c1 s1 : Nat} {a1 : Value} {h : Nat} (hsh : g.2.1 h = (10 + 4, 24)) (hM : ct_Me l M_M_byteAt d1 c1 s1 [.ref h, a1] g Post1) (hdd : d1 + 1 ≤ d) (hk : (st.map fun v => v.category).sum ≤ 8) (hcc : c1 ≤ bc) (hss : s1 ≤ bs) (kk : ∀ (v : Option Value) (g' : ct_Sg), Post1 v g' → ct_Wp l M_M_lookInstruction d Post (122, lv, v.toList ++ st, g', bc - c1, bs - s1)) : ct_Wp l M_M_lookInstruction d Post (119, lv, a1 :: .ref h :: st, g, bc, bs) := ct_Wp.callV (ci := 4) (N := 24) (T := ct_T4) (As := [a1]) lk_M_byteAt (Or.inl wd_357) wd_358 wd_359 rfl d_M_lookInstruction_119 hsh hM rfl hdd hk hcc hss kk
theorem cl_M_lookInstruction_122 {l : ct_Lx} {d d1 : Nat} {Post Post1 : Option Value → ct_Sg → Prop} {lv : ct_Lv} {st : List Value} {g : ct_Sg} {bc bs c1 s1 : Nat} {a1 : Value} {h : Nat} (hsh : g.2.1 h = (10 + 4, 24)) (hM : ct_Me l M_M_fieldsOf d1 c1 s1 [.ref h, a1] g Post1) (hdd : d1 + 1 ≤ d) (hk : (st.map fun v => v.category).sum ≤ 8) (hcc : c1 ≤ bc) (hss : s1 ≤ bs) (kk : ∀ (v : Option Value) (g' : ct_Sg), Post1 v g' → ct_Wp l M_M_lookInstruction d Post (125, lv, v.toList ++ st, g', bc - c1, bs - s1)) : ct_Wp l M_M_lookInstruction d Post (122, lv, a1 :: .ref h :: st, g, bc, bs) := ct_Wp.callV (ci := 4) (N := 24) (T := ct_T4) (As := [a1]) lk_M_fieldsOf (Or.inl wd_443) wd_444 wd_445 rfl d_M_lookInstruction_122 hsh hM rfl hdd hk hcc hss kk
theorem cl_M_lookInstruction_134 {l : ct_Lx} {d d1 : Nat} {Post Post1 : Option Value → ct_Sg → Prop} {lv : ct_Lv} {st : List Value} {g : ct_Sg} {bc bs c1 s1 : Nat} {a1 a2 : Value} {h : Nat} (hsh : g.2.1 h = (10 + 4, 24)) (hM : ct_Me l M_M_fail d1 c1 s1 [.ref h, a1, a2] g Post1) (hdd : d1 + 1 ≤ d) (hk : (st.map fun v => v.category).sum ≤ 8) (hcc : c1 ≤ bc) (hss : s1 ≤ bs) (kk : ∀ (v : Option Value) (g' : ct_Sg), Post1 v g' → ct_Wp l M_M_lookInstruction d Post (137, lv, v.toList ++ st, g', bc - c1, bs - s1)) : ct_Wp l M_M_lookInstruction d Post (134, lv, a2 :: a1 :: .ref h :: st, g, bc, bs) := ct_Wp.callV (ci := 4) (N := 24) (T := ct_T4) (As := [a1, a2]) lk_M_fail (Or.inl wd_363) wd_364 wd_365 rfl d_M_lookInstruction_134 hsh hM rfl hdd hk hcc hss kk
theorem cl_M_lookInstruction_172 {l : ct_Lx} {d d1 : Nat} {Post Post1 : Option Value → ct_Sg → Prop} {lv : ct_Lv} {st : List Value} {g : ct_Sg} {bc bs c1 s1 : Nat} {a1 : Value} {h : Nat} (hsh : g.2.1 h = (10 + 4, 24)) (hM : ct_Me l M_M_lookOwn d1 c1 s1 [.ref h, a1] g Post1) (hdd : d1 + 1 ≤ d) (hk : (st.map fun v => v.category).sum ≤ 8) (hcc : c1 ≤ bc) (hss : s1 ≤ bs) (kk : ∀ (v : Option Value) (g' : ct_Sg), Post1 v g' → ct_Wp l M_M_lookInstruction d Post (175, lv, v.toList ++ st, g', bc - c1, bs - s1)) : ct_Wp l M_M_lookInstruction d Post (172, lv, a1 :: .ref h :: st, g, bc, bs) := ct_Wp.callV (ci := 4) (N := 24) (T := ct_T4) (As := [a1]) lk_M_lookOwn (Or.inl wd_438) wd_439 wd_440 rfl d_M_lookInstruction_172 hsh hM rfl hdd hk hcc hss kk
theorem cl_M_lookInstruction_189 {l : ct_Lx} {d d1 : Nat} {Post Post1 : Option Value → ct_Sg → Prop} {lv : ct_Lv} {st : List Value} {g : ct_Sg} {bc bs c1 s1 : Nat} {a1 : Value} {h : Nat} (hsh : g.2.1 h = (10 + 4, 24)) (hM : ct_Me l M_M_byteAt d1 c1 s1 [.ref h, a1] g Post1) (hdd : d1 + 1 ≤ d) (hk : (st.map fun v => v.category).sum ≤ 8) (hcc : c1 ≤ bc) (hss : s1 ≤ bs) (kk : ∀ (v : Option Value) (g' : ct_Sg), Post1 v g' → ct_Wp l M_M_lookInstruction d Post (192, lv, v.toList ++ st, g', bc - c1, bs - s1)) : ct_Wp l M_M_lookInstruction d Post (189, lv, a1 :: .ref h :: st, g, bc, bs) := ct_Wp.callV (ci := 4) (N := 24) (T := ct_T4) (As := [a1]) lk_M_byteAt (Or.inl wd_357) wd_358 wd_359 rfl d_M_lookInstruction_189 hsh hM rfl hdd hk hcc hss kk
theorem cl_M_lookInstruction_210 {l : ct_Lx} {d d1 : Nat} {Post Post1 : Option Value → ct_Sg → Prop} {lv : ct_Lv} {st : List Value} {g : ct_Sg} {bc bs c1 s1 : Nat} {a1 a2 : Value} {h : Nat} (hsh : g.2.1 h = (10 + 4, 24)) (hM : ct_Me l M_M_fail d1 c1 s1 [.ref h, a1, a2] g Post1) (hdd : d1 + 1 ≤ d) (hk : (st.map fun v => v.category).sum ≤ 8) (hcc : c1 ≤ bc) (hss : s1 ≤ bs) (kk : ∀ (v : Option Value) (g' : ct_Sg), Post1 v g' → ct_Wp l M_M_lookInstruction d Post (213, lv, v.toList ++ st, g', bc - c1, bs - s1)) : ct_Wp l M_M_lookInstruction d Post (210, lv, a2 :: a1 :: .ref h :: st, g, bc, bs) := ct_Wp.callV (ci := 4) (N := 24) (T := ct_T4) (As := [a1, a2]) lk_M_fail (Or.inl wd_363) wd_364 wd_365 rfl d_M_lookInstruction_210 hsh hM rfl hdd hk hcc hss kk
theorem cl_M_lookInstruction_234 {l : ct_Lx} {d d1 : Nat} {Post Post1 : Option Value → ct_Sg → Prop} {lv : ct_Lv} {st : List Value} {g : ct_Sg} {bc bs c1 s1 : Nat} {a1 : Value} {h : Nat} (hsh : g.2.1 h = (10 + 4, 24)) (hM : ct_Me l M_M_byteAt d1 c1 s1 [.ref h, a1] g Post1) (hdd : d1 + 1 ≤ d) (hk : (st.map fun v => v.category).sum ≤ 8) (hcc : c1 ≤ bc) (hss : s1 ≤ bs) (kk : ∀ (v : Option Value) (g' : ct_Sg), Post1 v g' → ct_Wp l M_M_lookInstruction d Post (237, lv, v.toList ++ st, g', bc - c1, bs - s1)) : ct_Wp l M_M_lookInstruction d Post (234, lv, a1 :: .ref h :: st, g, bc, bs) := ct_Wp.callV (ci := 4) (N := 24) (T := ct_T4) (As := [a1]) lk_M_byteAt (Or.inl wd_357) wd_358 wd_359 rfl d_M_lookInstruction_234 hsh hM rfl hdd hk hcc hss kk
theorem cl_M_lookInstruction_250 {l : ct_Lx} {d d1 : Nat} {Post Post1 : Option Value → ct_Sg → Prop} {lv : ct_Lv} {st : List Value} {g : ct_Sg} {bc bs c1 s1 : Nat} {a1 a2 : Value} {h : Nat} (hsh : g.2.1 h = (10 + 4, 24)) (hM : ct_Me l M_M_fail d1 c1 s1 [.ref h, a1, a2] g Post1) (hdd : d1 + 1 ≤ d) (hk : (st.map fun v => v.category).sum ≤ 8) (hcc : c1 ≤ bc) (hss : s1 ≤ bs) (kk : ∀ (v : Option Value) (g' : ct_Sg), Post1 v g' → ct_Wp l M_M_lookInstruction d Post (253, lv, v.toList ++ st, g', bc - c1, bs - s1)) : ct_Wp l M_M_lookInstruction d Post (250, lv, a2 :: a1 :: .ref h :: st, g, bc, bs) := ct_Wp.callV (ci := 4) (N := 24) (T := ct_T4) (As := [a1, a2]) lk_M_fail (Or.inl wd_363) wd_364 wd_365 rfl d_M_lookInstruction_250 hsh hM rfl hdd hk hcc hss kk
theorem d_M_lookAll_0 : decode prog_7_method_24_code 0 = .ok (.iconst 0, 1) := by decide +kernel
theorem d_M_lookAll_1 : decode prog_7_method_24_code 1 = .ok (.istore_n 1, 1) := by decide +kernel
theorem d_M_lookAll_2 : decode prog_7_method_24_code 2 = .ok (.iload_n 1, 1) := by decide +kernel
theorem d_M_lookAll_3 : decode prog_7_method_24_code 3 = .ok (.aload_n 0, 1) := by decide +kernel
theorem d_M_lookAll_4 : decode prog_7_method_24_code 4 = .ok (.getfield 102, 3) := by decide +kernel
theorem d_M_lookAll_7 : decode prog_7_method_24_code 7 = .ok (.if_icmp .ge 48, 3) := by decide +kernel
theorem d_M_lookAll_10 : decode prog_7_method_24_code 10 = .ok (.aload_n 0, 1) := by decide +kernel
theorem d_M_lookAll_11 : decode prog_7_method_24_code 11 = .ok (.invokevirtual 70, 3) := by decide +kernel
theorem d_M_lookAll_14 : decode prog_7_method_24_code 14 = .ok (.ifCond .eq 41, 3) := by decide +kernel
theorem d_M_lookAll_17 : decode prog_7_method_24_code 17 = .ok (.aload_n 0, 1) := by decide +kernel
theorem d_M_lookAll_18 : decode prog_7_method_24_code 18 = .ok (.getfield 17, 3) := by decide +kernel
theorem d_M_lookAll_21 : decode prog_7_method_24_code 21 = .ok (.iload_n 1, 1) := by decide +kernel
theorem d_M_lookAll_22 : decode prog_7_method_24_code 22 = .ok (.iaload, 1) := by decide +kernel
theorem d_M_lookAll_23 : decode prog_7_method_24_code 23 = .ok (.iconst 2, 1) := by decide +kernel
theorem d_M_lookAll_24 : decode prog_7_method_24_code 24 = .ok (.iadd, 1) := by decide +kernel
theorem d_M_lookAll_25 : decode prog_7_method_24_code 25 = .ok (.istore_n 2, 1) := by decide +kernel
theorem d_M_lookAll_26 : decode prog_7_method_24_code 26 = .ok (.iconst 0, 1) := by decide +kernel
theorem d_M_lookAll_27 : decode prog_7_method_24_code 27 = .ok (.istore_n 3, 1) := by decide +kernel
theorem d_M_lookAll_28 : decode prog_7_method_24_code 28 = .ok (.iload_n 3, 1) := by decide +kernel
theorem d_M_lookAll_29 : decode prog_7_method_24_code 29 = .ok (.aload_n 0, 1) := by decide +kernel
theorem d_M_lookAll_30 : decode prog_7_method_24_code 30 = .ok (.iload_n 1, 1) := by decide +kernel
theorem d_M_lookAll_31 : decode prog_7_method_24_code 31 = .ok (.invokevirtual 133, 3) := by decide +kernel
theorem d_M_lookAll_34 : decode prog_7_method_24_code 34 = .ok (.if_icmp .ge 15, 3) := by decide +kernel
theorem d_M_lookAll_37 : decode prog_7_method_24_code 37 = .ok (.aload_n 0, 1) := by decide +kernel
theorem d_M_lookAll_38 : decode prog_7_method_24_code 38 = .ok (.iload_n 2, 1) := by decide +kernel
theorem d_M_lookAll_39 : decode prog_7_method_24_code 39 = .ok (.invokevirtual 127, 3) := by decide +kernel
theorem d_M_lookAll_42 : decode prog_7_method_24_code 42 = .ok (.istore_n 2, 1) := by decide +kernel
theorem d_M_lookAll_43 : decode prog_7_method_24_code 43 = .ok (.iinc 3 1, 3) := by decide +kernel
theorem d_M_lookAll_46 : decode prog_7_method_24_code 46 = .ok (.goto (-18), 3) := by decide +kernel
theorem d_M_lookAll_49 : decode prog_7_method_24_code 49 = .ok (.iinc 1 1, 3) := by decide +kernel
theorem d_M_lookAll_52 : decode prog_7_method_24_code 52 = .ok (.goto (-50), 3) := by decide +kernel
theorem d_M_lookAll_55 : decode prog_7_method_24_code 55 = .ok (.iconst 0, 1) := by decide +kernel
theorem d_M_lookAll_56 : decode prog_7_method_24_code 56 = .ok (.istore_n 1, 1) := by decide +kernel
theorem d_M_lookAll_57 : decode prog_7_method_24_code 57 = .ok (.iload_n 1, 1) := by decide +kernel
theorem d_M_lookAll_58 : decode prog_7_method_24_code 58 = .ok (.aload_n 0, 1) := by decide +kernel
theorem d_M_lookAll_59 : decode prog_7_method_24_code 59 = .ok (.getfield 108, 3) := by decide +kernel
theorem d_M_lookAll_62 : decode prog_7_method_24_code 62 = .ok (.if_icmp .ge 33, 3) := by decide +kernel
theorem d_M_lookAll_65 : decode prog_7_method_24_code 65 = .ok (.aload_n 0, 1) := by decide +kernel
theorem d_M_lookAll_66 : decode prog_7_method_24_code 66 = .ok (.invokevirtual 70, 3) := by decide +kernel
theorem d_M_lookAll_69 : decode prog_7_method_24_code 69 = .ok (.ifCond .eq 26, 3) := by decide +kernel
theorem d_M_lookAll_72 : decode prog_7_method_24_code 72 = .ok (.aload_n 0, 1) := by decide +kernel
theorem d_M_lookAll_73 : decode prog_7_method_24_code 73 = .ok (.aload_n 0, 1) := by decide +kernel
theorem d_M_lookAll_74 : decode prog_7_method_24_code 74 = .ok (.aload_n 0, 1) := by decide +kernel
theorem d_M_lookAll_75 : decode prog_7_method_24_code 75 = .ok (.getfield 21, 3) := by decide +kernel
theorem d_M_lookAll_78 : decode prog_7_method_24_code 78 = .ok (.iload_n 1, 1) := by decide +kernel
theorem d_M_lookAll_79 : decode prog_7_method_24_code 79 = .ok (.iaload, 1) := by decide +kernel
theorem d_M_lookAll_80 : decode prog_7_method_24_code 80 = .ok (.iconst 4, 1) := by decide +kernel
theorem d_M_lookAll_81 : decode prog_7_method_24_code 81 = .ok (.iadd, 1) := by decide +kernel
theorem d_M_lookAll_82 : decode prog_7_method_24_code 82 = .ok (.invokevirtual 136, 3) := by decide +kernel
theorem d_M_lookAll_85 : decode prog_7_method_24_code 85 = .ok (.invokevirtual 136, 3) := by decide +kernel
theorem d_M_lookAll_88 : decode prog_7_method_24_code 88 = .ok (.pop, 1) := by decide +kernel
theorem d_M_lookAll_89 : decode prog_7_method_24_code 89 = .ok (.iinc 1 1, 3) := by decide +kernel
theorem d_M_lookAll_92 : decode prog_7_method_24_code 92 = .ok (.goto (-35), 3) := by decide +kernel
theorem d_M_lookAll_95 : decode prog_7_method_24_code 95 = .ok (.iconst 0, 1) := by decide +kernel
theorem d_M_lookAll_96 : decode prog_7_method_24_code 96 = .ok (.istore_n 1, 1) := by decide +kernel
theorem d_M_lookAll_97 : decode prog_7_method_24_code 97 = .ok (.iload_n 1, 1) := by decide +kernel
theorem d_M_lookAll_98 : decode prog_7_method_24_code 98 = .ok (.aload_n 0, 1) := by decide +kernel
theorem d_M_lookAll_99 : decode prog_7_method_24_code 99 = .ok (.getfield 111, 3) := by decide +kernel
theorem d_M_lookAll_102 : decode prog_7_method_24_code 102 = .ok (.if_icmp .ge 27, 3) := by decide +kernel
theorem d_M_lookAll_105 : decode prog_7_method_24_code 105 = .ok (.aload_n 0, 1) := by decide +kernel
theorem d_M_lookAll_106 : decode prog_7_method_24_code 106 = .ok (.invokevirtual 70, 3) := by decide +kernel
theorem d_M_lookAll_109 : decode prog_7_method_24_code 109 = .ok (.ifCond .eq 20, 3) := by decide +kernel
theorem d_M_lookAll_112 : decode prog_7_method_24_code 112 = .ok (.aload_n 0, 1) := by decide +kernel
theorem d_M_lookAll_113 : decode prog_7_method_24_code 113 = .ok (.aload_n 0, 1) := by decide +kernel
theorem d_M_lookAll_114 : decode prog_7_method_24_code 114 = .ok (.getfield 24, 3) := by decide +kernel
theorem d_M_lookAll_117 : decode prog_7_method_24_code 117 = .ok (.iload_n 1, 1) := by decide +kernel
theorem d_M_lookAll_118 : decode prog_7_method_24_code 118 = .ok (.iaload, 1) := by decide +kernel
theorem d_M_lookAll_119 : decode prog_7_method_24_code 119 = .ok (.invokevirtual 127, 3) := by decide +kernel
theorem d_M_lookAll_122 : decode prog_7_method_24_code 122 = .ok (.pop, 1) := by decide +kernel
theorem d_M_lookAll_123 : decode prog_7_method_24_code 123 = .ok (.iinc 1 1, 3) := by decide +kernel
theorem d_M_lookAll_126 : decode prog_7_method_24_code 126 = .ok (.goto (-29), 3) := by decide +kernel
theorem d_M_lookAll_129 : decode prog_7_method_24_code 129 = .ok (.iconst 0, 1) := by decide +kernel
theorem d_M_lookAll_130 : decode prog_7_method_24_code 130 = .ok (.istore_n 1, 1) := by decide +kernel
theorem d_M_lookAll_131 : decode prog_7_method_24_code 131 = .ok (.iload_n 1, 1) := by decide +kernel
theorem d_M_lookAll_132 : decode prog_7_method_24_code 132 = .ok (.aload_n 0, 1) := by decide +kernel
theorem d_M_lookAll_133 : decode prog_7_method_24_code 133 = .ok (.getfield 114, 3) := by decide +kernel
theorem d_M_lookAll_136 : decode prog_7_method_24_code 136 = .ok (.if_icmp .ge 109, 3) := by decide +kernel
theorem d_M_lookAll_139 : decode prog_7_method_24_code 139 = .ok (.aload_n 0, 1) := by decide +kernel
theorem d_M_lookAll_140 : decode prog_7_method_24_code 140 = .ok (.invokevirtual 70, 3) := by decide +kernel
theorem d_M_lookAll_143 : decode prog_7_method_24_code 143 = .ok (.ifCond .eq 102, 3) := by decide +kernel
theorem d_M_lookAll_146 : decode prog_7_method_24_code 146 = .ok (.aload_n 0, 1) := by decide +kernel
theorem d_M_lookAll_147 : decode prog_7_method_24_code 147 = .ok (.aload_n 0, 1) := by decide +kernel
theorem d_M_lookAll_148 : decode prog_7_method_24_code 148 = .ok (.aload_n 0, 1) := by decide +kernel
theorem d_M_lookAll_149 : decode prog_7_method_24_code 149 = .ok (.aload_n 0, 1) := by decide +kernel
theorem d_M_lookAll_150 : decode prog_7_method_24_code 150 = .ok (.getfield 27, 3) := by decide +kernel
theorem d_M_lookAll_153 : decode prog_7_method_24_code 153 = .ok (.iload_n 1, 1) := by decide +kernel
theorem d_M_lookAll_154 : decode prog_7_method_24_code 154 = .ok (.iaload, 1) := by decide +kernel
theorem d_M_lookAll_155 : decode prog_7_method_24_code 155 = .ok (.iconst 1, 1) := by decide +kernel
theorem d_M_lookAll_156 : decode prog_7_method_24_code 156 = .ok (.iadd, 1) := by decide +kernel
theorem d_M_lookAll_157 : decode prog_7_method_24_code 157 = .ok (.invokevirtual 136, 3) := by decide +kernel
theorem d_M_lookAll_160 : decode prog_7_method_24_code 160 = .ok (.invokevirtual 136, 3) := by decide +kernel
theorem d_M_lookAll_163 : decode prog_7_method_24_code 163 = .ok (.invokevirtual 136, 3) := by decide +kernel
theorem d_M_lookAll_166 : decode prog_7_method_24_code 166 = .ok (.pop, 1) := by decide +kernel
theorem d_M_lookAll_167 : decode prog_7_method_24_code 167 = .ok (.aload_n 0, 1) := by decide +kernel
theorem d_M_lookAll_168 : decode prog_7_method_24_code 168 = .ok (.iload_n 1, 1) := by decide +kernel
theorem d_M_lookAll_169 : decode prog_7_method_24_code 169 = .ok (.iconst 0, 1) := by decide +kernel
theorem d_M_lookAll_170 : decode prog_7_method_24_code 170 = .ok (.invokevirtual 139, 3) := by decide +kernel
theorem d_M_lookAll_173 : decode prog_7_method_24_code 173 = .ok (.aload_n 0, 1) := by decide +kernel
theorem d_M_lookAll_174 : decode prog_7_method_24_code 174 = .ok (.iload_n 1, 1) := by decide +kernel
theorem d_M_lookAll_175 : decode prog_7_method_24_code 175 = .ok (.iconst 2, 1) := by decide +kernel
theorem d_M_lookAll_176 : decode prog_7_method_24_code 176 = .ok (.invokevirtual 139, 3) := by decide +kernel
theorem d_M_lookAll_179 : decode prog_7_method_24_code 179 = .ok (.iadd, 1) := by decide +kernel
theorem d_M_lookAll_180 : decode prog_7_method_24_code 180 = .ok (.istore_n 2, 1) := by decide +kernel
theorem d_M_lookAll_181 : decode prog_7_method_24_code 181 = .ok (.aload_n 0, 1) := by decide +kernel
theorem d_M_lookAll_182 : decode prog_7_method_24_code 182 = .ok (.getfield 30, 3) := by decide +kernel
theorem d_M_lookAll_185 : decode prog_7_method_24_code 185 = .ok (.iload_n 1, 1) := by decide +kernel
theorem d_M_lookAll_186 : decode prog_7_method_24_code 186 = .ok (.iaload, 1) := by decide +kernel
theorem d_M_lookAll_187 : decode prog_7_method_24_code 187 = .ok (.istore_n 3, 1) := by decide +kernel
theorem d_M_lookAll_188 : decode prog_7_method_24_code 188 = .ok (.iload_n 3, 1) := by decide +kernel
theorem d_M_lookAll_189 : decode prog_7_method_24_code 189 = .ok (.aload_n 0, 1) := by decide +kernel
theorem d_M_lookAll_190 : decode prog_7_method_24_code 190 = .ok (.getfield 30, 3) := by decide +kernel
theorem d_M_lookAll_193 : decode prog_7_method_24_code 193 = .ok (.iload_n 1, 1) := by decide +kernel
theorem d_M_lookAll_194 : decode prog_7_method_24_code 194 = .ok (.iconst 1, 1) := by decide +kernel
theorem d_M_lookAll_195 : decode prog_7_method_24_code 195 = .ok (.iadd, 1) := by decide +kernel
theorem d_M_lookAll_196 : decode prog_7_method_24_code 196 = .ok (.iaload, 1) := by decide +kernel
theorem d_M_lookAll_197 : decode prog_7_method_24_code 197 = .ok (.if_icmp .ge 42, 3) := by decide +kernel
theorem d_M_lookAll_200 : decode prog_7_method_24_code 200 = .ok (.aload_n 0, 1) := by decide +kernel
theorem d_M_lookAll_201 : decode prog_7_method_24_code 201 = .ok (.invokevirtual 70, 3) := by decide +kernel
theorem d_M_lookAll_204 : decode prog_7_method_24_code 204 = .ok (.ifCond .eq 35, 3) := by decide +kernel
theorem d_M_lookAll_207 : decode prog_7_method_24_code 207 = .ok (.aload_n 0, 1) := by decide +kernel
theorem d_M_lookAll_208 : decode prog_7_method_24_code 208 = .ok (.aload_n 0, 1) := by decide +kernel
theorem d_M_lookAll_209 : decode prog_7_method_24_code 209 = .ok (.getfield 33, 3) := by decide +kernel
theorem d_M_lookAll_212 : decode prog_7_method_24_code 212 = .ok (.iload_n 3, 1) := by decide +kernel
theorem d_M_lookAll_213 : decode prog_7_method_24_code 213 = .ok (.iaload, 1) := by decide +kernel
theorem d_M_lookAll_214 : decode prog_7_method_24_code 214 = .ok (.iload_n 2, 1) := by decide +kernel
theorem d_M_lookAll_215 : decode prog_7_method_24_code 215 = .ok (.aload_n 0, 1) := by decide +kernel
theorem d_M_lookAll_216 : decode prog_7_method_24_code 216 = .ok (.getfield 30, 3) := by decide +kernel
theorem d_M_lookAll_219 : decode prog_7_method_24_code 219 = .ok (.iload_n 1, 1) := by decide +kernel
theorem d_M_lookAll_220 : decode prog_7_method_24_code 220 = .ok (.iconst 1, 1) := by decide +kernel
theorem d_M_lookAll_221 : decode prog_7_method_24_code 221 = .ok (.iadd, 1) := by decide +kernel
theorem d_M_lookAll_222 : decode prog_7_method_24_code 222 = .ok (.iaload, 1) := by decide +kernel
theorem d_M_lookAll_223 : decode prog_7_method_24_code 223 = .ok (.aload_n 0, 1) := by decide +kernel
theorem d_M_lookAll_224 : decode prog_7_method_24_code 224 = .ok (.getfield 30, 3) := by decide +kernel
theorem d_M_lookAll_227 : decode prog_7_method_24_code 227 = .ok (.iload_n 1, 1) := by decide +kernel
theorem d_M_lookAll_228 : decode prog_7_method_24_code 228 = .ok (.iaload, 1) := by decide +kernel
theorem d_M_lookAll_229 : decode prog_7_method_24_code 229 = .ok (.isub, 1) := by decide +kernel
theorem d_M_lookAll_230 : decode prog_7_method_24_code 230 = .ok (.invokevirtual 142, 3) := by decide +kernel
theorem d_M_lookAll_233 : decode prog_7_method_24_code 233 = .ok (.iinc 3 1, 3) := by decide +kernel
theorem d_M_lookAll_236 : decode prog_7_method_24_code 236 = .ok (.goto (-48), 3) := by decide +kernel
theorem d_M_lookAll_239 : decode prog_7_method_24_code 239 = .ok (.iinc 1 1, 3) := by decide +kernel
theorem d_M_lookAll_242 : decode prog_7_method_24_code 242 = .ok (.goto (-111), 3) := by decide +kernel
theorem d_M_lookAll_245 : decode prog_7_method_24_code 245 = .ok (.return_, 1) := by decide +kernel
abbrev T_M_lookAll : List (Nat × ct_PT) := [(0, o_push (.int 0) 1), (1, o_istore 1 1), (2, o_iload 1 1), (3, o_aload 0 1), (4, o_getI 4 24 9), (7, o_ic (fun x y => y ≤ x) (fun x y => ¬ y ≤ x) 55), (10, o_aload 0 1), (14, o_if (fun x => x = 0) (fun x => ¬ x = 0) 55), (17, o_aload 0 1), (18, o_getR 4 24 15), (21, o_iload 1 1), (22, o_iald), (23, o_push (.int 2) 1), (24, o_ii fun x y => x + y), (25, o_istore 2 1), (26, o_push (.int 0) 1), (27, o_istore 3 1), (28, o_iload 3 1), (29, o_aload 0 1), (30, o_iload 1 1), (34, o_ic (fun x y => y ≤ x) (fun x y => ¬ y ≤ x) 49), (37, o_aload 0 1), (38, o_iload 2 1), (42, o_istore 2 1), (43, o_iinc 3 1), (46, o_goto 28), (49, o_iinc 1 1), (52, o_goto 2), (55, o_push (.int 0) 1), (56, o_istore 1 1), (57, o_iload 1 1), (58, o_aload 0 1), (59, o_getI 4 24 11), (62, o_ic (fun x y => y ≤ x) (fun x y => ¬ y ≤ x) 95), (65, o_aload 0 1), (69, o_if (fun x => x = 0) (fun x => ¬ x = 0) 95), (72, o_aload 0 1), (73, o_aload 0 1), (74, o_aload 0 1), (75, o_getR 4 24 16), (78, o_iload 1 1), (79, o_iald), (80, o_push (.int 4) 1), (81, o_ii fun x y => x + y), (88, o_pop), (89, o_iinc 1 1), (92, o_goto 57), (95, o_push (.int 0) 1), (96, o_istore 1 1), (97, o_iload 1 1), (98, o_aload 0 1), (99, o_getI 4 24 12), (102, o_ic (fun x y => y ≤ x) (fun x y => ¬ y ≤ x) 129), (105, o_aload 0 1), (109, o_if (fun x => x = 0) (fun x => ¬ x = 0) 129), (112, o_aload 0 1), (113, o_aload 0 1), (114, o_getR 4 24 17), (117, o_iload 1 1), (118, o_iald), (122, o_pop), (123, o_iinc 1 1), (126, o_goto 97), (129, o_push (.int 0) 1), (130, o_istore 1 1), (131, o_iload 1 1), (132, o_aload 0 1), (133, o_getI 4 24 13), (136, o_ic (fun x y => y ≤ x) (fun x y => ¬ y ≤ x) 245), (139, o_aload 0 1), (143, o_if (fun x => x = 0) (fun x => ¬ x = 0) 245), (146, o_aload 0 1), (147, o_aload 0 1), (148, o_aload 0 1), (149, o_aload 0 1), (150, o_getR 4 24 18), (153, o_iload 1 1), (154, o_iald), (155, o_push (.int 1) 1), (156, o_ii fun x y => x + y), (166, o_pop), (167, o_aload 0 1), (168, o_iload 1 1), (169, o_push (.int 0) 1), (173, o_aload 0 1), (174, o_iload 1 1), (175, o_push (.int 2) 1), (179, o_ii fun x y => x + y), (180, o_istore 2 1), (181, o_aload 0 1), (182, o_getR 4 24 19), (185, o_iload 1 1), (186, o_iald), (187, o_istore 3 1), (188, o_iload 3 1), (189, o_aload 0 1), (190, o_getR 4 24 19), (193, o_iload 1 1), (194, o_push (.int 1) 1), (195, o_ii fun x y => x + y), (196, o_iald), (197, o_ic (fun x y => y ≤ x) (fun x y => ¬ y ≤ x) 239), (200, o_aload 0 1), (204, o_if (fun x => x = 0) (fun x => ¬ x = 0) 239), (207, o_aload 0 1), (208, o_aload 0 1), (209, o_getR 4 24 20), (212, o_iload 3 1), (213, o_iald), (214, o_iload 2 1), (215, o_aload 0 1), (216, o_getR 4 24 19), (219, o_iload 1 1), (220, o_push (.int 1) 1), (221, o_ii fun x y => x + y), (222, o_iald), (223, o_aload 0 1), (224, o_getR 4 24 19), (227, o_iload 1 1), (228, o_iald), (229, o_ii fun x y => x - y), (233, o_iinc 3 1), (236, o_goto 188), (239, o_iinc 1 1), (242, o_goto 131)]
set_option maxRecDepth 100000 in
theorem A_M_lookAll (l : ct_Lx) : ct_al l M_M_lookAll (T_M_lookAll) := by
  refine ct_al.cons (so_iconst d_M_lookAll_0 (by decide)) ?_
  refine ct_al.cons (so_istore_n d_M_lookAll_1 rfl (by decide)) ?_
  refine ct_al.cons (so_iload_n d_M_lookAll_2 rfl) ?_
  refine ct_al.cons (so_aload_n d_M_lookAll_3 rfl) ?_
  refine ct_al.cons (so_getI (Cn := "CodeTablesModel") (T := ct_T4) kc_4 (by decide) rfl rfl wd_411 d_M_lookAll_4) ?_
  refine ct_al.cons (so_ic_ge d_M_lookAll_7 (by decide)) ?_
  refine ct_al.cons (so_aload_n d_M_lookAll_10 rfl) ?_
  refine ct_al.cons (so_if_eq d_M_lookAll_14 (by decide)) ?_
  refine ct_al.cons (so_aload_n d_M_lookAll_17 rfl) ?_
  refine ct_al.cons (so_getR (Cn := "CodeTablesModel") (T := ct_T4) kc_4 (by decide) rfl rfl wd_341 d_M_lookAll_18) ?_
  refine ct_al.cons (so_iload_n d_M_lookAll_21 rfl) ?_
  refine ct_al.cons (so_iald d_M_lookAll_22) ?_
  refine ct_al.cons (so_iconst d_M_lookAll_23 (by decide)) ?_
  refine ct_al.cons (so_iadd d_M_lookAll_24) ?_
  refine ct_al.cons (so_istore_n d_M_lookAll_25 rfl (by decide)) ?_
  refine ct_al.cons (so_iconst d_M_lookAll_26 (by decide)) ?_
  refine ct_al.cons (so_istore_n d_M_lookAll_27 rfl (by decide)) ?_
  refine ct_al.cons (so_iload_n d_M_lookAll_28 rfl) ?_
  refine ct_al.cons (so_aload_n d_M_lookAll_29 rfl) ?_
  refine ct_al.cons (so_iload_n d_M_lookAll_30 rfl) ?_
  refine ct_al.cons (so_ic_ge d_M_lookAll_34 (by decide)) ?_
  refine ct_al.cons (so_aload_n d_M_lookAll_37 rfl) ?_
  refine ct_al.cons (so_iload_n d_M_lookAll_38 rfl) ?_
  refine ct_al.cons (so_istore_n d_M_lookAll_42 rfl (by decide)) ?_
  refine ct_al.cons (so_iinc d_M_lookAll_43 (by decide) (by decide)) ?_
  refine ct_al.cons (so_goto d_M_lookAll_46 (by decide)) ?_
  refine ct_al.cons (so_iinc d_M_lookAll_49 (by decide) (by decide)) ?_
  refine ct_al.cons (so_goto d_M_lookAll_52 (by decide)) ?_
  refine ct_al.cons (so_iconst d_M_lookAll_55 (by decide)) ?_
  refine ct_al.cons (so_istore_n d_M_lookAll_56 rfl (by decide)) ?_
  refine ct_al.cons (so_iload_n d_M_lookAll_57 rfl) ?_
  refine ct_al.cons (so_aload_n d_M_lookAll_58 rfl) ?_
  refine ct_al.cons (so_getI (Cn := "CodeTablesModel") (T := ct_T4) kc_4 (by decide) rfl rfl wd_413 d_M_lookAll_59) ?_
  refine ct_al.cons (so_ic_ge d_M_lookAll_62 (by decide)) ?_
  refine ct_al.cons (so_aload_n d_M_lookAll_65 rfl) ?_
  refine ct_al.cons (so_if_eq d_M_lookAll_69 (by decide)) ?_
  refine ct_al.cons (so_aload_n d_M_lookAll_72 rfl) ?_
  refine ct_al.cons (so_aload_n d_M_lookAll_73 rfl) ?_
  refine ct_al.cons (so_aload_n d_M_lookAll_74 rfl) ?_
  refine ct_al.cons (so_getR (Cn := "CodeTablesModel") (T := ct_T4) kc_4 (by decide) rfl rfl wd_342 d_M_lookAll_75) ?_
  refine ct_al.cons (so_iload_n d_M_lookAll_78 rfl) ?_
  refine ct_al.cons (so_iald d_M_lookAll_79) ?_
  refine ct_al.cons (so_iconst d_M_lookAll_80 (by decide)) ?_
  refine ct_al.cons (so_iadd d_M_lookAll_81) ?_
  refine ct_al.cons (so_pop d_M_lookAll_88) ?_
  refine ct_al.cons (so_iinc d_M_lookAll_89 (by decide) (by decide)) ?_
  refine ct_al.cons (so_goto d_M_lookAll_92 (by decide)) ?_
  refine ct_al.cons (so_iconst d_M_lookAll_95 (by decide)) ?_
  refine ct_al.cons (so_istore_n d_M_lookAll_96 rfl (by decide)) ?_
  refine ct_al.cons (so_iload_n d_M_lookAll_97 rfl) ?_
  refine ct_al.cons (so_aload_n d_M_lookAll_98 rfl) ?_
  refine ct_al.cons (so_getI (Cn := "CodeTablesModel") (T := ct_T4) kc_4 (by decide) rfl rfl wd_414 d_M_lookAll_99) ?_
  refine ct_al.cons (so_ic_ge d_M_lookAll_102 (by decide)) ?_
  refine ct_al.cons (so_aload_n d_M_lookAll_105 rfl) ?_
  refine ct_al.cons (so_if_eq d_M_lookAll_109 (by decide)) ?_
  refine ct_al.cons (so_aload_n d_M_lookAll_112 rfl) ?_
  refine ct_al.cons (so_aload_n d_M_lookAll_113 rfl) ?_
  refine ct_al.cons (so_getR (Cn := "CodeTablesModel") (T := ct_T4) kc_4 (by decide) rfl rfl wd_343 d_M_lookAll_114) ?_
  refine ct_al.cons (so_iload_n d_M_lookAll_117 rfl) ?_
  refine ct_al.cons (so_iald d_M_lookAll_118) ?_
  refine ct_al.cons (so_pop d_M_lookAll_122) ?_
  refine ct_al.cons (so_iinc d_M_lookAll_123 (by decide) (by decide)) ?_
  refine ct_al.cons (so_goto d_M_lookAll_126 (by decide)) ?_
  refine ct_al.cons (so_iconst d_M_lookAll_129 (by decide)) ?_
  refine ct_al.cons (so_istore_n d_M_lookAll_130 rfl (by decide)) ?_
  refine ct_al.cons (so_iload_n d_M_lookAll_131 rfl) ?_
  refine ct_al.cons (so_aload_n d_M_lookAll_132 rfl) ?_
  refine ct_al.cons (so_getI (Cn := "CodeTablesModel") (T := ct_T4) kc_4 (by decide) rfl rfl wd_415 d_M_lookAll_133) ?_
  refine ct_al.cons (so_ic_ge d_M_lookAll_136 (by decide)) ?_
  refine ct_al.cons (so_aload_n d_M_lookAll_139 rfl) ?_
  refine ct_al.cons (so_if_eq d_M_lookAll_143 (by decide)) ?_
  refine ct_al.cons (so_aload_n d_M_lookAll_146 rfl) ?_
  refine ct_al.cons (so_aload_n d_M_lookAll_147 rfl) ?_
  refine ct_al.cons (so_aload_n d_M_lookAll_148 rfl) ?_
  refine ct_al.cons (so_aload_n d_M_lookAll_149 rfl) ?_
  refine ct_al.cons (so_getR (Cn := "CodeTablesModel") (T := ct_T4) kc_4 (by decide) rfl rfl wd_344 d_M_lookAll_150) ?_
  refine ct_al.cons (so_iload_n d_M_lookAll_153 rfl) ?_
  refine ct_al.cons (so_iald d_M_lookAll_154) ?_
  refine ct_al.cons (so_iconst d_M_lookAll_155 (by decide)) ?_
  refine ct_al.cons (so_iadd d_M_lookAll_156) ?_
  refine ct_al.cons (so_pop d_M_lookAll_166) ?_
  refine ct_al.cons (so_aload_n d_M_lookAll_167 rfl) ?_
  refine ct_al.cons (so_iload_n d_M_lookAll_168 rfl) ?_
  refine ct_al.cons (so_iconst d_M_lookAll_169 (by decide)) ?_
  refine ct_al.cons (so_aload_n d_M_lookAll_173 rfl) ?_
  refine ct_al.cons (so_iload_n d_M_lookAll_174 rfl) ?_
  refine ct_al.cons (so_iconst d_M_lookAll_175 (by decide)) ?_
  refine ct_al.cons (so_iadd d_M_lookAll_179) ?_
  refine ct_al.cons (so_istore_n d_M_lookAll_180 rfl (by decide)) ?_
  refine ct_al.cons (so_aload_n d_M_lookAll_181 rfl) ?_
  refine ct_al.cons (so_getR (Cn := "CodeTablesModel") (T := ct_T4) kc_4 (by decide) rfl rfl wd_345 d_M_lookAll_182) ?_
  refine ct_al.cons (so_iload_n d_M_lookAll_185 rfl) ?_
  refine ct_al.cons (so_iald d_M_lookAll_186) ?_
  refine ct_al.cons (so_istore_n d_M_lookAll_187 rfl (by decide)) ?_
  refine ct_al.cons (so_iload_n d_M_lookAll_188 rfl) ?_
  refine ct_al.cons (so_aload_n d_M_lookAll_189 rfl) ?_
  refine ct_al.cons (so_getR (Cn := "CodeTablesModel") (T := ct_T4) kc_4 (by decide) rfl rfl wd_345 d_M_lookAll_190) ?_
  refine ct_al.cons (so_iload_n d_M_lookAll_193 rfl) ?_
  refine ct_al.cons (so_iconst d_M_lookAll_194 (by decide)) ?_
  refine ct_al.cons (so_iadd d_M_lookAll_195) ?_
  refine ct_al.cons (so_iald d_M_lookAll_196) ?_
  refine ct_al.cons (so_ic_ge d_M_lookAll_197 (by decide)) ?_
  refine ct_al.cons (so_aload_n d_M_lookAll_200 rfl) ?_
  refine ct_al.cons (so_if_eq d_M_lookAll_204 (by decide)) ?_
  refine ct_al.cons (so_aload_n d_M_lookAll_207 rfl) ?_
  refine ct_al.cons (so_aload_n d_M_lookAll_208 rfl) ?_
  refine ct_al.cons (so_getR (Cn := "CodeTablesModel") (T := ct_T4) kc_4 (by decide) rfl rfl wd_346 d_M_lookAll_209) ?_
  refine ct_al.cons (so_iload_n d_M_lookAll_212 rfl) ?_
  refine ct_al.cons (so_iald d_M_lookAll_213) ?_
  refine ct_al.cons (so_iload_n d_M_lookAll_214 rfl) ?_
  refine ct_al.cons (so_aload_n d_M_lookAll_215 rfl) ?_
  refine ct_al.cons (so_getR (Cn := "CodeTablesModel") (T := ct_T4) kc_4 (by decide) rfl rfl wd_345 d_M_lookAll_216) ?_
  refine ct_al.cons (so_iload_n d_M_lookAll_219 rfl) ?_
  refine ct_al.cons (so_iconst d_M_lookAll_220 (by decide)) ?_
  refine ct_al.cons (so_iadd d_M_lookAll_221) ?_
  refine ct_al.cons (so_iald d_M_lookAll_222) ?_
  refine ct_al.cons (so_aload_n d_M_lookAll_223 rfl) ?_
  refine ct_al.cons (so_getR (Cn := "CodeTablesModel") (T := ct_T4) kc_4 (by decide) rfl rfl wd_345 d_M_lookAll_224) ?_
  refine ct_al.cons (so_iload_n d_M_lookAll_227 rfl) ?_
  refine ct_al.cons (so_iald d_M_lookAll_228) ?_
  refine ct_al.cons (so_isub d_M_lookAll_229) ?_
  refine ct_al.cons (so_iinc d_M_lookAll_233 (by decide) (by decide)) ?_
  refine ct_al.cons (so_goto d_M_lookAll_236 (by decide)) ?_
  refine ct_al.cons (so_iinc d_M_lookAll_239 (by decide) (by decide)) ?_
  refine ct_al.cons (so_goto d_M_lookAll_242 (by decide)) ?_
  exact ct_al.nil
set_option maxRecDepth 100000 in
theorem e_M_lookAll_0 : ct_tab (T_M_lookAll) 0 = some (o_push (.int 0) 1) := rfl
set_option maxRecDepth 100000 in
theorem e_M_lookAll_1 : ct_tab (T_M_lookAll) 1 = some (o_istore 1 1) := rfl
set_option maxRecDepth 100000 in
theorem e_M_lookAll_2 : ct_tab (T_M_lookAll) 2 = some (o_iload 1 1) := rfl
set_option maxRecDepth 100000 in
theorem e_M_lookAll_3 : ct_tab (T_M_lookAll) 3 = some (o_aload 0 1) := rfl
set_option maxRecDepth 100000 in
theorem e_M_lookAll_4 : ct_tab (T_M_lookAll) 4 = some (o_getI 4 24 9) := rfl
set_option maxRecDepth 100000 in
theorem e_M_lookAll_7 : ct_tab (T_M_lookAll) 7 = some (o_ic (fun x y => y ≤ x) (fun x y => ¬ y ≤ x) 55) := rfl
set_option maxRecDepth 100000 in
theorem e_M_lookAll_10 : ct_tab (T_M_lookAll) 10 = some (o_aload 0 1) := rfl
set_option maxRecDepth 100000 in
theorem e_M_lookAll_14 : ct_tab (T_M_lookAll) 14 = some (o_if (fun x => x = 0) (fun x => ¬ x = 0) 55) := rfl
set_option maxRecDepth 100000 in
theorem e_M_lookAll_17 : ct_tab (T_M_lookAll) 17 = some (o_aload 0 1) := rfl
set_option maxRecDepth 100000 in
theorem e_M_lookAll_18 : ct_tab (T_M_lookAll) 18 = some (o_getR 4 24 15) := rfl
set_option maxRecDepth 100000 in
theorem e_M_lookAll_21 : ct_tab (T_M_lookAll) 21 = some (o_iload 1 1) := rfl
set_option maxRecDepth 100000 in
theorem e_M_lookAll_22 : ct_tab (T_M_lookAll) 22 = some (o_iald) := rfl
set_option maxRecDepth 100000 in
theorem e_M_lookAll_23 : ct_tab (T_M_lookAll) 23 = some (o_push (.int 2) 1) := rfl
set_option maxRecDepth 100000 in
theorem e_M_lookAll_24 : ct_tab (T_M_lookAll) 24 = some (o_ii fun x y => x + y) := rfl
set_option maxRecDepth 100000 in
theorem e_M_lookAll_25 : ct_tab (T_M_lookAll) 25 = some (o_istore 2 1) := rfl
set_option maxRecDepth 100000 in
theorem e_M_lookAll_26 : ct_tab (T_M_lookAll) 26 = some (o_push (.int 0) 1) := rfl
set_option maxRecDepth 100000 in
theorem e_M_lookAll_27 : ct_tab (T_M_lookAll) 27 = some (o_istore 3 1) := rfl
set_option maxRecDepth 100000 in
theorem e_M_lookAll_28 : ct_tab (T_M_lookAll) 28 = some (o_iload 3 1) := rfl
set_option maxRecDepth 100000 in
theorem e_M_lookAll_29 : ct_tab (T_M_lookAll) 29 = some (o_aload 0 1) := rfl
set_option maxRecDepth 100000 in
theorem e_M_lookAll_30 : ct_tab (T_M_lookAll) 30 = some (o_iload 1 1) := rfl
set_option maxRecDepth 100000 in
theorem e_M_lookAll_34 : ct_tab (T_M_lookAll) 34 = some (o_ic (fun x y => y ≤ x) (fun x y => ¬ y ≤ x) 49) := rfl
set_option maxRecDepth 100000 in
theorem e_M_lookAll_37 : ct_tab (T_M_lookAll) 37 = some (o_aload 0 1) := rfl
set_option maxRecDepth 100000 in
theorem e_M_lookAll_38 : ct_tab (T_M_lookAll) 38 = some (o_iload 2 1) := rfl
set_option maxRecDepth 100000 in
theorem e_M_lookAll_42 : ct_tab (T_M_lookAll) 42 = some (o_istore 2 1) := rfl
set_option maxRecDepth 100000 in
theorem e_M_lookAll_43 : ct_tab (T_M_lookAll) 43 = some (o_iinc 3 1) := rfl
set_option maxRecDepth 100000 in
theorem e_M_lookAll_46 : ct_tab (T_M_lookAll) 46 = some (o_goto 28) := rfl
set_option maxRecDepth 100000 in
theorem e_M_lookAll_49 : ct_tab (T_M_lookAll) 49 = some (o_iinc 1 1) := rfl
set_option maxRecDepth 100000 in
theorem e_M_lookAll_52 : ct_tab (T_M_lookAll) 52 = some (o_goto 2) := rfl
set_option maxRecDepth 100000 in
theorem e_M_lookAll_55 : ct_tab (T_M_lookAll) 55 = some (o_push (.int 0) 1) := rfl
set_option maxRecDepth 100000 in
theorem e_M_lookAll_56 : ct_tab (T_M_lookAll) 56 = some (o_istore 1 1) := rfl
set_option maxRecDepth 100000 in
theorem e_M_lookAll_57 : ct_tab (T_M_lookAll) 57 = some (o_iload 1 1) := rfl
set_option maxRecDepth 100000 in
theorem e_M_lookAll_58 : ct_tab (T_M_lookAll) 58 = some (o_aload 0 1) := rfl
set_option maxRecDepth 100000 in
theorem e_M_lookAll_59 : ct_tab (T_M_lookAll) 59 = some (o_getI 4 24 11) := rfl
set_option maxRecDepth 100000 in
theorem e_M_lookAll_62 : ct_tab (T_M_lookAll) 62 = some (o_ic (fun x y => y ≤ x) (fun x y => ¬ y ≤ x) 95) := rfl
set_option maxRecDepth 100000 in
theorem e_M_lookAll_65 : ct_tab (T_M_lookAll) 65 = some (o_aload 0 1) := rfl
set_option maxRecDepth 100000 in
theorem e_M_lookAll_69 : ct_tab (T_M_lookAll) 69 = some (o_if (fun x => x = 0) (fun x => ¬ x = 0) 95) := rfl
set_option maxRecDepth 100000 in
theorem e_M_lookAll_72 : ct_tab (T_M_lookAll) 72 = some (o_aload 0 1) := rfl
set_option maxRecDepth 100000 in
theorem e_M_lookAll_73 : ct_tab (T_M_lookAll) 73 = some (o_aload 0 1) := rfl
set_option maxRecDepth 100000 in
theorem e_M_lookAll_74 : ct_tab (T_M_lookAll) 74 = some (o_aload 0 1) := rfl
set_option maxRecDepth 100000 in
theorem e_M_lookAll_75 : ct_tab (T_M_lookAll) 75 = some (o_getR 4 24 16) := rfl
set_option maxRecDepth 100000 in
theorem e_M_lookAll_78 : ct_tab (T_M_lookAll) 78 = some (o_iload 1 1) := rfl
set_option maxRecDepth 100000 in
theorem e_M_lookAll_79 : ct_tab (T_M_lookAll) 79 = some (o_iald) := rfl
set_option maxRecDepth 100000 in
theorem e_M_lookAll_80 : ct_tab (T_M_lookAll) 80 = some (o_push (.int 4) 1) := rfl
set_option maxRecDepth 100000 in
theorem e_M_lookAll_81 : ct_tab (T_M_lookAll) 81 = some (o_ii fun x y => x + y) := rfl
set_option maxRecDepth 100000 in
theorem e_M_lookAll_88 : ct_tab (T_M_lookAll) 88 = some (o_pop) := rfl
set_option maxRecDepth 100000 in
theorem e_M_lookAll_89 : ct_tab (T_M_lookAll) 89 = some (o_iinc 1 1) := rfl
set_option maxRecDepth 100000 in
theorem e_M_lookAll_92 : ct_tab (T_M_lookAll) 92 = some (o_goto 57) := rfl
set_option maxRecDepth 100000 in
theorem e_M_lookAll_95 : ct_tab (T_M_lookAll) 95 = some (o_push (.int 0) 1) := rfl
set_option maxRecDepth 100000 in
theorem e_M_lookAll_96 : ct_tab (T_M_lookAll) 96 = some (o_istore 1 1) := rfl
set_option maxRecDepth 100000 in
theorem e_M_lookAll_97 : ct_tab (T_M_lookAll) 97 = some (o_iload 1 1) := rfl
set_option maxRecDepth 100000 in
theorem e_M_lookAll_98 : ct_tab (T_M_lookAll) 98 = some (o_aload 0 1) := rfl
set_option maxRecDepth 100000 in
theorem e_M_lookAll_99 : ct_tab (T_M_lookAll) 99 = some (o_getI 4 24 12) := rfl
set_option maxRecDepth 100000 in
theorem e_M_lookAll_102 : ct_tab (T_M_lookAll) 102 = some (o_ic (fun x y => y ≤ x) (fun x y => ¬ y ≤ x) 129) := rfl
set_option maxRecDepth 100000 in
theorem e_M_lookAll_105 : ct_tab (T_M_lookAll) 105 = some (o_aload 0 1) := rfl
set_option maxRecDepth 100000 in
theorem e_M_lookAll_109 : ct_tab (T_M_lookAll) 109 = some (o_if (fun x => x = 0) (fun x => ¬ x = 0) 129) := rfl
set_option maxRecDepth 100000 in
theorem e_M_lookAll_112 : ct_tab (T_M_lookAll) 112 = some (o_aload 0 1) := rfl
set_option maxRecDepth 100000 in
theorem e_M_lookAll_113 : ct_tab (T_M_lookAll) 113 = some (o_aload 0 1) := rfl
set_option maxRecDepth 100000 in
theorem e_M_lookAll_114 : ct_tab (T_M_lookAll) 114 = some (o_getR 4 24 17) := rfl
set_option maxRecDepth 100000 in
theorem e_M_lookAll_117 : ct_tab (T_M_lookAll) 117 = some (o_iload 1 1) := rfl
set_option maxRecDepth 100000 in
theorem e_M_lookAll_118 : ct_tab (T_M_lookAll) 118 = some (o_iald) := rfl
set_option maxRecDepth 100000 in
theorem e_M_lookAll_122 : ct_tab (T_M_lookAll) 122 = some (o_pop) := rfl
set_option maxRecDepth 100000 in
theorem e_M_lookAll_123 : ct_tab (T_M_lookAll) 123 = some (o_iinc 1 1) := rfl
set_option maxRecDepth 100000 in
theorem e_M_lookAll_126 : ct_tab (T_M_lookAll) 126 = some (o_goto 97) := rfl
set_option maxRecDepth 100000 in
theorem e_M_lookAll_129 : ct_tab (T_M_lookAll) 129 = some (o_push (.int 0) 1) := rfl
set_option maxRecDepth 100000 in
theorem e_M_lookAll_130 : ct_tab (T_M_lookAll) 130 = some (o_istore 1 1) := rfl
set_option maxRecDepth 100000 in
theorem e_M_lookAll_131 : ct_tab (T_M_lookAll) 131 = some (o_iload 1 1) := rfl
set_option maxRecDepth 100000 in
theorem e_M_lookAll_132 : ct_tab (T_M_lookAll) 132 = some (o_aload 0 1) := rfl
set_option maxRecDepth 100000 in
theorem e_M_lookAll_133 : ct_tab (T_M_lookAll) 133 = some (o_getI 4 24 13) := rfl
set_option maxRecDepth 100000 in
theorem e_M_lookAll_136 : ct_tab (T_M_lookAll) 136 = some (o_ic (fun x y => y ≤ x) (fun x y => ¬ y ≤ x) 245) := rfl
set_option maxRecDepth 100000 in
theorem e_M_lookAll_139 : ct_tab (T_M_lookAll) 139 = some (o_aload 0 1) := rfl
set_option maxRecDepth 100000 in
theorem e_M_lookAll_143 : ct_tab (T_M_lookAll) 143 = some (o_if (fun x => x = 0) (fun x => ¬ x = 0) 245) := rfl
set_option maxRecDepth 100000 in
theorem e_M_lookAll_146 : ct_tab (T_M_lookAll) 146 = some (o_aload 0 1) := rfl
set_option maxRecDepth 100000 in
theorem e_M_lookAll_147 : ct_tab (T_M_lookAll) 147 = some (o_aload 0 1) := rfl
set_option maxRecDepth 100000 in
theorem e_M_lookAll_148 : ct_tab (T_M_lookAll) 148 = some (o_aload 0 1) := rfl
set_option maxRecDepth 100000 in
theorem e_M_lookAll_149 : ct_tab (T_M_lookAll) 149 = some (o_aload 0 1) := rfl
set_option maxRecDepth 100000 in
theorem e_M_lookAll_150 : ct_tab (T_M_lookAll) 150 = some (o_getR 4 24 18) := rfl
set_option maxRecDepth 100000 in
theorem e_M_lookAll_153 : ct_tab (T_M_lookAll) 153 = some (o_iload 1 1) := rfl
set_option maxRecDepth 100000 in
theorem e_M_lookAll_154 : ct_tab (T_M_lookAll) 154 = some (o_iald) := rfl
set_option maxRecDepth 100000 in
theorem e_M_lookAll_155 : ct_tab (T_M_lookAll) 155 = some (o_push (.int 1) 1) := rfl
set_option maxRecDepth 100000 in
theorem e_M_lookAll_156 : ct_tab (T_M_lookAll) 156 = some (o_ii fun x y => x + y) := rfl
set_option maxRecDepth 100000 in
theorem e_M_lookAll_166 : ct_tab (T_M_lookAll) 166 = some (o_pop) := rfl
set_option maxRecDepth 100000 in
theorem e_M_lookAll_167 : ct_tab (T_M_lookAll) 167 = some (o_aload 0 1) := rfl
set_option maxRecDepth 100000 in
theorem e_M_lookAll_168 : ct_tab (T_M_lookAll) 168 = some (o_iload 1 1) := rfl
set_option maxRecDepth 100000 in
theorem e_M_lookAll_169 : ct_tab (T_M_lookAll) 169 = some (o_push (.int 0) 1) := rfl
set_option maxRecDepth 100000 in
theorem e_M_lookAll_173 : ct_tab (T_M_lookAll) 173 = some (o_aload 0 1) := rfl
set_option maxRecDepth 100000 in
theorem e_M_lookAll_174 : ct_tab (T_M_lookAll) 174 = some (o_iload 1 1) := rfl
set_option maxRecDepth 100000 in
theorem e_M_lookAll_175 : ct_tab (T_M_lookAll) 175 = some (o_push (.int 2) 1) := rfl
set_option maxRecDepth 100000 in
theorem e_M_lookAll_179 : ct_tab (T_M_lookAll) 179 = some (o_ii fun x y => x + y) := rfl
set_option maxRecDepth 100000 in
theorem e_M_lookAll_180 : ct_tab (T_M_lookAll) 180 = some (o_istore 2 1) := rfl
set_option maxRecDepth 100000 in
theorem e_M_lookAll_181 : ct_tab (T_M_lookAll) 181 = some (o_aload 0 1) := rfl
set_option maxRecDepth 100000 in
theorem e_M_lookAll_182 : ct_tab (T_M_lookAll) 182 = some (o_getR 4 24 19) := rfl
set_option maxRecDepth 100000 in
theorem e_M_lookAll_185 : ct_tab (T_M_lookAll) 185 = some (o_iload 1 1) := rfl
set_option maxRecDepth 100000 in
theorem e_M_lookAll_186 : ct_tab (T_M_lookAll) 186 = some (o_iald) := rfl
set_option maxRecDepth 100000 in
theorem e_M_lookAll_187 : ct_tab (T_M_lookAll) 187 = some (o_istore 3 1) := rfl
set_option maxRecDepth 100000 in
theorem e_M_lookAll_188 : ct_tab (T_M_lookAll) 188 = some (o_iload 3 1) := rfl
set_option maxRecDepth 100000 in
theorem e_M_lookAll_189 : ct_tab (T_M_lookAll) 189 = some (o_aload 0 1) := rfl
set_option maxRecDepth 100000 in
theorem e_M_lookAll_190 : ct_tab (T_M_lookAll) 190 = some (o_getR 4 24 19) := rfl
set_option maxRecDepth 100000 in
theorem e_M_lookAll_193 : ct_tab (T_M_lookAll) 193 = some (o_iload 1 1) := rfl
set_option maxRecDepth 100000 in
theorem e_M_lookAll_194 : ct_tab (T_M_lookAll) 194 = some (o_push (.int 1) 1) := rfl
set_option maxRecDepth 100000 in
theorem e_M_lookAll_195 : ct_tab (T_M_lookAll) 195 = some (o_ii fun x y => x + y) := rfl
set_option maxRecDepth 100000 in
theorem e_M_lookAll_196 : ct_tab (T_M_lookAll) 196 = some (o_iald) := rfl
set_option maxRecDepth 100000 in
theorem e_M_lookAll_197 : ct_tab (T_M_lookAll) 197 = some (o_ic (fun x y => y ≤ x) (fun x y => ¬ y ≤ x) 239) := rfl
set_option maxRecDepth 100000 in
theorem e_M_lookAll_200 : ct_tab (T_M_lookAll) 200 = some (o_aload 0 1) := rfl
set_option maxRecDepth 100000 in
theorem e_M_lookAll_204 : ct_tab (T_M_lookAll) 204 = some (o_if (fun x => x = 0) (fun x => ¬ x = 0) 239) := rfl
set_option maxRecDepth 100000 in
theorem e_M_lookAll_207 : ct_tab (T_M_lookAll) 207 = some (o_aload 0 1) := rfl
set_option maxRecDepth 100000 in
theorem e_M_lookAll_208 : ct_tab (T_M_lookAll) 208 = some (o_aload 0 1) := rfl
set_option maxRecDepth 100000 in
theorem e_M_lookAll_209 : ct_tab (T_M_lookAll) 209 = some (o_getR 4 24 20) := rfl
set_option maxRecDepth 100000 in
theorem e_M_lookAll_212 : ct_tab (T_M_lookAll) 212 = some (o_iload 3 1) := rfl
set_option maxRecDepth 100000 in
theorem e_M_lookAll_213 : ct_tab (T_M_lookAll) 213 = some (o_iald) := rfl
set_option maxRecDepth 100000 in
theorem e_M_lookAll_214 : ct_tab (T_M_lookAll) 214 = some (o_iload 2 1) := rfl
set_option maxRecDepth 100000 in
theorem e_M_lookAll_215 : ct_tab (T_M_lookAll) 215 = some (o_aload 0 1) := rfl
set_option maxRecDepth 100000 in
theorem e_M_lookAll_216 : ct_tab (T_M_lookAll) 216 = some (o_getR 4 24 19) := rfl
set_option maxRecDepth 100000 in
theorem e_M_lookAll_219 : ct_tab (T_M_lookAll) 219 = some (o_iload 1 1) := rfl
set_option maxRecDepth 100000 in
theorem e_M_lookAll_220 : ct_tab (T_M_lookAll) 220 = some (o_push (.int 1) 1) := rfl
set_option maxRecDepth 100000 in
theorem e_M_lookAll_221 : ct_tab (T_M_lookAll) 221 = some (o_ii fun x y => x + y) := rfl
set_option maxRecDepth 100000 in
theorem e_M_lookAll_222 : ct_tab (T_M_lookAll) 222 = some (o_iald) := rfl
set_option maxRecDepth 100000 in
theorem e_M_lookAll_223 : ct_tab (T_M_lookAll) 223 = some (o_aload 0 1) := rfl
set_option maxRecDepth 100000 in
theorem e_M_lookAll_224 : ct_tab (T_M_lookAll) 224 = some (o_getR 4 24 19) := rfl
set_option maxRecDepth 100000 in
theorem e_M_lookAll_227 : ct_tab (T_M_lookAll) 227 = some (o_iload 1 1) := rfl
set_option maxRecDepth 100000 in
theorem e_M_lookAll_228 : ct_tab (T_M_lookAll) 228 = some (o_iald) := rfl
set_option maxRecDepth 100000 in
theorem e_M_lookAll_229 : ct_tab (T_M_lookAll) 229 = some (o_ii fun x y => x - y) := rfl
set_option maxRecDepth 100000 in
theorem e_M_lookAll_233 : ct_tab (T_M_lookAll) 233 = some (o_iinc 3 1) := rfl
set_option maxRecDepth 100000 in
theorem e_M_lookAll_236 : ct_tab (T_M_lookAll) 236 = some (o_goto 188) := rfl
set_option maxRecDepth 100000 in
theorem e_M_lookAll_239 : ct_tab (T_M_lookAll) 239 = some (o_iinc 1 1) := rfl
set_option maxRecDepth 100000 in
theorem e_M_lookAll_242 : ct_tab (T_M_lookAll) 242 = some (o_goto 131) := rfl
theorem cl_M_lookAll_11 {l : ct_Lx} {d d1 : Nat} {Post Post1 : Option Value → ct_Sg → Prop} {lv : ct_Lv} {st : List Value} {g : ct_Sg} {bc bs c1 s1 : Nat} {h : Nat} (hsh : g.2.1 h = (10 + 4, 24)) (hM : ct_Me l M_M_isGood d1 c1 s1 [.ref h] g Post1) (hdd : d1 + 1 ≤ d) (hk : (st.map fun v => v.category).sum ≤ 8) (hcc : c1 ≤ bc) (hss : s1 ≤ bs) (kk : ∀ (v : Option Value) (g' : ct_Sg), Post1 v g' → ct_Wp l M_M_lookAll d Post (14, lv, v.toList ++ st, g', bc - c1, bs - s1)) : ct_Wp l M_M_lookAll d Post (11, lv, .ref h :: st, g, bc, bs) := ct_Wp.callV (ci := 4) (N := 24) (T := ct_T4) (As := []) lk_M_isGood (Or.inl wd_373) wd_374 wd_375 rfl d_M_lookAll_11 hsh hM rfl hdd hk hcc hss kk
theorem cl_M_lookAll_31 {l : ct_Lx} {d d1 : Nat} {Post Post1 : Option Value → ct_Sg → Prop} {lv : ct_Lv} {st : List Value} {g : ct_Sg} {bc bs c1 s1 : Nat} {a1 : Value} {h : Nat} (hsh : g.2.1 h = (10 + 4, 24)) (hM : ct_Me l M_M_fieldsOf d1 c1 s1 [.ref h, a1] g Post1) (hdd : d1 + 1 ≤ d) (hk : (st.map fun v => v.category).sum ≤ 8) (hcc : c1 ≤ bc) (hss : s1 ≤ bs) (kk : ∀ (v : Option Value) (g' : ct_Sg), Post1 v g' → ct_Wp l M_M_lookAll d Post (34, lv, v.toList ++ st, g', bc - c1, bs - s1)) : ct_Wp l M_M_lookAll d Post (31, lv, a1 :: .ref h :: st, g, bc, bs) := ct_Wp.callV (ci := 4) (N := 24) (T := ct_T4) (As := [a1]) lk_M_fieldsOf (Or.inl wd_443) wd_444 wd_445 rfl d_M_lookAll_31 hsh hM rfl hdd hk hcc hss kk
theorem cl_M_lookAll_39 {l : ct_Lx} {d d1 : Nat} {Post Post1 : Option Value → ct_Sg → Prop} {lv : ct_Lv} {st : List Value} {g : ct_Sg} {bc bs c1 s1 : Nat} {a1 : Value} {h : Nat} (hsh : g.2.1 h = (10 + 4, 24)) (hM : ct_Me l M_M_lookType d1 c1 s1 [.ref h, a1] g Post1) (hdd : d1 + 1 ≤ d) (hk : (st.map fun v => v.category).sum ≤ 8) (hcc : c1 ≤ bc) (hss : s1 ≤ bs) (kk : ∀ (v : Option Value) (g' : ct_Sg), Post1 v g' → ct_Wp l M_M_lookAll d Post (42, lv, v.toList ++ st, g', bc - c1, bs - s1)) : ct_Wp l M_M_lookAll d Post (39, lv, a1 :: .ref h :: st, g, bc, bs) := ct_Wp.callV (ci := 4) (N := 24) (T := ct_T4) (As := [a1]) lk_M_lookType (Or.inl wd_433) wd_434 wd_435 rfl d_M_lookAll_39 hsh hM rfl hdd hk hcc hss kk
theorem cl_M_lookAll_66 {l : ct_Lx} {d d1 : Nat} {Post Post1 : Option Value → ct_Sg → Prop} {lv : ct_Lv} {st : List Value} {g : ct_Sg} {bc bs c1 s1 : Nat} {h : Nat} (hsh : g.2.1 h = (10 + 4, 24)) (hM : ct_Me l M_M_isGood d1 c1 s1 [.ref h] g Post1) (hdd : d1 + 1 ≤ d) (hk : (st.map fun v => v.category).sum ≤ 8) (hcc : c1 ≤ bc) (hss : s1 ≤ bs) (kk : ∀ (v : Option Value) (g' : ct_Sg), Post1 v g' → ct_Wp l M_M_lookAll d Post (69, lv, v.toList ++ st, g', bc - c1, bs - s1)) : ct_Wp l M_M_lookAll d Post (66, lv, .ref h :: st, g, bc, bs) := ct_Wp.callV (ci := 4) (N := 24) (T := ct_T4) (As := []) lk_M_isGood (Or.inl wd_373) wd_374 wd_375 rfl d_M_lookAll_66 hsh hM rfl hdd hk hcc hss kk
theorem cl_M_lookAll_82 {l : ct_Lx} {d d1 : Nat} {Post Post1 : Option Value → ct_Sg → Prop} {lv : ct_Lv} {st : List Value} {g : ct_Sg} {bc bs c1 s1 : Nat} {a1 : Value} {h : Nat} (hsh : g.2.1 h = (10 + 4, 24)) (hM : ct_Me l M_M_lookList d1 c1 s1 [.ref h, a1] g Post1) (hdd : d1 + 1 ≤ d) (hk : (st.map fun v => v.category).sum ≤ 8) (hcc : c1 ≤ bc) (hss : s1 ≤ bs) (kk : ∀ (v : Option Value) (g' : ct_Sg), Post1 v g' → ct_Wp l M_M_lookAll d Post (85, lv, v.toList ++ st, g', bc - c1, bs - s1)) : ct_Wp l M_M_lookAll d Post (82, lv, a1 :: .ref h :: st, g, bc, bs) := ct_Wp.callV (ci := 4) (N := 24) (T := ct_T4) (As := [a1]) lk_M_lookList (Or.inl wd_448) wd_449 wd_450 rfl d_M_lookAll_82 hsh hM rfl hdd hk hcc hss kk
theorem cl_M_lookAll_85 {l : ct_Lx} {d d1 : Nat} {Post Post1 : Option Value → ct_Sg → Prop} {lv : ct_Lv} {st : List Value} {g : ct_Sg} {bc bs c1 s1 : Nat} {a1 : Value} {h : Nat} (hsh : g.2.1 h = (10 + 4, 24)) (hM : ct_Me l M_M_lookList d1 c1 s1 [.ref h, a1] g Post1) (hdd : d1 + 1 ≤ d) (hk : (st.map fun v => v.category).sum ≤ 8) (hcc : c1 ≤ bc) (hss : s1 ≤ bs) (kk : ∀ (v : Option Value) (g' : ct_Sg), Post1 v g' → ct_Wp l M_M_lookAll d Post (88, lv, v.toList ++ st, g', bc - c1, bs - s1)) : ct_Wp l M_M_lookAll d Post (85, lv, a1 :: .ref h :: st, g, bc, bs) := ct_Wp.callV (ci := 4) (N := 24) (T := ct_T4) (As := [a1]) lk_M_lookList (Or.inl wd_448) wd_449 wd_450 rfl d_M_lookAll_85 hsh hM rfl hdd hk hcc hss kk
theorem cl_M_lookAll_106 {l : ct_Lx} {d d1 : Nat} {Post Post1 : Option Value → ct_Sg → Prop} {lv : ct_Lv} {st : List Value} {g : ct_Sg} {bc bs c1 s1 : Nat} {h : Nat} (hsh : g.2.1 h = (10 + 4, 24)) (hM : ct_Me l M_M_isGood d1 c1 s1 [.ref h] g Post1) (hdd : d1 + 1 ≤ d) (hk : (st.map fun v => v.category).sum ≤ 8) (hcc : c1 ≤ bc) (hss : s1 ≤ bs) (kk : ∀ (v : Option Value) (g' : ct_Sg), Post1 v g' → ct_Wp l M_M_lookAll d Post (109, lv, v.toList ++ st, g', bc - c1, bs - s1)) : ct_Wp l M_M_lookAll d Post (106, lv, .ref h :: st, g, bc, bs) := ct_Wp.callV (ci := 4) (N := 24) (T := ct_T4) (As := []) lk_M_isGood (Or.inl wd_373) wd_374 wd_375 rfl d_M_lookAll_106 hsh hM rfl hdd hk hcc hss kk
theorem cl_M_lookAll_119 {l : ct_Lx} {d d1 : Nat} {Post Post1 : Option Value → ct_Sg → Prop} {lv : ct_Lv} {st : List Value} {g : ct_Sg} {bc bs c1 s1 : Nat} {a1 : Value} {h : Nat} (hsh : g.2.1 h = (10 + 4, 24)) (hM : ct_Me l M_M_lookType d1 c1 s1 [.ref h, a1] g Post1) (hdd : d1 + 1 ≤ d) (hk : (st.map fun v => v.category).sum ≤ 8) (hcc : c1 ≤ bc) (hss : s1 ≤ bs) (kk : ∀ (v : Option Value) (g' : ct_Sg), Post1 v g' → ct_Wp l M_M_lookAll d Post (122, lv, v.toList ++ st, g', bc - c1, bs - s1)) : ct_Wp l M_M_lookAll d Post (119, lv, a1 :: .ref h :: st, g, bc, bs) := ct_Wp.callV (ci := 4) (N := 24) (T := ct_T4) (As := [a1]) lk_M_lookType (Or.inl wd_433) wd_434 wd_435 rfl d_M_lookAll_119 hsh hM rfl hdd hk hcc hss kk
theorem cl_M_lookAll_140 {l : ct_Lx} {d d1 : Nat} {Post Post1 : Option Value → ct_Sg → Prop} {lv : ct_Lv} {st : List Value} {g : ct_Sg} {bc bs c1 s1 : Nat} {h : Nat} (hsh : g.2.1 h = (10 + 4, 24)) (hM : ct_Me l M_M_isGood d1 c1 s1 [.ref h] g Post1) (hdd : d1 + 1 ≤ d) (hk : (st.map fun v => v.category).sum ≤ 8) (hcc : c1 ≤ bc) (hss : s1 ≤ bs) (kk : ∀ (v : Option Value) (g' : ct_Sg), Post1 v g' → ct_Wp l M_M_lookAll d Post (143, lv, v.toList ++ st, g', bc - c1, bs - s1)) : ct_Wp l M_M_lookAll d Post (140, lv, .ref h :: st, g, bc, bs) := ct_Wp.callV (ci := 4) (N := 24) (T := ct_T4) (As := []) lk_M_isGood (Or.inl wd_373) wd_374 wd_375 rfl d_M_lookAll_140 hsh hM rfl hdd hk hcc hss kk
theorem cl_M_lookAll_157 {l : ct_Lx} {d d1 : Nat} {Post Post1 : Option Value → ct_Sg → Prop} {lv : ct_Lv} {st : List Value} {g : ct_Sg} {bc bs c1 s1 : Nat} {a1 : Value} {h : Nat} (hsh : g.2.1 h = (10 + 4, 24)) (hM : ct_Me l M_M_lookList d1 c1 s1 [.ref h, a1] g Post1) (hdd : d1 + 1 ≤ d) (hk : (st.map fun v => v.category).sum ≤ 8) (hcc : c1 ≤ bc) (hss : s1 ≤ bs) (kk : ∀ (v : Option Value) (g' : ct_Sg), Post1 v g' → ct_Wp l M_M_lookAll d Post (160, lv, v.toList ++ st, g', bc - c1, bs - s1)) : ct_Wp l M_M_lookAll d Post (157, lv, a1 :: .ref h :: st, g, bc, bs) := ct_Wp.callV (ci := 4) (N := 24) (T := ct_T4) (As := [a1]) lk_M_lookList (Or.inl wd_448) wd_449 wd_450 rfl d_M_lookAll_157 hsh hM rfl hdd hk hcc hss kk
theorem cl_M_lookAll_160 {l : ct_Lx} {d d1 : Nat} {Post Post1 : Option Value → ct_Sg → Prop} {lv : ct_Lv} {st : List Value} {g : ct_Sg} {bc bs c1 s1 : Nat} {a1 : Value} {h : Nat} (hsh : g.2.1 h = (10 + 4, 24)) (hM : ct_Me l M_M_lookList d1 c1 s1 [.ref h, a1] g Post1) (hdd : d1 + 1 ≤ d) (hk : (st.map fun v => v.category).sum ≤ 8) (hcc : c1 ≤ bc) (hss : s1 ≤ bs) (kk : ∀ (v : Option Value) (g' : ct_Sg), Post1 v g' → ct_Wp l M_M_lookAll d Post (163, lv, v.toList ++ st, g', bc - c1, bs - s1)) : ct_Wp l M_M_lookAll d Post (160, lv, a1 :: .ref h :: st, g, bc, bs) := ct_Wp.callV (ci := 4) (N := 24) (T := ct_T4) (As := [a1]) lk_M_lookList (Or.inl wd_448) wd_449 wd_450 rfl d_M_lookAll_160 hsh hM rfl hdd hk hcc hss kk
theorem cl_M_lookAll_163 {l : ct_Lx} {d d1 : Nat} {Post Post1 : Option Value → ct_Sg → Prop} {lv : ct_Lv} {st : List Value} {g : ct_Sg} {bc bs c1 s1 : Nat} {a1 : Value} {h : Nat} (hsh : g.2.1 h = (10 + 4, 24)) (hM : ct_Me l M_M_lookList d1 c1 s1 [.ref h, a1] g Post1) (hdd : d1 + 1 ≤ d) (hk : (st.map fun v => v.category).sum ≤ 8) (hcc : c1 ≤ bc) (hss : s1 ≤ bs) (kk : ∀ (v : Option Value) (g' : ct_Sg), Post1 v g' → ct_Wp l M_M_lookAll d Post (166, lv, v.toList ++ st, g', bc - c1, bs - s1)) : ct_Wp l M_M_lookAll d Post (163, lv, a1 :: .ref h :: st, g, bc, bs) := ct_Wp.callV (ci := 4) (N := 24) (T := ct_T4) (As := [a1]) lk_M_lookList (Or.inl wd_448) wd_449 wd_450 rfl d_M_lookAll_163 hsh hM rfl hdd hk hcc hss kk
theorem cl_M_lookAll_170 {l : ct_Lx} {d d1 : Nat} {Post Post1 : Option Value → ct_Sg → Prop} {lv : ct_Lv} {st : List Value} {g : ct_Sg} {bc bs c1 s1 : Nat} {a1 a2 : Value} {h : Nat} (hsh : g.2.1 h = (10 + 4, 24)) (hM : ct_Me l M_M_manyIn d1 c1 s1 [.ref h, a1, a2] g Post1) (hdd : d1 + 1 ≤ d) (hk : (st.map fun v => v.category).sum ≤ 8) (hcc : c1 ≤ bc) (hss : s1 ≤ bs) (kk : ∀ (v : Option Value) (g' : ct_Sg), Post1 v g' → ct_Wp l M_M_lookAll d Post (173, lv, v.toList ++ st, g', bc - c1, bs - s1)) : ct_Wp l M_M_lookAll d Post (170, lv, a2 :: a1 :: .ref h :: st, g, bc, bs) := ct_Wp.callV (ci := 4) (N := 24) (T := ct_T4) (As := [a1, a2]) lk_M_manyIn (Or.inl wd_453) wd_454 wd_455 rfl d_M_lookAll_170 hsh hM rfl hdd hk hcc hss kk
theorem cl_M_lookAll_176 {l : ct_Lx} {d d1 : Nat} {Post Post1 : Option Value → ct_Sg → Prop} {lv : ct_Lv} {st : List Value} {g : ct_Sg} {bc bs c1 s1 : Nat} {a1 a2 : Value} {h : Nat} (hsh : g.2.1 h = (10 + 4, 24)) (hM : ct_Me l M_M_manyIn d1 c1 s1 [.ref h, a1, a2] g Post1) (hdd : d1 + 1 ≤ d) (hk : (st.map fun v => v.category).sum ≤ 8) (hcc : c1 ≤ bc) (hss : s1 ≤ bs) (kk : ∀ (v : Option Value) (g' : ct_Sg), Post1 v g' → ct_Wp l M_M_lookAll d Post (179, lv, v.toList ++ st, g', bc - c1, bs - s1)) : ct_Wp l M_M_lookAll d Post (176, lv, a2 :: a1 :: .ref h :: st, g, bc, bs) := ct_Wp.callV (ci := 4) (N := 24) (T := ct_T4) (As := [a1, a2]) lk_M_manyIn (Or.inl wd_453) wd_454 wd_455 rfl d_M_lookAll_176 hsh hM rfl hdd hk hcc hss kk
theorem cl_M_lookAll_201 {l : ct_Lx} {d d1 : Nat} {Post Post1 : Option Value → ct_Sg → Prop} {lv : ct_Lv} {st : List Value} {g : ct_Sg} {bc bs c1 s1 : Nat} {h : Nat} (hsh : g.2.1 h = (10 + 4, 24)) (hM : ct_Me l M_M_isGood d1 c1 s1 [.ref h] g Post1) (hdd : d1 + 1 ≤ d) (hk : (st.map fun v => v.category).sum ≤ 8) (hcc : c1 ≤ bc) (hss : s1 ≤ bs) (kk : ∀ (v : Option Value) (g' : ct_Sg), Post1 v g' → ct_Wp l M_M_lookAll d Post (204, lv, v.toList ++ st, g', bc - c1, bs - s1)) : ct_Wp l M_M_lookAll d Post (201, lv, .ref h :: st, g, bc, bs) := ct_Wp.callV (ci := 4) (N := 24) (T := ct_T4) (As := []) lk_M_isGood (Or.inl wd_373) wd_374 wd_375 rfl d_M_lookAll_201 hsh hM rfl hdd hk hcc hss kk
theorem cl_M_lookAll_230 {l : ct_Lx} {d d1 : Nat} {Post Post1 : Option Value → ct_Sg → Prop} {lv : ct_Lv} {st : List Value} {g : ct_Sg} {bc bs c1 s1 : Nat} {a1 a2 a3 : Value} {h : Nat} (hsh : g.2.1 h = (10 + 4, 24)) (hM : ct_Me l M_M_lookInstruction d1 c1 s1 [.ref h, a1, a2, a3] g Post1) (hdd : d1 + 1 ≤ d) (hk : (st.map fun v => v.category).sum ≤ 8) (hcc : c1 ≤ bc) (hss : s1 ≤ bs) (kk : ∀ (v : Option Value) (g' : ct_Sg), Post1 v g' → ct_Wp l M_M_lookAll d Post (233, lv, v.toList ++ st, g', bc - c1, bs - s1)) : ct_Wp l M_M_lookAll d Post (230, lv, a3 :: a2 :: a1 :: .ref h :: st, g, bc, bs) := ct_Wp.callV (ci := 4) (N := 24) (T := ct_T4) (As := [a1, a2, a3]) lk_M_lookInstruction (Or.inl wd_458) wd_459 wd_460 rfl d_M_lookAll_230 hsh hM rfl hdd hk hcc hss kk
theorem d_M_listAt_0 : decode prog_7_method_25_code 0 = .ok (.aload_n 0, 1) := by decide +kernel
theorem d_M_listAt_1 : decode prog_7_method_25_code 1 = .ok (.getfield 27, 3) := by decide +kernel
theorem d_M_listAt_4 : decode prog_7_method_25_code 4 = .ok (.iload_n 1, 1) := by decide +kernel
theorem d_M_listAt_5 : decode prog_7_method_25_code 5 = .ok (.iaload, 1) := by decide +kernel
theorem d_M_listAt_6 : decode prog_7_method_25_code 6 = .ok (.iconst 1, 1) := by decide +kernel
theorem d_M_listAt_7 : decode prog_7_method_25_code 7 = .ok (.iadd, 1) := by decide +kernel
theorem d_M_listAt_8 : decode prog_7_method_25_code 8 = .ok (.istore_n 3, 1) := by decide +kernel
theorem d_M_listAt_9 : decode prog_7_method_25_code 9 = .ok (.iconst 0, 1) := by decide +kernel
theorem d_M_listAt_10 : decode prog_7_method_25_code 10 = .ok (.istore 4, 2) := by decide +kernel
theorem d_M_listAt_12 : decode prog_7_method_25_code 12 = .ok (.iload 4, 2) := by decide +kernel
theorem d_M_listAt_14 : decode prog_7_method_25_code 14 = .ok (.iload_n 2, 1) := by decide +kernel
theorem d_M_listAt_15 : decode prog_7_method_25_code 15 = .ok (.if_icmp .ge 15, 3) := by decide +kernel
theorem d_M_listAt_18 : decode prog_7_method_25_code 18 = .ok (.aload_n 0, 1) := by decide +kernel
theorem d_M_listAt_19 : decode prog_7_method_25_code 19 = .ok (.iload_n 3, 1) := by decide +kernel
theorem d_M_listAt_20 : decode prog_7_method_25_code 20 = .ok (.invokevirtual 146, 3) := by decide +kernel
theorem d_M_listAt_23 : decode prog_7_method_25_code 23 = .ok (.istore_n 3, 1) := by decide +kernel
theorem d_M_listAt_24 : decode prog_7_method_25_code 24 = .ok (.iinc 4 1, 3) := by decide +kernel
theorem d_M_listAt_27 : decode prog_7_method_25_code 27 = .ok (.goto (-15), 3) := by decide +kernel
theorem d_M_listAt_30 : decode prog_7_method_25_code 30 = .ok (.iload_n 3, 1) := by decide +kernel
theorem d_M_listAt_31 : decode prog_7_method_25_code 31 = .ok (.ireturn, 1) := by decide +kernel
abbrev T_M_listAt : List (Nat × ct_PT) := [(0, o_aload 0 1), (1, o_getR 4 24 18), (4, o_iload 1 1), (5, o_iald), (6, o_push (.int 1) 1), (7, o_ii fun x y => x + y), (8, o_istore 3 1), (9, o_push (.int 0) 1), (10, o_istore 4 2), (12, o_iload 4 2), (14, o_iload 2 1), (15, o_ic (fun x y => y ≤ x) (fun x y => ¬ y ≤ x) 30), (18, o_aload 0 1), (19, o_iload 3 1), (23, o_istore 3 1), (24, o_iinc 4 1), (27, o_goto 12), (30, o_iload 3 1)]
set_option maxRecDepth 100000 in
theorem A_M_listAt (l : ct_Lx) : ct_al l M_M_listAt (T_M_listAt) := by
  refine ct_al.cons (so_aload_n d_M_listAt_0 rfl) ?_
  refine ct_al.cons (so_getR (Cn := "CodeTablesModel") (T := ct_T4) kc_4 (by decide) rfl rfl wd_344 d_M_listAt_1) ?_
  refine ct_al.cons (so_iload_n d_M_listAt_4 rfl) ?_
  refine ct_al.cons (so_iald d_M_listAt_5) ?_
  refine ct_al.cons (so_iconst d_M_listAt_6 (by decide)) ?_
  refine ct_al.cons (so_iadd d_M_listAt_7) ?_
  refine ct_al.cons (so_istore_n d_M_listAt_8 rfl (by decide)) ?_
  refine ct_al.cons (so_iconst d_M_listAt_9 (by decide)) ?_
  refine ct_al.cons (so_istore d_M_listAt_10 (by decide)) ?_
  refine ct_al.cons (so_iload d_M_listAt_12) ?_
  refine ct_al.cons (so_iload_n d_M_listAt_14 rfl) ?_
  refine ct_al.cons (so_ic_ge d_M_listAt_15 (by decide)) ?_
  refine ct_al.cons (so_aload_n d_M_listAt_18 rfl) ?_
  refine ct_al.cons (so_iload_n d_M_listAt_19 rfl) ?_
  refine ct_al.cons (so_istore_n d_M_listAt_23 rfl (by decide)) ?_
  refine ct_al.cons (so_iinc d_M_listAt_24 (by decide) (by decide)) ?_
  refine ct_al.cons (so_goto d_M_listAt_27 (by decide)) ?_
  refine ct_al.cons (so_iload_n d_M_listAt_30 rfl) ?_
  exact ct_al.nil
theorem e_M_listAt_0 : ct_tab (T_M_listAt) 0 = some (o_aload 0 1) := rfl
theorem e_M_listAt_1 : ct_tab (T_M_listAt) 1 = some (o_getR 4 24 18) := rfl
theorem e_M_listAt_4 : ct_tab (T_M_listAt) 4 = some (o_iload 1 1) := rfl
theorem e_M_listAt_5 : ct_tab (T_M_listAt) 5 = some (o_iald) := rfl
theorem e_M_listAt_6 : ct_tab (T_M_listAt) 6 = some (o_push (.int 1) 1) := rfl
theorem e_M_listAt_7 : ct_tab (T_M_listAt) 7 = some (o_ii fun x y => x + y) := rfl
theorem e_M_listAt_8 : ct_tab (T_M_listAt) 8 = some (o_istore 3 1) := rfl
theorem e_M_listAt_9 : ct_tab (T_M_listAt) 9 = some (o_push (.int 0) 1) := rfl
theorem e_M_listAt_10 : ct_tab (T_M_listAt) 10 = some (o_istore 4 2) := rfl
theorem e_M_listAt_12 : ct_tab (T_M_listAt) 12 = some (o_iload 4 2) := rfl
theorem e_M_listAt_14 : ct_tab (T_M_listAt) 14 = some (o_iload 2 1) := rfl
theorem e_M_listAt_15 : ct_tab (T_M_listAt) 15 = some (o_ic (fun x y => y ≤ x) (fun x y => ¬ y ≤ x) 30) := rfl
theorem e_M_listAt_18 : ct_tab (T_M_listAt) 18 = some (o_aload 0 1) := rfl
theorem e_M_listAt_19 : ct_tab (T_M_listAt) 19 = some (o_iload 3 1) := rfl
theorem e_M_listAt_23 : ct_tab (T_M_listAt) 23 = some (o_istore 3 1) := rfl
theorem e_M_listAt_24 : ct_tab (T_M_listAt) 24 = some (o_iinc 4 1) := rfl
theorem e_M_listAt_27 : ct_tab (T_M_listAt) 27 = some (o_goto 12) := rfl
theorem e_M_listAt_30 : ct_tab (T_M_listAt) 30 = some (o_iload 3 1) := rfl
theorem cl_M_listAt_20 {l : ct_Lx} {d d1 : Nat} {Post Post1 : Option Value → ct_Sg → Prop} {lv : ct_Lv} {st : List Value} {g : ct_Sg} {bc bs c1 s1 : Nat} {a1 : Value} {h : Nat} (hsh : g.2.1 h = (10 + 4, 24)) (hM : ct_Me l M_M_listEnd d1 c1 s1 [.ref h, a1] g Post1) (hdd : d1 + 1 ≤ d) (hk : (st.map fun v => v.category).sum ≤ 8) (hcc : c1 ≤ bc) (hss : s1 ≤ bs) (kk : ∀ (v : Option Value) (g' : ct_Sg), Post1 v g' → ct_Wp l M_M_listAt d Post (23, lv, v.toList ++ st, g', bc - c1, bs - s1)) : ct_Wp l M_M_listAt d Post (20, lv, a1 :: .ref h :: st, g, bc, bs) := ct_Wp.callV (ci := 4) (N := 24) (T := ct_T4) (As := [a1]) lk_M_listEnd (Or.inl wd_463) wd_464 wd_465 rfl d_M_listAt_20 hsh hM rfl hdd hk hcc hss kk
theorem d_M_manyIn_0 : decode prog_7_method_26_code 0 = .ok (.aload_n 0, 1) := by decide +kernel
theorem d_M_manyIn_1 : decode prog_7_method_26_code 1 = .ok (.aload_n 0, 1) := by decide +kernel
theorem d_M_manyIn_2 : decode prog_7_method_26_code 2 = .ok (.iload_n 1, 1) := by decide +kernel
theorem d_M_manyIn_3 : decode prog_7_method_26_code 3 = .ok (.iload_n 2, 1) := by decide +kernel
theorem d_M_manyIn_4 : decode prog_7_method_26_code 4 = .ok (.invokevirtual 149, 3) := by decide +kernel
theorem d_M_manyIn_7 : decode prog_7_method_26_code 7 = .ok (.invokevirtual 56, 3) := by decide +kernel
theorem d_M_manyIn_10 : decode prog_7_method_26_code 10 = .ok (.ireturn, 1) := by decide +kernel
abbrev T_M_manyIn : List (Nat × ct_PT) := [(0, o_aload 0 1), (1, o_aload 0 1), (2, o_iload 1 1), (3, o_iload 2 1)]
set_option maxRecDepth 100000 in
theorem A_M_manyIn (l : ct_Lx) : ct_al l M_M_manyIn (T_M_manyIn) := by
  refine ct_al.cons (so_aload_n d_M_manyIn_0 rfl) ?_
  refine ct_al.cons (so_aload_n d_M_manyIn_1 rfl) ?_
  refine ct_al.cons (so_iload_n d_M_manyIn_2 rfl) ?_
  refine ct_al.cons (so_iload_n d_M_manyIn_3 rfl) ?_
  exact ct_al.nil
theorem e_M_manyIn_0 : ct_tab (T_M_manyIn) 0 = some (o_aload 0 1) := rfl
theorem e_M_manyIn_1 : ct_tab (T_M_manyIn) 1 = some (o_aload 0 1) := rfl
theorem e_M_manyIn_2 : ct_tab (T_M_manyIn) 2 = some (o_iload 1 1) := rfl
theorem e_M_manyIn_3 : ct_tab (T_M_manyIn) 3 = some (o_iload 2 1) := rfl
theorem cl_M_manyIn_4 {l : ct_Lx} {d d1 : Nat} {Post Post1 : Option Value → ct_Sg → Prop} {lv : ct_Lv} {st : List Value} {g : ct_Sg} {bc bs c1 s1 : Nat} {a1 a2 : Value} {h : Nat} (hsh : g.2.1 h = (10 + 4, 24)) (hM : ct_Me l M_M_listAt d1 c1 s1 [.ref h, a1, a2] g Post1) (hdd : d1 + 1 ≤ d) (hk : (st.map fun v => v.category).sum ≤ 8) (hcc : c1 ≤ bc) (hss : s1 ≤ bs) (kk : ∀ (v : Option Value) (g' : ct_Sg), Post1 v g' → ct_Wp l M_M_manyIn d Post (7, lv, v.toList ++ st, g', bc - c1, bs - s1)) : ct_Wp l M_M_manyIn d Post (4, lv, a2 :: a1 :: .ref h :: st, g, bc, bs) := ct_Wp.callV (ci := 4) (N := 24) (T := ct_T4) (As := [a1, a2]) lk_M_listAt (Or.inl wd_468) wd_469 wd_470 rfl d_M_manyIn_4 hsh hM rfl hdd hk hcc hss kk
theorem cl_M_manyIn_7 {l : ct_Lx} {d d1 : Nat} {Post Post1 : Option Value → ct_Sg → Prop} {lv : ct_Lv} {st : List Value} {g : ct_Sg} {bc bs c1 s1 : Nat} {a1 : Value} {h : Nat} (hsh : g.2.1 h = (10 + 4, 24)) (hM : ct_Me l M_M_byteAt d1 c1 s1 [.ref h, a1] g Post1) (hdd : d1 + 1 ≤ d) (hk : (st.map fun v => v.category).sum ≤ 8) (hcc : c1 ≤ bc) (hss : s1 ≤ bs) (kk : ∀ (v : Option Value) (g' : ct_Sg), Post1 v g' → ct_Wp l M_M_manyIn d Post (10, lv, v.toList ++ st, g', bc - c1, bs - s1)) : ct_Wp l M_M_manyIn d Post (7, lv, a1 :: .ref h :: st, g, bc, bs) := ct_Wp.callV (ci := 4) (N := 24) (T := ct_T4) (As := [a1]) lk_M_byteAt (Or.inl wd_357) wd_358 wd_359 rfl d_M_manyIn_7 hsh hM rfl hdd hk hcc hss kk
theorem d_M_ownIn_0 : decode prog_7_method_27_code 0 = .ok (.aload_n 0, 1) := by decide +kernel
theorem d_M_ownIn_1 : decode prog_7_method_27_code 1 = .ok (.aload_n 0, 1) := by decide +kernel
theorem d_M_ownIn_2 : decode prog_7_method_27_code 2 = .ok (.iload_n 1, 1) := by decide +kernel
theorem d_M_ownIn_3 : decode prog_7_method_27_code 3 = .ok (.invokevirtual 120, 3) := by decide +kernel
theorem d_M_ownIn_6 : decode prog_7_method_27_code 6 = .ok (.iconst 1, 1) := by decide +kernel
theorem d_M_ownIn_7 : decode prog_7_method_27_code 7 = .ok (.isub, 1) := by decide +kernel
theorem d_M_ownIn_8 : decode prog_7_method_27_code 8 = .ok (.invokevirtual 56, 3) := by decide +kernel
theorem d_M_ownIn_11 : decode prog_7_method_27_code 11 = .ok (.istore_n 2, 1) := by decide +kernel
theorem d_M_ownIn_12 : decode prog_7_method_27_code 12 = .ok (.aload_n 0, 1) := by decide +kernel
theorem d_M_ownIn_13 : decode prog_7_method_27_code 13 = .ok (.iload_n 1, 1) := by decide +kernel
theorem d_M_ownIn_14 : decode prog_7_method_27_code 14 = .ok (.invokevirtual 123, 3) := by decide +kernel
theorem d_M_ownIn_17 : decode prog_7_method_27_code 17 = .ok (.ifCond .eq 15, 3) := by decide +kernel
theorem d_M_ownIn_20 : decode prog_7_method_27_code 20 = .ok (.iload_n 2, 1) := by decide +kernel
theorem d_M_ownIn_21 : decode prog_7_method_27_code 21 = .ok (.aload_n 0, 1) := by decide +kernel
theorem d_M_ownIn_22 : decode prog_7_method_27_code 22 = .ok (.getfield 102, 3) := by decide +kernel
theorem d_M_ownIn_25 : decode prog_7_method_27_code 25 = .ok (.if_icmp .ge 7, 3) := by decide +kernel
theorem d_M_ownIn_28 : decode prog_7_method_27_code 28 = .ok (.iload_n 2, 1) := by decide +kernel
theorem d_M_ownIn_29 : decode prog_7_method_27_code 29 = .ok (.goto 4, 3) := by decide +kernel
theorem d_M_ownIn_32 : decode prog_7_method_27_code 32 = .ok (.iconst (-1), 1) := by decide +kernel
theorem d_M_ownIn_33 : decode prog_7_method_27_code 33 = .ok (.ireturn, 1) := by decide +kernel
abbrev T_M_ownIn : List (Nat × ct_PT) := [(0, o_aload 0 1), (1, o_aload 0 1), (2, o_iload 1 1), (6, o_push (.int 1) 1), (7, o_ii fun x y => x - y), (11, o_istore 2 1), (12, o_aload 0 1), (13, o_iload 1 1), (17, o_if (fun x => x = 0) (fun x => ¬ x = 0) 32), (20, o_iload 2 1), (21, o_aload 0 1), (22, o_getI 4 24 9), (25, o_ic (fun x y => y ≤ x) (fun x y => ¬ y ≤ x) 32), (28, o_iload 2 1), (29, o_goto 33), (32, o_push (.int (-1)) 1)]
set_option maxRecDepth 100000 in
theorem A_M_ownIn (l : ct_Lx) : ct_al l M_M_ownIn (T_M_ownIn) := by
  refine ct_al.cons (so_aload_n d_M_ownIn_0 rfl) ?_
  refine ct_al.cons (so_aload_n d_M_ownIn_1 rfl) ?_
  refine ct_al.cons (so_iload_n d_M_ownIn_2 rfl) ?_
  refine ct_al.cons (so_iconst d_M_ownIn_6 (by decide)) ?_
  refine ct_al.cons (so_isub d_M_ownIn_7) ?_
  refine ct_al.cons (so_istore_n d_M_ownIn_11 rfl (by decide)) ?_
  refine ct_al.cons (so_aload_n d_M_ownIn_12 rfl) ?_
  refine ct_al.cons (so_iload_n d_M_ownIn_13 rfl) ?_
  refine ct_al.cons (so_if_eq d_M_ownIn_17 (by decide)) ?_
  refine ct_al.cons (so_iload_n d_M_ownIn_20 rfl) ?_
  refine ct_al.cons (so_aload_n d_M_ownIn_21 rfl) ?_
  refine ct_al.cons (so_getI (Cn := "CodeTablesModel") (T := ct_T4) kc_4 (by decide) rfl rfl wd_411 d_M_ownIn_22) ?_
  refine ct_al.cons (so_ic_ge d_M_ownIn_25 (by decide)) ?_
  refine ct_al.cons (so_iload_n d_M_ownIn_28 rfl) ?_
  refine ct_al.cons (so_goto d_M_ownIn_29 (by decide)) ?_
  refine ct_al.cons (so_iconst d_M_ownIn_32 (by decide)) ?_
  exact ct_al.nil
theorem e_M_ownIn_0 : ct_tab (T_M_ownIn) 0 = some (o_aload 0 1) := rfl
theorem e_M_ownIn_1 : ct_tab (T_M_ownIn) 1 = some (o_aload 0 1) := rfl
theorem e_M_ownIn_2 : ct_tab (T_M_ownIn) 2 = some (o_iload 1 1) := rfl
theorem e_M_ownIn_6 : ct_tab (T_M_ownIn) 6 = some (o_push (.int 1) 1) := rfl
theorem e_M_ownIn_7 : ct_tab (T_M_ownIn) 7 = some (o_ii fun x y => x - y) := rfl
theorem e_M_ownIn_11 : ct_tab (T_M_ownIn) 11 = some (o_istore 2 1) := rfl
theorem e_M_ownIn_12 : ct_tab (T_M_ownIn) 12 = some (o_aload 0 1) := rfl
theorem e_M_ownIn_13 : ct_tab (T_M_ownIn) 13 = some (o_iload 1 1) := rfl
theorem e_M_ownIn_17 : ct_tab (T_M_ownIn) 17 = some (o_if (fun x => x = 0) (fun x => ¬ x = 0) 32) := rfl
theorem e_M_ownIn_20 : ct_tab (T_M_ownIn) 20 = some (o_iload 2 1) := rfl
theorem e_M_ownIn_21 : ct_tab (T_M_ownIn) 21 = some (o_aload 0 1) := rfl
theorem e_M_ownIn_22 : ct_tab (T_M_ownIn) 22 = some (o_getI 4 24 9) := rfl
theorem e_M_ownIn_25 : ct_tab (T_M_ownIn) 25 = some (o_ic (fun x y => y ≤ x) (fun x y => ¬ y ≤ x) 32) := rfl
theorem e_M_ownIn_28 : ct_tab (T_M_ownIn) 28 = some (o_iload 2 1) := rfl
theorem e_M_ownIn_29 : ct_tab (T_M_ownIn) 29 = some (o_goto 33) := rfl
theorem e_M_ownIn_32 : ct_tab (T_M_ownIn) 32 = some (o_push (.int (-1)) 1) := rfl
theorem cl_M_ownIn_3 {l : ct_Lx} {d d1 : Nat} {Post Post1 : Option Value → ct_Sg → Prop} {lv : ct_Lv} {st : List Value} {g : ct_Sg} {bc bs c1 s1 : Nat} {a1 : Value} {h : Nat} (hsh : g.2.1 h = (10 + 4, 24)) (hM : ct_Me l M_M_typeEnd d1 c1 s1 [.ref h, a1] g Post1) (hdd : d1 + 1 ≤ d) (hk : (st.map fun v => v.category).sum ≤ 8) (hcc : c1 ≤ bc) (hss : s1 ≤ bs) (kk : ∀ (v : Option Value) (g' : ct_Sg), Post1 v g' → ct_Wp l M_M_ownIn d Post (6, lv, v.toList ++ st, g', bc - c1, bs - s1)) : ct_Wp l M_M_ownIn d Post (3, lv, a1 :: .ref h :: st, g, bc, bs) := ct_Wp.callV (ci := 4) (N := 24) (T := ct_T4) (As := [a1]) lk_M_typeEnd (Or.inl wd_423) wd_424 wd_425 rfl d_M_ownIn_3 hsh hM rfl hdd hk hcc hss kk
theorem cl_M_ownIn_8 {l : ct_Lx} {d d1 : Nat} {Post Post1 : Option Value → ct_Sg → Prop} {lv : ct_Lv} {st : List Value} {g : ct_Sg} {bc bs c1 s1 : Nat} {a1 : Value} {h : Nat} (hsh : g.2.1 h = (10 + 4, 24)) (hM : ct_Me l M_M_byteAt d1 c1 s1 [.ref h, a1] g Post1) (hdd : d1 + 1 ≤ d) (hk : (st.map fun v => v.category).sum ≤ 8) (hcc : c1 ≤ bc) (hss : s1 ≤ bs) (kk : ∀ (v : Option Value) (g' : ct_Sg), Post1 v g' → ct_Wp l M_M_ownIn d Post (11, lv, v.toList ++ st, g', bc - c1, bs - s1)) : ct_Wp l M_M_ownIn d Post (8, lv, a1 :: .ref h :: st, g, bc, bs) := ct_Wp.callV (ci := 4) (N := 24) (T := ct_T4) (As := [a1]) lk_M_byteAt (Or.inl wd_357) wd_358 wd_359 rfl d_M_ownIn_8 hsh hM rfl hdd hk hcc hss kk
theorem cl_M_ownIn_14 {l : ct_Lx} {d d1 : Nat} {Post Post1 : Option Value → ct_Sg → Prop} {lv : ct_Lv} {st : List Value} {g : ct_Sg} {bc bs c1 s1 : Nat} {a1 : Value} {h : Nat} (hsh : g.2.1 h = (10 + 4, 24)) (hM : ct_Me l M_M_isStructureType d1 c1 s1 [.ref h, a1] g Post1) (hdd : d1 + 1 ≤ d) (hk : (st.map fun v => v.category).sum ≤ 8) (hcc : c1 ≤ bc) (hss : s1 ≤ bs) (kk : ∀ (v : Option Value) (g' : ct_Sg), Post1 v g' → ct_Wp l M_M_ownIn d Post (17, lv, v.toList ++ st, g', bc - c1, bs - s1)) : ct_Wp l M_M_ownIn d Post (14, lv, a1 :: .ref h :: st, g, bc, bs) := ct_Wp.callV (ci := 4) (N := 24) (T := ct_T4) (As := [a1]) lk_M_isStructureType (Or.inl wd_428) wd_429 wd_430 rfl d_M_ownIn_14 hsh hM rfl hdd hk hcc hss kk
theorem d_M_isRound_0 : decode prog_7_method_28_code 0 = .ok (.iconst 0, 1) := by decide +kernel
theorem d_M_isRound_1 : decode prog_7_method_28_code 1 = .ok (.istore_n 2, 1) := by decide +kernel
theorem d_M_isRound_2 : decode prog_7_method_28_code 2 = .ok (.iload_n 2, 1) := by decide +kernel
theorem d_M_isRound_3 : decode prog_7_method_28_code 3 = .ok (.aload_n 0, 1) := by decide +kernel
theorem d_M_isRound_4 : decode prog_7_method_28_code 4 = .ok (.getfield 102, 3) := by decide +kernel
theorem d_M_isRound_7 : decode prog_7_method_28_code 7 = .ok (.if_icmp .ge 16, 3) := by decide +kernel
theorem d_M_isRound_10 : decode prog_7_method_28_code 10 = .ok (.aload_n 0, 1) := by decide +kernel
theorem d_M_isRound_11 : decode prog_7_method_28_code 11 = .ok (.getfield 39, 3) := by decide +kernel
theorem d_M_isRound_14 : decode prog_7_method_28_code 14 = .ok (.iload_n 2, 1) := by decide +kernel
theorem d_M_isRound_15 : decode prog_7_method_28_code 15 = .ok (.iconst 0, 1) := by decide +kernel
theorem d_M_isRound_16 : decode prog_7_method_28_code 16 = .ok (.bastore, 1) := by decide +kernel
theorem d_M_isRound_17 : decode prog_7_method_28_code 17 = .ok (.iinc 2 1, 3) := by decide +kernel
theorem d_M_isRound_20 : decode prog_7_method_28_code 20 = .ok (.goto (-18), 3) := by decide +kernel
theorem d_M_isRound_23 : decode prog_7_method_28_code 23 = .ok (.aload_n 0, 1) := by decide +kernel
theorem d_M_isRound_24 : decode prog_7_method_28_code 24 = .ok (.iload_n 1, 1) := by decide +kernel
theorem d_M_isRound_25 : decode prog_7_method_28_code 25 = .ok (.invokevirtual 152, 3) := by decide +kernel
theorem d_M_isRound_28 : decode prog_7_method_28_code 28 = .ok (.iconst 0, 1) := by decide +kernel
theorem d_M_isRound_29 : decode prog_7_method_28_code 29 = .ok (.istore_n 2, 1) := by decide +kernel
theorem d_M_isRound_30 : decode prog_7_method_28_code 30 = .ok (.iload_n 2, 1) := by decide +kernel
theorem d_M_isRound_31 : decode prog_7_method_28_code 31 = .ok (.aload_n 0, 1) := by decide +kernel
theorem d_M_isRound_32 : decode prog_7_method_28_code 32 = .ok (.getfield 102, 3) := by decide +kernel
theorem d_M_isRound_35 : decode prog_7_method_28_code 35 = .ok (.if_icmp .ge 39, 3) := by decide +kernel
theorem d_M_isRound_38 : decode prog_7_method_28_code 38 = .ok (.iconst 0, 1) := by decide +kernel
theorem d_M_isRound_39 : decode prog_7_method_28_code 39 = .ok (.istore_n 3, 1) := by decide +kernel
theorem d_M_isRound_40 : decode prog_7_method_28_code 40 = .ok (.iload_n 3, 1) := by decide +kernel
theorem d_M_isRound_41 : decode prog_7_method_28_code 41 = .ok (.aload_n 0, 1) := by decide +kernel
theorem d_M_isRound_42 : decode prog_7_method_28_code 42 = .ok (.getfield 102, 3) := by decide +kernel
theorem d_M_isRound_45 : decode prog_7_method_28_code 45 = .ok (.if_icmp .ge 23, 3) := by decide +kernel
theorem d_M_isRound_48 : decode prog_7_method_28_code 48 = .ok (.aload_n 0, 1) := by decide +kernel
theorem d_M_isRound_49 : decode prog_7_method_28_code 49 = .ok (.getfield 39, 3) := by decide +kernel
theorem d_M_isRound_52 : decode prog_7_method_28_code 52 = .ok (.iload_n 3, 1) := by decide +kernel
theorem d_M_isRound_53 : decode prog_7_method_28_code 53 = .ok (.baload, 1) := by decide +kernel
theorem d_M_isRound_54 : decode prog_7_method_28_code 54 = .ok (.ifCond .eq 8, 3) := by decide +kernel
theorem d_M_isRound_57 : decode prog_7_method_28_code 57 = .ok (.aload_n 0, 1) := by decide +kernel
theorem d_M_isRound_58 : decode prog_7_method_28_code 58 = .ok (.iload_n 3, 1) := by decide +kernel
theorem d_M_isRound_59 : decode prog_7_method_28_code 59 = .ok (.invokevirtual 152, 3) := by decide +kernel
theorem d_M_isRound_62 : decode prog_7_method_28_code 62 = .ok (.iinc 3 1, 3) := by decide +kernel
theorem d_M_isRound_65 : decode prog_7_method_28_code 65 = .ok (.goto (-25), 3) := by decide +kernel
theorem d_M_isRound_68 : decode prog_7_method_28_code 68 = .ok (.iinc 2 1, 3) := by decide +kernel
theorem d_M_isRound_71 : decode prog_7_method_28_code 71 = .ok (.goto (-41), 3) := by decide +kernel
theorem d_M_isRound_74 : decode prog_7_method_28_code 74 = .ok (.aload_n 0, 1) := by decide +kernel
theorem d_M_isRound_75 : decode prog_7_method_28_code 75 = .ok (.getfield 39, 3) := by decide +kernel
theorem d_M_isRound_78 : decode prog_7_method_28_code 78 = .ok (.iload_n 1, 1) := by decide +kernel
theorem d_M_isRound_79 : decode prog_7_method_28_code 79 = .ok (.baload, 1) := by decide +kernel
theorem d_M_isRound_80 : decode prog_7_method_28_code 80 = .ok (.ireturn, 1) := by decide +kernel
abbrev T_M_isRound : List (Nat × ct_PT) := [(0, o_push (.int 0) 1), (1, o_istore 2 1), (2, o_iload 2 1), (3, o_aload 0 1), (4, o_getI 4 24 9), (7, o_ic (fun x y => y ≤ x) (fun x y => ¬ y ≤ x) 23), (10, o_aload 0 1), (11, o_getR 4 24 23), (14, o_iload 2 1), (15, o_push (.int 0) 1), (16, o_zast), (17, o_iinc 2 1), (20, o_goto 2), (23, o_aload 0 1), (24, o_iload 1 1), (28, o_push (.int 0) 1), (29, o_istore 2 1), (30, o_iload 2 1), (31, o_aload 0 1), (32, o_getI 4 24 9), (35, o_ic (fun x y => y ≤ x) (fun x y => ¬ y ≤ x) 74), (38, o_push (.int 0) 1), (39, o_istore 3 1), (40, o_iload 3 1), (41, o_aload 0 1), (42, o_getI 4 24 9), (45, o_ic (fun x y => y ≤ x) (fun x y => ¬ y ≤ x) 68), (48, o_aload 0 1), (49, o_getR 4 24 23), (52, o_iload 3 1), (53, o_zald), (54, o_if (fun x => x = 0) (fun x => ¬ x = 0) 62), (57, o_aload 0 1), (58, o_iload 3 1), (62, o_iinc 3 1), (65, o_goto 40), (68, o_iinc 2 1), (71, o_goto 30), (74, o_aload 0 1), (75, o_getR 4 24 23), (78, o_iload 1 1), (79, o_zald)]
set_option maxRecDepth 100000 in
theorem A_M_isRound (l : ct_Lx) : ct_al l M_M_isRound (T_M_isRound) := by
  refine ct_al.cons (so_iconst d_M_isRound_0 (by decide)) ?_
  refine ct_al.cons (so_istore_n d_M_isRound_1 rfl (by decide)) ?_
  refine ct_al.cons (so_iload_n d_M_isRound_2 rfl) ?_
  refine ct_al.cons (so_aload_n d_M_isRound_3 rfl) ?_
  refine ct_al.cons (so_getI (Cn := "CodeTablesModel") (T := ct_T4) kc_4 (by decide) rfl rfl wd_411 d_M_isRound_4) ?_
  refine ct_al.cons (so_ic_ge d_M_isRound_7 (by decide)) ?_
  refine ct_al.cons (so_aload_n d_M_isRound_10 rfl) ?_
  refine ct_al.cons (so_getR (Cn := "CodeTablesModel") (T := ct_T4) kc_4 (by decide) rfl rfl wd_349 d_M_isRound_11) ?_
  refine ct_al.cons (so_iload_n d_M_isRound_14 rfl) ?_
  refine ct_al.cons (so_iconst d_M_isRound_15 (by decide)) ?_
  refine ct_al.cons (so_zast d_M_isRound_16) ?_
  refine ct_al.cons (so_iinc d_M_isRound_17 (by decide) (by decide)) ?_
  refine ct_al.cons (so_goto d_M_isRound_20 (by decide)) ?_
  refine ct_al.cons (so_aload_n d_M_isRound_23 rfl) ?_
  refine ct_al.cons (so_iload_n d_M_isRound_24 rfl) ?_
  refine ct_al.cons (so_iconst d_M_isRound_28 (by decide)) ?_
  refine ct_al.cons (so_istore_n d_M_isRound_29 rfl (by decide)) ?_
  refine ct_al.cons (so_iload_n d_M_isRound_30 rfl) ?_
  refine ct_al.cons (so_aload_n d_M_isRound_31 rfl) ?_
  refine ct_al.cons (so_getI (Cn := "CodeTablesModel") (T := ct_T4) kc_4 (by decide) rfl rfl wd_411 d_M_isRound_32) ?_
  refine ct_al.cons (so_ic_ge d_M_isRound_35 (by decide)) ?_
  refine ct_al.cons (so_iconst d_M_isRound_38 (by decide)) ?_
  refine ct_al.cons (so_istore_n d_M_isRound_39 rfl (by decide)) ?_
  refine ct_al.cons (so_iload_n d_M_isRound_40 rfl) ?_
  refine ct_al.cons (so_aload_n d_M_isRound_41 rfl) ?_
  refine ct_al.cons (so_getI (Cn := "CodeTablesModel") (T := ct_T4) kc_4 (by decide) rfl rfl wd_411 d_M_isRound_42) ?_
  refine ct_al.cons (so_ic_ge d_M_isRound_45 (by decide)) ?_
  refine ct_al.cons (so_aload_n d_M_isRound_48 rfl) ?_
  refine ct_al.cons (so_getR (Cn := "CodeTablesModel") (T := ct_T4) kc_4 (by decide) rfl rfl wd_349 d_M_isRound_49) ?_
  refine ct_al.cons (so_iload_n d_M_isRound_52 rfl) ?_
  refine ct_al.cons (so_zald d_M_isRound_53) ?_
  refine ct_al.cons (so_if_eq d_M_isRound_54 (by decide)) ?_
  refine ct_al.cons (so_aload_n d_M_isRound_57 rfl) ?_
  refine ct_al.cons (so_iload_n d_M_isRound_58 rfl) ?_
  refine ct_al.cons (so_iinc d_M_isRound_62 (by decide) (by decide)) ?_
  refine ct_al.cons (so_goto d_M_isRound_65 (by decide)) ?_
  refine ct_al.cons (so_iinc d_M_isRound_68 (by decide) (by decide)) ?_
  refine ct_al.cons (so_goto d_M_isRound_71 (by decide)) ?_
  refine ct_al.cons (so_aload_n d_M_isRound_74 rfl) ?_
  refine ct_al.cons (so_getR (Cn := "CodeTablesModel") (T := ct_T4) kc_4 (by decide) rfl rfl wd_349 d_M_isRound_75) ?_
  refine ct_al.cons (so_iload_n d_M_isRound_78 rfl) ?_
  refine ct_al.cons (so_zald d_M_isRound_79) ?_
  exact ct_al.nil
theorem e_M_isRound_0 : ct_tab (T_M_isRound) 0 = some (o_push (.int 0) 1) := rfl
theorem e_M_isRound_1 : ct_tab (T_M_isRound) 1 = some (o_istore 2 1) := rfl
theorem e_M_isRound_2 : ct_tab (T_M_isRound) 2 = some (o_iload 2 1) := rfl
theorem e_M_isRound_3 : ct_tab (T_M_isRound) 3 = some (o_aload 0 1) := rfl
theorem e_M_isRound_4 : ct_tab (T_M_isRound) 4 = some (o_getI 4 24 9) := rfl
theorem e_M_isRound_7 : ct_tab (T_M_isRound) 7 = some (o_ic (fun x y => y ≤ x) (fun x y => ¬ y ≤ x) 23) := rfl
theorem e_M_isRound_10 : ct_tab (T_M_isRound) 10 = some (o_aload 0 1) := rfl
theorem e_M_isRound_11 : ct_tab (T_M_isRound) 11 = some (o_getR 4 24 23) := rfl
theorem e_M_isRound_14 : ct_tab (T_M_isRound) 14 = some (o_iload 2 1) := rfl
theorem e_M_isRound_15 : ct_tab (T_M_isRound) 15 = some (o_push (.int 0) 1) := rfl
theorem e_M_isRound_16 : ct_tab (T_M_isRound) 16 = some (o_zast) := rfl
theorem e_M_isRound_17 : ct_tab (T_M_isRound) 17 = some (o_iinc 2 1) := rfl
theorem e_M_isRound_20 : ct_tab (T_M_isRound) 20 = some (o_goto 2) := rfl
theorem e_M_isRound_23 : ct_tab (T_M_isRound) 23 = some (o_aload 0 1) := rfl
theorem e_M_isRound_24 : ct_tab (T_M_isRound) 24 = some (o_iload 1 1) := rfl
theorem e_M_isRound_28 : ct_tab (T_M_isRound) 28 = some (o_push (.int 0) 1) := rfl
theorem e_M_isRound_29 : ct_tab (T_M_isRound) 29 = some (o_istore 2 1) := rfl
theorem e_M_isRound_30 : ct_tab (T_M_isRound) 30 = some (o_iload 2 1) := rfl
theorem e_M_isRound_31 : ct_tab (T_M_isRound) 31 = some (o_aload 0 1) := rfl
theorem e_M_isRound_32 : ct_tab (T_M_isRound) 32 = some (o_getI 4 24 9) := rfl
theorem e_M_isRound_35 : ct_tab (T_M_isRound) 35 = some (o_ic (fun x y => y ≤ x) (fun x y => ¬ y ≤ x) 74) := rfl
theorem e_M_isRound_38 : ct_tab (T_M_isRound) 38 = some (o_push (.int 0) 1) := rfl
theorem e_M_isRound_39 : ct_tab (T_M_isRound) 39 = some (o_istore 3 1) := rfl
theorem e_M_isRound_40 : ct_tab (T_M_isRound) 40 = some (o_iload 3 1) := rfl
theorem e_M_isRound_41 : ct_tab (T_M_isRound) 41 = some (o_aload 0 1) := rfl
theorem e_M_isRound_42 : ct_tab (T_M_isRound) 42 = some (o_getI 4 24 9) := rfl
theorem e_M_isRound_45 : ct_tab (T_M_isRound) 45 = some (o_ic (fun x y => y ≤ x) (fun x y => ¬ y ≤ x) 68) := rfl
theorem e_M_isRound_48 : ct_tab (T_M_isRound) 48 = some (o_aload 0 1) := rfl
theorem e_M_isRound_49 : ct_tab (T_M_isRound) 49 = some (o_getR 4 24 23) := rfl
theorem e_M_isRound_52 : ct_tab (T_M_isRound) 52 = some (o_iload 3 1) := rfl
theorem e_M_isRound_53 : ct_tab (T_M_isRound) 53 = some (o_zald) := rfl
theorem e_M_isRound_54 : ct_tab (T_M_isRound) 54 = some (o_if (fun x => x = 0) (fun x => ¬ x = 0) 62) := rfl
theorem e_M_isRound_57 : ct_tab (T_M_isRound) 57 = some (o_aload 0 1) := rfl
theorem e_M_isRound_58 : ct_tab (T_M_isRound) 58 = some (o_iload 3 1) := rfl
theorem e_M_isRound_62 : ct_tab (T_M_isRound) 62 = some (o_iinc 3 1) := rfl
theorem e_M_isRound_65 : ct_tab (T_M_isRound) 65 = some (o_goto 40) := rfl
theorem e_M_isRound_68 : ct_tab (T_M_isRound) 68 = some (o_iinc 2 1) := rfl
theorem e_M_isRound_71 : ct_tab (T_M_isRound) 71 = some (o_goto 30) := rfl
theorem e_M_isRound_74 : ct_tab (T_M_isRound) 74 = some (o_aload 0 1) := rfl
theorem e_M_isRound_75 : ct_tab (T_M_isRound) 75 = some (o_getR 4 24 23) := rfl
theorem e_M_isRound_78 : ct_tab (T_M_isRound) 78 = some (o_iload 1 1) := rfl
theorem e_M_isRound_79 : ct_tab (T_M_isRound) 79 = some (o_zald) := rfl
theorem cl_M_isRound_25 {l : ct_Lx} {d d1 : Nat} {Post Post1 : Option Value → ct_Sg → Prop} {lv : ct_Lv} {st : List Value} {g : ct_Sg} {bc bs c1 s1 : Nat} {a1 : Value} {h : Nat} (hsh : g.2.1 h = (10 + 4, 24)) (hM : ct_Me l M_M_reach d1 c1 s1 [.ref h, a1] g Post1) (hdd : d1 + 1 ≤ d) (hk : (st.map fun v => v.category).sum ≤ 8) (hcc : c1 ≤ bc) (hss : s1 ≤ bs) (kk : ∀ (v : Option Value) (g' : ct_Sg), Post1 v g' → ct_Wp l M_M_isRound d Post (28, lv, v.toList ++ st, g', bc - c1, bs - s1)) : ct_Wp l M_M_isRound d Post (25, lv, a1 :: .ref h :: st, g, bc, bs) := ct_Wp.callV (ci := 4) (N := 24) (T := ct_T4) (As := [a1]) lk_M_reach (Or.inl wd_473) wd_474 wd_475 rfl d_M_isRound_25 hsh hM rfl hdd hk hcc hss kk
theorem cl_M_isRound_59 {l : ct_Lx} {d d1 : Nat} {Post Post1 : Option Value → ct_Sg → Prop} {lv : ct_Lv} {st : List Value} {g : ct_Sg} {bc bs c1 s1 : Nat} {a1 : Value} {h : Nat} (hsh : g.2.1 h = (10 + 4, 24)) (hM : ct_Me l M_M_reach d1 c1 s1 [.ref h, a1] g Post1) (hdd : d1 + 1 ≤ d) (hk : (st.map fun v => v.category).sum ≤ 8) (hcc : c1 ≤ bc) (hss : s1 ≤ bs) (kk : ∀ (v : Option Value) (g' : ct_Sg), Post1 v g' → ct_Wp l M_M_isRound d Post (62, lv, v.toList ++ st, g', bc - c1, bs - s1)) : ct_Wp l M_M_isRound d Post (59, lv, a1 :: .ref h :: st, g, bc, bs) := ct_Wp.callV (ci := 4) (N := 24) (T := ct_T4) (As := [a1]) lk_M_reach (Or.inl wd_473) wd_474 wd_475 rfl d_M_isRound_59 hsh hM rfl hdd hk hcc hss kk
theorem d_M_reach_0 : decode prog_7_method_29_code 0 = .ok (.aload_n 0, 1) := by decide +kernel
theorem d_M_reach_1 : decode prog_7_method_29_code 1 = .ok (.getfield 17, 3) := by decide +kernel
theorem d_M_reach_4 : decode prog_7_method_29_code 4 = .ok (.iload_n 1, 1) := by decide +kernel
theorem d_M_reach_5 : decode prog_7_method_29_code 5 = .ok (.iaload, 1) := by decide +kernel
theorem d_M_reach_6 : decode prog_7_method_29_code 6 = .ok (.iconst 2, 1) := by decide +kernel
theorem d_M_reach_7 : decode prog_7_method_29_code 7 = .ok (.iadd, 1) := by decide +kernel
theorem d_M_reach_8 : decode prog_7_method_29_code 8 = .ok (.istore_n 2, 1) := by decide +kernel
theorem d_M_reach_9 : decode prog_7_method_29_code 9 = .ok (.iconst 0, 1) := by decide +kernel
theorem d_M_reach_10 : decode prog_7_method_29_code 10 = .ok (.istore_n 3, 1) := by decide +kernel
theorem d_M_reach_11 : decode prog_7_method_29_code 11 = .ok (.iload_n 3, 1) := by decide +kernel
theorem d_M_reach_12 : decode prog_7_method_29_code 12 = .ok (.aload_n 0, 1) := by decide +kernel
theorem d_M_reach_13 : decode prog_7_method_29_code 13 = .ok (.iload_n 1, 1) := by decide +kernel
theorem d_M_reach_14 : decode prog_7_method_29_code 14 = .ok (.invokevirtual 133, 3) := by decide +kernel
theorem d_M_reach_17 : decode prog_7_method_29_code 17 = .ok (.if_icmp .ge 34, 3) := by decide +kernel
theorem d_M_reach_20 : decode prog_7_method_29_code 20 = .ok (.aload_n 0, 1) := by decide +kernel
theorem d_M_reach_21 : decode prog_7_method_29_code 21 = .ok (.iload_n 2, 1) := by decide +kernel
theorem d_M_reach_22 : decode prog_7_method_29_code 22 = .ok (.invokevirtual 155, 3) := by decide +kernel
theorem d_M_reach_25 : decode prog_7_method_29_code 25 = .ok (.ifCond .lt 14, 3) := by decide +kernel
theorem d_M_reach_28 : decode prog_7_method_29_code 28 = .ok (.aload_n 0, 1) := by decide +kernel
theorem d_M_reach_29 : decode prog_7_method_29_code 29 = .ok (.getfield 39, 3) := by decide +kernel
theorem d_M_reach_32 : decode prog_7_method_29_code 32 = .ok (.aload_n 0, 1) := by decide +kernel
theorem d_M_reach_33 : decode prog_7_method_29_code 33 = .ok (.iload_n 2, 1) := by decide +kernel
theorem d_M_reach_34 : decode prog_7_method_29_code 34 = .ok (.invokevirtual 155, 3) := by decide +kernel
theorem d_M_reach_37 : decode prog_7_method_29_code 37 = .ok (.iconst 1, 1) := by decide +kernel
theorem d_M_reach_38 : decode prog_7_method_29_code 38 = .ok (.bastore, 1) := by decide +kernel
theorem d_M_reach_39 : decode prog_7_method_29_code 39 = .ok (.aload_n 0, 1) := by decide +kernel
theorem d_M_reach_40 : decode prog_7_method_29_code 40 = .ok (.iload_n 2, 1) := by decide +kernel
theorem d_M_reach_41 : decode prog_7_method_29_code 41 = .ok (.invokevirtual 120, 3) := by decide +kernel
theorem d_M_reach_44 : decode prog_7_method_29_code 44 = .ok (.istore_n 2, 1) := by decide +kernel
theorem d_M_reach_45 : decode prog_7_method_29_code 45 = .ok (.iinc 3 1, 3) := by decide +kernel
theorem d_M_reach_48 : decode prog_7_method_29_code 48 = .ok (.goto (-37), 3) := by decide +kernel
theorem d_M_reach_51 : decode prog_7_method_29_code 51 = .ok (.return_, 1) := by decide +kernel
abbrev T_M_reach : List (Nat × ct_PT) := [(0, o_aload 0 1), (1, o_getR 4 24 15), (4, o_iload 1 1), (5, o_iald), (6, o_push (.int 2) 1), (7, o_ii fun x y => x + y), (8, o_istore 2 1), (9, o_push (.int 0) 1), (10, o_istore 3 1), (11, o_iload 3 1), (12, o_aload 0 1), (13, o_iload 1 1), (17, o_ic (fun x y => y ≤ x) (fun x y => ¬ y ≤ x) 51), (20, o_aload 0 1), (21, o_iload 2 1), (25, o_if (fun x => x < 0) (fun x => ¬ x < 0) 39), (28, o_aload 0 1), (29, o_getR 4 24 23), (32, o_aload 0 1), (33, o_iload 2 1), (37, o_push (.int 1) 1), (38, o_zast), (39, o_aload 0 1), (40, o_iload 2 1), (44, o_istore 2 1), (45, o_iinc 3 1), (48, o_goto 11)]
set_option maxRecDepth 100000 in
theorem A_M_reach (l : ct_Lx) : ct_al l M_M_reach (T_M_reach) := by
  refine ct_al.cons (so_aload_n d_M_reach_0 rfl) ?_
  refine ct_al.cons (so_getR (Cn := "CodeTablesModel") (T := ct_T4) kc_4 (by decide) rfl rfl wd_341 d_M_reach_1) ?_
  refine ct_al.cons (so_iload_n d_M_reach_4 rfl) ?_
  refine ct_al.cons (so_iald d_M_reach_5) ?_
  refine ct_al.cons (so_iconst d_M_reach_6 (by decide)) ?_
  refine ct_al.cons (so_iadd d_M_reach_7) ?_
  refine ct_al.cons (so_istore_n d_M_reach_8 rfl (by decide)) ?_
  refine ct_al.cons (so_iconst d_M_reach_9 (by decide)) ?_
  refine ct_al.cons (so_istore_n d_M_reach_10 rfl (by decide)) ?_
  refine ct_al.cons (so_iload_n d_M_reach_11 rfl) ?_
  refine ct_al.cons (so_aload_n d_M_reach_12 rfl) ?_
  refine ct_al.cons (so_iload_n d_M_reach_13 rfl) ?_
  refine ct_al.cons (so_ic_ge d_M_reach_17 (by decide)) ?_
  refine ct_al.cons (so_aload_n d_M_reach_20 rfl) ?_
  refine ct_al.cons (so_iload_n d_M_reach_21 rfl) ?_
  refine ct_al.cons (so_if_lt d_M_reach_25 (by decide)) ?_
  refine ct_al.cons (so_aload_n d_M_reach_28 rfl) ?_
  refine ct_al.cons (so_getR (Cn := "CodeTablesModel") (T := ct_T4) kc_4 (by decide) rfl rfl wd_349 d_M_reach_29) ?_
  refine ct_al.cons (so_aload_n d_M_reach_32 rfl) ?_
  refine ct_al.cons (so_iload_n d_M_reach_33 rfl) ?_
  refine ct_al.cons (so_iconst d_M_reach_37 (by decide)) ?_
  refine ct_al.cons (so_zast d_M_reach_38) ?_
  refine ct_al.cons (so_aload_n d_M_reach_39 rfl) ?_
  refine ct_al.cons (so_iload_n d_M_reach_40 rfl) ?_
  refine ct_al.cons (so_istore_n d_M_reach_44 rfl (by decide)) ?_
  refine ct_al.cons (so_iinc d_M_reach_45 (by decide) (by decide)) ?_
  refine ct_al.cons (so_goto d_M_reach_48 (by decide)) ?_
  exact ct_al.nil
theorem e_M_reach_0 : ct_tab (T_M_reach) 0 = some (o_aload 0 1) := rfl
theorem e_M_reach_1 : ct_tab (T_M_reach) 1 = some (o_getR 4 24 15) := rfl
theorem e_M_reach_4 : ct_tab (T_M_reach) 4 = some (o_iload 1 1) := rfl
theorem e_M_reach_5 : ct_tab (T_M_reach) 5 = some (o_iald) := rfl
theorem e_M_reach_6 : ct_tab (T_M_reach) 6 = some (o_push (.int 2) 1) := rfl
theorem e_M_reach_7 : ct_tab (T_M_reach) 7 = some (o_ii fun x y => x + y) := rfl
theorem e_M_reach_8 : ct_tab (T_M_reach) 8 = some (o_istore 2 1) := rfl
theorem e_M_reach_9 : ct_tab (T_M_reach) 9 = some (o_push (.int 0) 1) := rfl
theorem e_M_reach_10 : ct_tab (T_M_reach) 10 = some (o_istore 3 1) := rfl
theorem e_M_reach_11 : ct_tab (T_M_reach) 11 = some (o_iload 3 1) := rfl
theorem e_M_reach_12 : ct_tab (T_M_reach) 12 = some (o_aload 0 1) := rfl
theorem e_M_reach_13 : ct_tab (T_M_reach) 13 = some (o_iload 1 1) := rfl
theorem e_M_reach_17 : ct_tab (T_M_reach) 17 = some (o_ic (fun x y => y ≤ x) (fun x y => ¬ y ≤ x) 51) := rfl
theorem e_M_reach_20 : ct_tab (T_M_reach) 20 = some (o_aload 0 1) := rfl
theorem e_M_reach_21 : ct_tab (T_M_reach) 21 = some (o_iload 2 1) := rfl
theorem e_M_reach_25 : ct_tab (T_M_reach) 25 = some (o_if (fun x => x < 0) (fun x => ¬ x < 0) 39) := rfl
theorem e_M_reach_28 : ct_tab (T_M_reach) 28 = some (o_aload 0 1) := rfl
theorem e_M_reach_29 : ct_tab (T_M_reach) 29 = some (o_getR 4 24 23) := rfl
theorem e_M_reach_32 : ct_tab (T_M_reach) 32 = some (o_aload 0 1) := rfl
theorem e_M_reach_33 : ct_tab (T_M_reach) 33 = some (o_iload 2 1) := rfl
theorem e_M_reach_37 : ct_tab (T_M_reach) 37 = some (o_push (.int 1) 1) := rfl
theorem e_M_reach_38 : ct_tab (T_M_reach) 38 = some (o_zast) := rfl
theorem e_M_reach_39 : ct_tab (T_M_reach) 39 = some (o_aload 0 1) := rfl
theorem e_M_reach_40 : ct_tab (T_M_reach) 40 = some (o_iload 2 1) := rfl
theorem e_M_reach_44 : ct_tab (T_M_reach) 44 = some (o_istore 2 1) := rfl
theorem e_M_reach_45 : ct_tab (T_M_reach) 45 = some (o_iinc 3 1) := rfl
theorem e_M_reach_48 : ct_tab (T_M_reach) 48 = some (o_goto 11) := rfl
theorem cl_M_reach_14 {l : ct_Lx} {d d1 : Nat} {Post Post1 : Option Value → ct_Sg → Prop} {lv : ct_Lv} {st : List Value} {g : ct_Sg} {bc bs c1 s1 : Nat} {a1 : Value} {h : Nat} (hsh : g.2.1 h = (10 + 4, 24)) (hM : ct_Me l M_M_fieldsOf d1 c1 s1 [.ref h, a1] g Post1) (hdd : d1 + 1 ≤ d) (hk : (st.map fun v => v.category).sum ≤ 8) (hcc : c1 ≤ bc) (hss : s1 ≤ bs) (kk : ∀ (v : Option Value) (g' : ct_Sg), Post1 v g' → ct_Wp l M_M_reach d Post (17, lv, v.toList ++ st, g', bc - c1, bs - s1)) : ct_Wp l M_M_reach d Post (14, lv, a1 :: .ref h :: st, g, bc, bs) := ct_Wp.callV (ci := 4) (N := 24) (T := ct_T4) (As := [a1]) lk_M_fieldsOf (Or.inl wd_443) wd_444 wd_445 rfl d_M_reach_14 hsh hM rfl hdd hk hcc hss kk
theorem cl_M_reach_22 {l : ct_Lx} {d d1 : Nat} {Post Post1 : Option Value → ct_Sg → Prop} {lv : ct_Lv} {st : List Value} {g : ct_Sg} {bc bs c1 s1 : Nat} {a1 : Value} {h : Nat} (hsh : g.2.1 h = (10 + 4, 24)) (hM : ct_Me l M_M_ownIn d1 c1 s1 [.ref h, a1] g Post1) (hdd : d1 + 1 ≤ d) (hk : (st.map fun v => v.category).sum ≤ 8) (hcc : c1 ≤ bc) (hss : s1 ≤ bs) (kk : ∀ (v : Option Value) (g' : ct_Sg), Post1 v g' → ct_Wp l M_M_reach d Post (25, lv, v.toList ++ st, g', bc - c1, bs - s1)) : ct_Wp l M_M_reach d Post (22, lv, a1 :: .ref h :: st, g, bc, bs) := ct_Wp.callV (ci := 4) (N := 24) (T := ct_T4) (As := [a1]) lk_M_ownIn (Or.inl wd_478) wd_479 wd_480 rfl d_M_reach_22 hsh hM rfl hdd hk hcc hss kk
theorem cl_M_reach_34 {l : ct_Lx} {d d1 : Nat} {Post Post1 : Option Value → ct_Sg → Prop} {lv : ct_Lv} {st : List Value} {g : ct_Sg} {bc bs c1 s1 : Nat} {a1 : Value} {h : Nat} (hsh : g.2.1 h = (10 + 4, 24)) (hM : ct_Me l M_M_ownIn d1 c1 s1 [.ref h, a1] g Post1) (hdd : d1 + 1 ≤ d) (hk : (st.map fun v => v.category).sum ≤ 8) (hcc : c1 ≤ bc) (hss : s1 ≤ bs) (kk : ∀ (v : Option Value) (g' : ct_Sg), Post1 v g' → ct_Wp l M_M_reach d Post (37, lv, v.toList ++ st, g', bc - c1, bs - s1)) : ct_Wp l M_M_reach d Post (34, lv, a1 :: .ref h :: st, g, bc, bs) := ct_Wp.callV (ci := 4) (N := 24) (T := ct_T4) (As := [a1]) lk_M_ownIn (Or.inl wd_478) wd_479 wd_480 rfl d_M_reach_34 hsh hM rfl hdd hk hcc hss kk
theorem cl_M_reach_41 {l : ct_Lx} {d d1 : Nat} {Post Post1 : Option Value → ct_Sg → Prop} {lv : ct_Lv} {st : List Value} {g : ct_Sg} {bc bs c1 s1 : Nat} {a1 : Value} {h : Nat} (hsh : g.2.1 h = (10 + 4, 24)) (hM : ct_Me l M_M_typeEnd d1 c1 s1 [.ref h, a1] g Post1) (hdd : d1 + 1 ≤ d) (hk : (st.map fun v => v.category).sum ≤ 8) (hcc : c1 ≤ bc) (hss : s1 ≤ bs) (kk : ∀ (v : Option Value) (g' : ct_Sg), Post1 v g' → ct_Wp l M_M_reach d Post (44, lv, v.toList ++ st, g', bc - c1, bs - s1)) : ct_Wp l M_M_reach d Post (41, lv, a1 :: .ref h :: st, g, bc, bs) := ct_Wp.callV (ci := 4) (N := 24) (T := ct_T4) (As := [a1]) lk_M_typeEnd (Or.inl wd_423) wd_424 wd_425 rfl d_M_reach_41 hsh hM rfl hdd hk hcc hss kk
theorem d_M_read_0 : decode prog_7_method_30_code 0 = .ok (.aload_n 0, 1) := by decide +kernel
theorem d_M_read_1 : decode prog_7_method_30_code 1 = .ok (.aload_n 0, 1) := by decide +kernel
theorem d_M_read_2 : decode prog_7_method_30_code 2 = .ok (.getfield 43, 3) := by decide +kernel
theorem d_M_read_5 : decode prog_7_method_30_code 5 = .ok (.putfield 53, 3) := by decide +kernel
theorem d_M_read_8 : decode prog_7_method_30_code 8 = .ok (.aload_n 0, 1) := by decide +kernel
theorem d_M_read_9 : decode prog_7_method_30_code 9 = .ok (.iconst 0, 1) := by decide +kernel
theorem d_M_read_10 : decode prog_7_method_30_code 10 = .ok (.putfield 43, 3) := by decide +kernel
theorem d_M_read_13 : decode prog_7_method_30_code 13 = .ok (.iconst 0, 1) := by decide +kernel
theorem d_M_read_14 : decode prog_7_method_30_code 14 = .ok (.istore_n 1, 1) := by decide +kernel
theorem d_M_read_15 : decode prog_7_method_30_code 15 = .ok (.iload_n 1, 1) := by decide +kernel
theorem d_M_read_16 : decode prog_7_method_30_code 16 = .ok (.aload_n 0, 1) := by decide +kernel
theorem d_M_read_17 : decode prog_7_method_30_code 17 = .ok (.getfield 53, 3) := by decide +kernel
theorem d_M_read_20 : decode prog_7_method_30_code 20 = .ok (.if_icmp .ge 21, 3) := by decide +kernel
theorem d_M_read_23 : decode prog_7_method_30_code 23 = .ok (.aload_n 0, 1) := by decide +kernel
theorem d_M_read_24 : decode prog_7_method_30_code 24 = .ok (.getfield 14, 3) := by decide +kernel
theorem d_M_read_27 : decode prog_7_method_30_code 27 = .ok (.iload_n 1, 1) := by decide +kernel
theorem d_M_read_28 : decode prog_7_method_30_code 28 = .ok (.aload_n 0, 1) := by decide +kernel
theorem d_M_read_29 : decode prog_7_method_30_code 29 = .ok (.getfield 8, 3) := by decide +kernel
theorem d_M_read_32 : decode prog_7_method_30_code 32 = .ok (.iload_n 1, 1) := by decide +kernel
theorem d_M_read_33 : decode prog_7_method_30_code 33 = .ok (.baload, 1) := by decide +kernel
theorem d_M_read_34 : decode prog_7_method_30_code 34 = .ok (.bastore, 1) := by decide +kernel
theorem d_M_read_35 : decode prog_7_method_30_code 35 = .ok (.iinc 1 1, 3) := by decide +kernel
theorem d_M_read_38 : decode prog_7_method_30_code 38 = .ok (.goto (-23), 3) := by decide +kernel
theorem d_M_read_41 : decode prog_7_method_30_code 41 = .ok (.aload_n 0, 1) := by decide +kernel
theorem d_M_read_42 : decode prog_7_method_30_code 42 = .ok (.iconst 0, 1) := by decide +kernel
theorem d_M_read_43 : decode prog_7_method_30_code 43 = .ok (.putfield 60, 3) := by decide +kernel
theorem d_M_read_46 : decode prog_7_method_30_code 46 = .ok (.aload_n 0, 1) := by decide +kernel
theorem d_M_read_47 : decode prog_7_method_30_code 47 = .ok (.iconst 0, 1) := by decide +kernel
theorem d_M_read_48 : decode prog_7_method_30_code 48 = .ok (.putfield 47, 3) := by decide +kernel
theorem d_M_read_51 : decode prog_7_method_30_code 51 = .ok (.aload_n 0, 1) := by decide +kernel
theorem d_M_read_52 : decode prog_7_method_30_code 52 = .ok (.iconst 0, 1) := by decide +kernel
theorem d_M_read_53 : decode prog_7_method_30_code 53 = .ok (.putfield 82, 3) := by decide +kernel
theorem d_M_read_56 : decode prog_7_method_30_code 56 = .ok (.aload_n 0, 1) := by decide +kernel
theorem d_M_read_57 : decode prog_7_method_30_code 57 = .ok (.invokevirtual 158, 3) := by decide +kernel
theorem d_M_read_60 : decode prog_7_method_30_code 60 = .ok (.aload_n 0, 1) := by decide +kernel
theorem d_M_read_61 : decode prog_7_method_30_code 61 = .ok (.invokevirtual 70, 3) := by decide +kernel
theorem d_M_read_64 : decode prog_7_method_30_code 64 = .ok (.ifCond .eq 7, 3) := by decide +kernel
theorem d_M_read_67 : decode prog_7_method_30_code 67 = .ok (.aload_n 0, 1) := by decide +kernel
theorem d_M_read_68 : decode prog_7_method_30_code 68 = .ok (.invokevirtual 161, 3) := by decide +kernel
theorem d_M_read_71 : decode prog_7_method_30_code 71 = .ok (.iconst 0, 1) := by decide +kernel
theorem d_M_read_72 : decode prog_7_method_30_code 72 = .ok (.istore_n 1, 1) := by decide +kernel
theorem d_M_read_73 : decode prog_7_method_30_code 73 = .ok (.iload_n 1, 1) := by decide +kernel
theorem d_M_read_74 : decode prog_7_method_30_code 74 = .ok (.aload_n 0, 1) := by decide +kernel
theorem d_M_read_75 : decode prog_7_method_30_code 75 = .ok (.getfield 102, 3) := by decide +kernel
theorem d_M_read_78 : decode prog_7_method_30_code 78 = .ok (.if_icmp .ge 36, 3) := by decide +kernel
theorem d_M_read_81 : decode prog_7_method_30_code 81 = .ok (.aload_n 0, 1) := by decide +kernel
theorem d_M_read_82 : decode prog_7_method_30_code 82 = .ok (.invokevirtual 70, 3) := by decide +kernel
theorem d_M_read_85 : decode prog_7_method_30_code 85 = .ok (.ifCond .eq 29, 3) := by decide +kernel
theorem d_M_read_88 : decode prog_7_method_30_code 88 = .ok (.aload_n 0, 1) := by decide +kernel
theorem d_M_read_89 : decode prog_7_method_30_code 89 = .ok (.iload_n 1, 1) := by decide +kernel
theorem d_M_read_90 : decode prog_7_method_30_code 90 = .ok (.invokevirtual 164, 3) := by decide +kernel
theorem d_M_read_93 : decode prog_7_method_30_code 93 = .ok (.ifCond .eq 15, 3) := by decide +kernel
theorem d_M_read_96 : decode prog_7_method_30_code 96 = .ok (.aload_n 0, 1) := by decide +kernel
theorem d_M_read_97 : decode prog_7_method_30_code 97 = .ok (.bipush 14, 2) := by decide +kernel
theorem d_M_read_99 : decode prog_7_method_30_code 99 = .ok (.aload_n 0, 1) := by decide +kernel
theorem d_M_read_100 : decode prog_7_method_30_code 100 = .ok (.getfield 17, 3) := by decide +kernel
theorem d_M_read_103 : decode prog_7_method_30_code 103 = .ok (.iload_n 1, 1) := by decide +kernel
theorem d_M_read_104 : decode prog_7_method_30_code 104 = .ok (.iaload, 1) := by decide +kernel
theorem d_M_read_105 : decode prog_7_method_30_code 105 = .ok (.invokevirtual 63, 3) := by decide +kernel
theorem d_M_read_108 : decode prog_7_method_30_code 108 = .ok (.iinc 1 1, 3) := by decide +kernel
theorem d_M_read_111 : decode prog_7_method_30_code 111 = .ok (.goto (-38), 3) := by decide +kernel
theorem d_M_read_114 : decode prog_7_method_30_code 114 = .ok (.aload_n 0, 1) := by decide +kernel
theorem d_M_read_115 : decode prog_7_method_30_code 115 = .ok (.aload_n 0, 1) := by decide +kernel
theorem d_M_read_116 : decode prog_7_method_30_code 116 = .ok (.invokevirtual 70, 3) := by decide +kernel
theorem d_M_read_119 : decode prog_7_method_30_code 119 = .ok (.putfield 167, 3) := by decide +kernel
theorem d_M_read_122 : decode prog_7_method_30_code 122 = .ok (.aload_n 0, 1) := by decide +kernel
theorem d_M_read_123 : decode prog_7_method_30_code 123 = .ok (.aload_n 0, 1) := by decide +kernel
theorem d_M_read_124 : decode prog_7_method_30_code 124 = .ok (.getfield 167, 3) := by decide +kernel
theorem d_M_read_127 : decode prog_7_method_30_code 127 = .ok (.ifCond .eq 10, 3) := by decide +kernel
theorem d_M_read_130 : decode prog_7_method_30_code 130 = .ok (.aload_n 0, 1) := by decide +kernel
theorem d_M_read_131 : decode prog_7_method_30_code 131 = .ok (.getfield 53, 3) := by decide +kernel
theorem d_M_read_134 : decode prog_7_method_30_code 134 = .ok (.goto 7, 3) := by decide +kernel
theorem d_M_read_137 : decode prog_7_method_30_code 137 = .ok (.aload_n 0, 1) := by decide +kernel
theorem d_M_read_138 : decode prog_7_method_30_code 138 = .ok (.getfield 50, 3) := by decide +kernel
theorem d_M_read_141 : decode prog_7_method_30_code 141 = .ok (.putfield 171, 3) := by decide +kernel
theorem d_M_read_144 : decode prog_7_method_30_code 144 = .ok (.aload_n 0, 1) := by decide +kernel
theorem d_M_read_145 : decode prog_7_method_30_code 145 = .ok (.getfield 47, 3) := by decide +kernel
theorem d_M_read_148 : decode prog_7_method_30_code 148 = .ok (.ineg, 1) := by decide +kernel
theorem d_M_read_149 : decode prog_7_method_30_code 149 = .ok (.ireturn, 1) := by decide +kernel
abbrev T_M_read : List (Nat × ct_PT) := [(0, o_aload 0 1), (1, o_aload 0 1), (2, o_getI 4 24 1), (5, o_putI 4 24 3), (8, o_aload 0 1), (9, o_push (.int 0) 1), (10, o_putI 4 24 1), (13, o_push (.int 0) 1), (14, o_istore 1 1), (15, o_iload 1 1), (16, o_aload 0 1), (17, o_getI 4 24 3), (20, o_ic (fun x y => y ≤ x) (fun x y => ¬ y ≤ x) 41), (23, o_aload 0 1), (24, o_getR 4 24 2), (27, o_iload 1 1), (28, o_aload 0 1), (29, o_getR 4 24 0), (32, o_iload 1 1), (33, o_bald), (34, o_bast), (35, o_iinc 1 1), (38, o_goto 15), (41, o_aload 0 1), (42, o_push (.int 0) 1), (43, o_putI 4 24 5), (46, o_aload 0 1), (47, o_push (.int 0) 1), (48, o_putI 4 24 6), (51, o_aload 0 1), (52, o_push (.int 0) 1), (53, o_putI 4 24 14), (56, o_aload 0 1), (60, o_aload 0 1), (64, o_if (fun x => x = 0) (fun x => ¬ x = 0) 71), (67, o_aload 0 1), (71, o_push (.int 0) 1), (72, o_istore 1 1), (73, o_iload 1 1), (74, o_aload 0 1), (75, o_getI 4 24 9), (78, o_ic (fun x y => y ≤ x) (fun x y => ¬ y ≤ x) 114), (81, o_aload 0 1), (85, o_if (fun x => x = 0) (fun x => ¬ x = 0) 114), (88, o_aload 0 1), (89, o_iload 1 1), (93, o_if (fun x => x = 0) (fun x => ¬ x = 0) 108), (96, o_aload 0 1), (97, o_push (.int 14) 2), (99, o_aload 0 1), (100, o_getR 4 24 15), (103, o_iload 1 1), (104, o_iald), (108, o_iinc 1 1), (111, o_goto 73), (114, o_aload 0 1), (115, o_aload 0 1), (119, o_putZ 4 24 4), (122, o_aload 0 1), (123, o_aload 0 1), (124, o_getI 4 24 4), (127, o_if (fun x => x = 0) (fun x => ¬ x = 0) 137), (130, o_aload 0 1), (131, o_getI 4 24 3), (134, o_goto 141), (137, o_aload 0 1), (138, o_getI 4 24 7), (141, o_putI 4 24 8), (144, o_aload 0 1), (145, o_getI 4 24 6), (148, o_i1 fun x => -x)]
set_option maxRecDepth 100000 in
theorem A_M_read (l : ct_Lx) : ct_al l M_M_read (T_M_read) := by
  refine ct_al.cons (so_aload_n d_M_read_0 rfl) ?_
  refine ct_al.cons (so_aload_n d_M_read_1 rfl) ?_
  refine ct_al.cons (so_getI (Cn := "CodeTablesModel") (T := ct_T4) kc_4 (by decide) rfl rfl wd_350 d_M_read_2) ?_
  refine ct_al.cons (so_putI (Cn := "CodeTablesModel") (T := ct_T4) kc_4 (by decide) rfl rfl (Or.inl rfl) wd_353 d_M_read_5) ?_
  refine ct_al.cons (so_aload_n d_M_read_8 rfl) ?_
  refine ct_al.cons (so_iconst d_M_read_9 (by decide)) ?_
  refine ct_al.cons (so_putI (Cn := "CodeTablesModel") (T := ct_T4) kc_4 (by decide) rfl rfl (Or.inl rfl) wd_350 d_M_read_10) ?_
  refine ct_al.cons (so_iconst d_M_read_13 (by decide)) ?_
  refine ct_al.cons (so_istore_n d_M_read_14 rfl (by decide)) ?_
  refine ct_al.cons (so_iload_n d_M_read_15 rfl) ?_
  refine ct_al.cons (so_aload_n d_M_read_16 rfl) ?_
  refine ct_al.cons (so_getI (Cn := "CodeTablesModel") (T := ct_T4) kc_4 (by decide) rfl rfl wd_353 d_M_read_17) ?_
  refine ct_al.cons (so_ic_ge d_M_read_20 (by decide)) ?_
  refine ct_al.cons (so_aload_n d_M_read_23 rfl) ?_
  refine ct_al.cons (so_getR (Cn := "CodeTablesModel") (T := ct_T4) kc_4 (by decide) rfl rfl wd_340 d_M_read_24) ?_
  refine ct_al.cons (so_iload_n d_M_read_27 rfl) ?_
  refine ct_al.cons (so_aload_n d_M_read_28 rfl) ?_
  refine ct_al.cons (so_getR (Cn := "CodeTablesModel") (T := ct_T4) kc_4 (by decide) rfl rfl wd_339 d_M_read_29) ?_
  refine ct_al.cons (so_iload_n d_M_read_32 rfl) ?_
  refine ct_al.cons (so_bald d_M_read_33) ?_
  refine ct_al.cons (so_bast d_M_read_34) ?_
  refine ct_al.cons (so_iinc d_M_read_35 (by decide) (by decide)) ?_
  refine ct_al.cons (so_goto d_M_read_38 (by decide)) ?_
  refine ct_al.cons (so_aload_n d_M_read_41 rfl) ?_
  refine ct_al.cons (so_iconst d_M_read_42 (by decide)) ?_
  refine ct_al.cons (so_putI (Cn := "CodeTablesModel") (T := ct_T4) kc_4 (by decide) rfl rfl (Or.inl rfl) wd_360 d_M_read_43) ?_
  refine ct_al.cons (so_aload_n d_M_read_46 rfl) ?_
  refine ct_al.cons (so_iconst d_M_read_47 (by decide)) ?_
  refine ct_al.cons (so_putI (Cn := "CodeTablesModel") (T := ct_T4) kc_4 (by decide) rfl rfl (Or.inl rfl) wd_351 d_M_read_48) ?_
  refine ct_al.cons (so_aload_n d_M_read_51 rfl) ?_
  refine ct_al.cons (so_iconst d_M_read_52 (by decide)) ?_
  refine ct_al.cons (so_putI (Cn := "CodeTablesModel") (T := ct_T4) kc_4 (by decide) rfl rfl (Or.inl rfl) wd_386 d_M_read_53) ?_
  refine ct_al.cons (so_aload_n d_M_read_56 rfl) ?_
  refine ct_al.cons (so_aload_n d_M_read_60 rfl) ?_
  refine ct_al.cons (so_if_eq d_M_read_64 (by decide)) ?_
  refine ct_al.cons (so_aload_n d_M_read_67 rfl) ?_
  refine ct_al.cons (so_iconst d_M_read_71 (by decide)) ?_
  refine ct_al.cons (so_istore_n d_M_read_72 rfl (by decide)) ?_
  refine ct_al.cons (so_iload_n d_M_read_73 rfl) ?_
  refine ct_al.cons (so_aload_n d_M_read_74 rfl) ?_
  refine ct_al.cons (so_getI (Cn := "CodeTablesModel") (T := ct_T4) kc_4 (by decide) rfl rfl wd_411 d_M_read_75) ?_
  refine ct_al.cons (so_ic_ge d_M_read_78 (by decide)) ?_
  refine ct_al.cons (so_aload_n d_M_read_81 rfl) ?_
  refine ct_al.cons (so_if_eq d_M_read_85 (by decide)) ?_
  refine ct_al.cons (so_aload_n d_M_read_88 rfl) ?_
  refine ct_al.cons (so_iload_n d_M_read_89 rfl) ?_
  refine ct_al.cons (so_if_eq d_M_read_93 (by decide)) ?_
  refine ct_al.cons (so_aload_n d_M_read_96 rfl) ?_
  refine ct_al.cons (so_bipush d_M_read_97 (by decide)) ?_
  refine ct_al.cons (so_aload_n d_M_read_99 rfl) ?_
  refine ct_al.cons (so_getR (Cn := "CodeTablesModel") (T := ct_T4) kc_4 (by decide) rfl rfl wd_341 d_M_read_100) ?_
  refine ct_al.cons (so_iload_n d_M_read_103 rfl) ?_
  refine ct_al.cons (so_iald d_M_read_104) ?_
  refine ct_al.cons (so_iinc d_M_read_108 (by decide) (by decide)) ?_
  refine ct_al.cons (so_goto d_M_read_111 (by decide)) ?_
  refine ct_al.cons (so_aload_n d_M_read_114 rfl) ?_
  refine ct_al.cons (so_aload_n d_M_read_115 rfl) ?_
  refine ct_al.cons (so_putZ (Cn := "CodeTablesModel") (T := ct_T4) kc_4 (by decide) rfl rfl (Or.inl rfl) wd_496 d_M_read_119) ?_
  refine ct_al.cons (so_aload_n d_M_read_122 rfl) ?_
  refine ct_al.cons (so_aload_n d_M_read_123 rfl) ?_
  refine ct_al.cons (so_getI (Cn := "CodeTablesModel") (T := ct_T4) kc_4 (by decide) rfl rfl wd_496 d_M_read_124) ?_
  refine ct_al.cons (so_if_eq d_M_read_127 (by decide)) ?_
  refine ct_al.cons (so_aload_n d_M_read_130 rfl) ?_
  refine ct_al.cons (so_getI (Cn := "CodeTablesModel") (T := ct_T4) kc_4 (by decide) rfl rfl wd_353 d_M_read_131) ?_
  refine ct_al.cons (so_goto d_M_read_134 (by decide)) ?_
  refine ct_al.cons (so_aload_n d_M_read_137 rfl) ?_
  refine ct_al.cons (so_getI (Cn := "CodeTablesModel") (T := ct_T4) kc_4 (by decide) rfl rfl wd_352 d_M_read_138) ?_
  refine ct_al.cons (so_putI (Cn := "CodeTablesModel") (T := ct_T4) kc_4 (by decide) rfl rfl (Or.inl rfl) wd_497 d_M_read_141) ?_
  refine ct_al.cons (so_aload_n d_M_read_144 rfl) ?_
  refine ct_al.cons (so_getI (Cn := "CodeTablesModel") (T := ct_T4) kc_4 (by decide) rfl rfl wd_351 d_M_read_145) ?_
  refine ct_al.cons (so_ineg d_M_read_148) ?_
  exact ct_al.nil
theorem e_M_read_0 : ct_tab (T_M_read) 0 = some (o_aload 0 1) := rfl
theorem e_M_read_1 : ct_tab (T_M_read) 1 = some (o_aload 0 1) := rfl
theorem e_M_read_2 : ct_tab (T_M_read) 2 = some (o_getI 4 24 1) := rfl
theorem e_M_read_5 : ct_tab (T_M_read) 5 = some (o_putI 4 24 3) := rfl
theorem e_M_read_8 : ct_tab (T_M_read) 8 = some (o_aload 0 1) := rfl
theorem e_M_read_9 : ct_tab (T_M_read) 9 = some (o_push (.int 0) 1) := rfl
theorem e_M_read_10 : ct_tab (T_M_read) 10 = some (o_putI 4 24 1) := rfl
theorem e_M_read_13 : ct_tab (T_M_read) 13 = some (o_push (.int 0) 1) := rfl
theorem e_M_read_14 : ct_tab (T_M_read) 14 = some (o_istore 1 1) := rfl
theorem e_M_read_15 : ct_tab (T_M_read) 15 = some (o_iload 1 1) := rfl
theorem e_M_read_16 : ct_tab (T_M_read) 16 = some (o_aload 0 1) := rfl
theorem e_M_read_17 : ct_tab (T_M_read) 17 = some (o_getI 4 24 3) := rfl
theorem e_M_read_20 : ct_tab (T_M_read) 20 = some (o_ic (fun x y => y ≤ x) (fun x y => ¬ y ≤ x) 41) := rfl
theorem e_M_read_23 : ct_tab (T_M_read) 23 = some (o_aload 0 1) := rfl
theorem e_M_read_24 : ct_tab (T_M_read) 24 = some (o_getR 4 24 2) := rfl
theorem e_M_read_27 : ct_tab (T_M_read) 27 = some (o_iload 1 1) := rfl
theorem e_M_read_28 : ct_tab (T_M_read) 28 = some (o_aload 0 1) := rfl
theorem e_M_read_29 : ct_tab (T_M_read) 29 = some (o_getR 4 24 0) := rfl
theorem e_M_read_32 : ct_tab (T_M_read) 32 = some (o_iload 1 1) := rfl
theorem e_M_read_33 : ct_tab (T_M_read) 33 = some (o_bald) := rfl
theorem e_M_read_34 : ct_tab (T_M_read) 34 = some (o_bast) := rfl
theorem e_M_read_35 : ct_tab (T_M_read) 35 = some (o_iinc 1 1) := rfl
theorem e_M_read_38 : ct_tab (T_M_read) 38 = some (o_goto 15) := rfl
theorem e_M_read_41 : ct_tab (T_M_read) 41 = some (o_aload 0 1) := rfl
theorem e_M_read_42 : ct_tab (T_M_read) 42 = some (o_push (.int 0) 1) := rfl
theorem e_M_read_43 : ct_tab (T_M_read) 43 = some (o_putI 4 24 5) := rfl
theorem e_M_read_46 : ct_tab (T_M_read) 46 = some (o_aload 0 1) := rfl
theorem e_M_read_47 : ct_tab (T_M_read) 47 = some (o_push (.int 0) 1) := rfl
theorem e_M_read_48 : ct_tab (T_M_read) 48 = some (o_putI 4 24 6) := rfl
theorem e_M_read_51 : ct_tab (T_M_read) 51 = some (o_aload 0 1) := rfl
theorem e_M_read_52 : ct_tab (T_M_read) 52 = some (o_push (.int 0) 1) := rfl
theorem e_M_read_53 : ct_tab (T_M_read) 53 = some (o_putI 4 24 14) := rfl
theorem e_M_read_56 : ct_tab (T_M_read) 56 = some (o_aload 0 1) := rfl
theorem e_M_read_60 : ct_tab (T_M_read) 60 = some (o_aload 0 1) := rfl
theorem e_M_read_64 : ct_tab (T_M_read) 64 = some (o_if (fun x => x = 0) (fun x => ¬ x = 0) 71) := rfl
theorem e_M_read_67 : ct_tab (T_M_read) 67 = some (o_aload 0 1) := rfl
theorem e_M_read_71 : ct_tab (T_M_read) 71 = some (o_push (.int 0) 1) := rfl
theorem e_M_read_72 : ct_tab (T_M_read) 72 = some (o_istore 1 1) := rfl
theorem e_M_read_73 : ct_tab (T_M_read) 73 = some (o_iload 1 1) := rfl
theorem e_M_read_74 : ct_tab (T_M_read) 74 = some (o_aload 0 1) := rfl
theorem e_M_read_75 : ct_tab (T_M_read) 75 = some (o_getI 4 24 9) := rfl
theorem e_M_read_78 : ct_tab (T_M_read) 78 = some (o_ic (fun x y => y ≤ x) (fun x y => ¬ y ≤ x) 114) := rfl
theorem e_M_read_81 : ct_tab (T_M_read) 81 = some (o_aload 0 1) := rfl
theorem e_M_read_85 : ct_tab (T_M_read) 85 = some (o_if (fun x => x = 0) (fun x => ¬ x = 0) 114) := rfl
theorem e_M_read_88 : ct_tab (T_M_read) 88 = some (o_aload 0 1) := rfl
theorem e_M_read_89 : ct_tab (T_M_read) 89 = some (o_iload 1 1) := rfl
theorem e_M_read_93 : ct_tab (T_M_read) 93 = some (o_if (fun x => x = 0) (fun x => ¬ x = 0) 108) := rfl
theorem e_M_read_96 : ct_tab (T_M_read) 96 = some (o_aload 0 1) := rfl
theorem e_M_read_97 : ct_tab (T_M_read) 97 = some (o_push (.int 14) 2) := rfl
theorem e_M_read_99 : ct_tab (T_M_read) 99 = some (o_aload 0 1) := rfl
theorem e_M_read_100 : ct_tab (T_M_read) 100 = some (o_getR 4 24 15) := rfl
theorem e_M_read_103 : ct_tab (T_M_read) 103 = some (o_iload 1 1) := rfl
theorem e_M_read_104 : ct_tab (T_M_read) 104 = some (o_iald) := rfl
theorem e_M_read_108 : ct_tab (T_M_read) 108 = some (o_iinc 1 1) := rfl
theorem e_M_read_111 : ct_tab (T_M_read) 111 = some (o_goto 73) := rfl
theorem e_M_read_114 : ct_tab (T_M_read) 114 = some (o_aload 0 1) := rfl
theorem e_M_read_115 : ct_tab (T_M_read) 115 = some (o_aload 0 1) := rfl
theorem e_M_read_119 : ct_tab (T_M_read) 119 = some (o_putZ 4 24 4) := rfl
theorem e_M_read_122 : ct_tab (T_M_read) 122 = some (o_aload 0 1) := rfl
theorem e_M_read_123 : ct_tab (T_M_read) 123 = some (o_aload 0 1) := rfl
theorem e_M_read_124 : ct_tab (T_M_read) 124 = some (o_getI 4 24 4) := rfl
theorem e_M_read_127 : ct_tab (T_M_read) 127 = some (o_if (fun x => x = 0) (fun x => ¬ x = 0) 137) := rfl
theorem e_M_read_130 : ct_tab (T_M_read) 130 = some (o_aload 0 1) := rfl
theorem e_M_read_131 : ct_tab (T_M_read) 131 = some (o_getI 4 24 3) := rfl
theorem e_M_read_134 : ct_tab (T_M_read) 134 = some (o_goto 141) := rfl
theorem e_M_read_137 : ct_tab (T_M_read) 137 = some (o_aload 0 1) := rfl
theorem e_M_read_138 : ct_tab (T_M_read) 138 = some (o_getI 4 24 7) := rfl
theorem e_M_read_141 : ct_tab (T_M_read) 141 = some (o_putI 4 24 8) := rfl
theorem e_M_read_144 : ct_tab (T_M_read) 144 = some (o_aload 0 1) := rfl
theorem e_M_read_145 : ct_tab (T_M_read) 145 = some (o_getI 4 24 6) := rfl
theorem e_M_read_148 : ct_tab (T_M_read) 148 = some (o_i1 fun x => -x) := rfl
theorem cl_M_read_57 {l : ct_Lx} {d d1 : Nat} {Post Post1 : Option Value → ct_Sg → Prop} {lv : ct_Lv} {st : List Value} {g : ct_Sg} {bc bs c1 s1 : Nat} {h : Nat} (hsh : g.2.1 h = (10 + 4, 24)) (hM : ct_Me l M_M_overAll d1 c1 s1 [.ref h] g Post1) (hdd : d1 + 1 ≤ d) (hk : (st.map fun v => v.category).sum ≤ 8) (hcc : c1 ≤ bc) (hss : s1 ≤ bs) (kk : ∀ (v : Option Value) (g' : ct_Sg), Post1 v g' → ct_Wp l M_M_read d Post (60, lv, v.toList ++ st, g', bc - c1, bs - s1)) : ct_Wp l M_M_read d Post (57, lv, .ref h :: st, g, bc, bs) := ct_Wp.callV (ci := 4) (N := 24) (T := ct_T4) (As := []) lk_M_overAll (Or.inl wd_483) wd_484 wd_485 rfl d_M_read_57 hsh hM rfl hdd hk hcc hss kk
theorem cl_M_read_61 {l : ct_Lx} {d d1 : Nat} {Post Post1 : Option Value → ct_Sg → Prop} {lv : ct_Lv} {st : List Value} {g : ct_Sg} {bc bs c1 s1 : Nat} {h : Nat} (hsh : g.2.1 h = (10 + 4, 24)) (hM : ct_Me l M_M_isGood d1 c1 s1 [.ref h] g Post1) (hdd : d1 + 1 ≤ d) (hk : (st.map fun v => v.category).sum ≤ 8) (hcc : c1 ≤ bc) (hss : s1 ≤ bs) (kk : ∀ (v : Option Value) (g' : ct_Sg), Post1 v g' → ct_Wp l M_M_read d Post (64, lv, v.toList ++ st, g', bc - c1, bs - s1)) : ct_Wp l M_M_read d Post (61, lv, .ref h :: st, g, bc, bs) := ct_Wp.callV (ci := 4) (N := 24) (T := ct_T4) (As := []) lk_M_isGood (Or.inl wd_373) wd_374 wd_375 rfl d_M_read_61 hsh hM rfl hdd hk hcc hss kk
theorem cl_M_read_68 {l : ct_Lx} {d d1 : Nat} {Post Post1 : Option Value → ct_Sg → Prop} {lv : ct_Lv} {st : List Value} {g : ct_Sg} {bc bs c1 s1 : Nat} {h : Nat} (hsh : g.2.1 h = (10 + 4, 24)) (hM : ct_Me l M_M_lookAll d1 c1 s1 [.ref h] g Post1) (hdd : d1 + 1 ≤ d) (hk : (st.map fun v => v.category).sum ≤ 8) (hcc : c1 ≤ bc) (hss : s1 ≤ bs) (kk : ∀ (v : Option Value) (g' : ct_Sg), Post1 v g' → ct_Wp l M_M_read d Post (71, lv, v.toList ++ st, g', bc - c1, bs - s1)) : ct_Wp l M_M_read d Post (68, lv, .ref h :: st, g, bc, bs) := ct_Wp.callV (ci := 4) (N := 24) (T := ct_T4) (As := []) lk_M_lookAll (Or.inl wd_488) wd_489 wd_490 rfl d_M_read_68 hsh hM rfl hdd hk hcc hss kk
theorem cl_M_read_82 {l : ct_Lx} {d d1 : Nat} {Post Post1 : Option Value → ct_Sg → Prop} {lv : ct_Lv} {st : List Value} {g : ct_Sg} {bc bs c1 s1 : Nat} {h : Nat} (hsh : g.2.1 h = (10 + 4, 24)) (hM : ct_Me l M_M_isGood d1 c1 s1 [.ref h] g Post1) (hdd : d1 + 1 ≤ d) (hk : (st.map fun v => v.category).sum ≤ 8) (hcc : c1 ≤ bc) (hss : s1 ≤ bs) (kk : ∀ (v : Option Value) (g' : ct_Sg), Post1 v g' → ct_Wp l M_M_read d Post (85, lv, v.toList ++ st, g', bc - c1, bs - s1)) : ct_Wp l M_M_read d Post (82, lv, .ref h :: st, g, bc, bs) := ct_Wp.callV (ci := 4) (N := 24) (T := ct_T4) (As := []) lk_M_isGood (Or.inl wd_373) wd_374 wd_375 rfl d_M_read_82 hsh hM rfl hdd hk hcc hss kk
theorem cl_M_read_90 {l : ct_Lx} {d d1 : Nat} {Post Post1 : Option Value → ct_Sg → Prop} {lv : ct_Lv} {st : List Value} {g : ct_Sg} {bc bs c1 s1 : Nat} {a1 : Value} {h : Nat} (hsh : g.2.1 h = (10 + 4, 24)) (hM : ct_Me l M_M_isRound d1 c1 s1 [.ref h, a1] g Post1) (hdd : d1 + 1 ≤ d) (hk : (st.map fun v => v.category).sum ≤ 8) (hcc : c1 ≤ bc) (hss : s1 ≤ bs) (kk : ∀ (v : Option Value) (g' : ct_Sg), Post1 v g' → ct_Wp l M_M_read d Post (93, lv, v.toList ++ st, g', bc - c1, bs - s1)) : ct_Wp l M_M_read d Post (90, lv, a1 :: .ref h :: st, g, bc, bs) := ct_Wp.callV (ci := 4) (N := 24) (T := ct_T4) (As := [a1]) lk_M_isRound (Or.inl wd_493) wd_494 wd_495 rfl d_M_read_90 hsh hM rfl hdd hk hcc hss kk
theorem cl_M_read_105 {l : ct_Lx} {d d1 : Nat} {Post Post1 : Option Value → ct_Sg → Prop} {lv : ct_Lv} {st : List Value} {g : ct_Sg} {bc bs c1 s1 : Nat} {a1 a2 : Value} {h : Nat} (hsh : g.2.1 h = (10 + 4, 24)) (hM : ct_Me l M_M_fail d1 c1 s1 [.ref h, a1, a2] g Post1) (hdd : d1 + 1 ≤ d) (hk : (st.map fun v => v.category).sum ≤ 8) (hcc : c1 ≤ bc) (hss : s1 ≤ bs) (kk : ∀ (v : Option Value) (g' : ct_Sg), Post1 v g' → ct_Wp l M_M_read d Post (108, lv, v.toList ++ st, g', bc - c1, bs - s1)) : ct_Wp l M_M_read d Post (105, lv, a2 :: a1 :: .ref h :: st, g, bc, bs) := ct_Wp.callV (ci := 4) (N := 24) (T := ct_T4) (As := [a1, a2]) lk_M_fail (Or.inl wd_363) wd_364 wd_365 rfl d_M_read_105 hsh hM rfl hdd hk hcc hss kk
theorem cl_M_read_116 {l : ct_Lx} {d d1 : Nat} {Post Post1 : Option Value → ct_Sg → Prop} {lv : ct_Lv} {st : List Value} {g : ct_Sg} {bc bs c1 s1 : Nat} {h : Nat} (hsh : g.2.1 h = (10 + 4, 24)) (hM : ct_Me l M_M_isGood d1 c1 s1 [.ref h] g Post1) (hdd : d1 + 1 ≤ d) (hk : (st.map fun v => v.category).sum ≤ 8) (hcc : c1 ≤ bc) (hss : s1 ≤ bs) (kk : ∀ (v : Option Value) (g' : ct_Sg), Post1 v g' → ct_Wp l M_M_read d Post (119, lv, v.toList ++ st, g', bc - c1, bs - s1)) : ct_Wp l M_M_read d Post (116, lv, .ref h :: st, g, bc, bs) := ct_Wp.callV (ci := 4) (N := 24) (T := ct_T4) (As := []) lk_M_isGood (Or.inl wd_373) wd_374 wd_375 rfl d_M_read_116 hsh hM rfl hdd hk hcc hss kk
theorem d_M_place_0 : decode prog_7_method_31_code 0 = .ok (.aload_n 0, 1) := by decide +kernel
theorem d_M_place_1 : decode prog_7_method_31_code 1 = .ok (.getfield 171, 3) := by decide +kernel
theorem d_M_place_4 : decode prog_7_method_31_code 4 = .ok (.ireturn, 1) := by decide +kernel
abbrev T_M_place : List (Nat × ct_PT) := [(0, o_aload 0 1), (1, o_getI 4 24 8)]
set_option maxRecDepth 100000 in
theorem A_M_place (l : ct_Lx) : ct_al l M_M_place (T_M_place) := by
  refine ct_al.cons (so_aload_n d_M_place_0 rfl) ?_
  refine ct_al.cons (so_getI (Cn := "CodeTablesModel") (T := ct_T4) kc_4 (by decide) rfl rfl wd_497 d_M_place_1) ?_
  exact ct_al.nil
theorem e_M_place_0 : ct_tab (T_M_place) 0 = some (o_aload 0 1) := rfl
theorem e_M_place_1 : ct_tab (T_M_place) 1 = some (o_getI 4 24 8) := rfl
theorem d_M_told_0 : decode prog_7_method_32_code 0 = .ok (.aload_n 0, 1) := by decide +kernel
theorem d_M_told_1 : decode prog_7_method_32_code 1 = .ok (.getfield 167, 3) := by decide +kernel
theorem d_M_told_4 : decode prog_7_method_32_code 4 = .ok (.ifCond .eq 13, 3) := by decide +kernel
theorem d_M_told_7 : decode prog_7_method_32_code 7 = .ok (.iload_n 1, 1) := by decide +kernel
theorem d_M_told_8 : decode prog_7_method_32_code 8 = .ok (.ifCond .lt 9, 3) := by decide +kernel
theorem d_M_told_11 : decode prog_7_method_32_code 11 = .ok (.iload_n 1, 1) := by decide +kernel
theorem d_M_told_12 : decode prog_7_method_32_code 12 = .ok (.bipush 6, 2) := by decide +kernel
theorem d_M_told_14 : decode prog_7_method_32_code 14 = .ok (.if_icmp .le 5, 3) := by decide +kernel
theorem d_M_told_17 : decode prog_7_method_32_code 17 = .ok (.iconst (-1), 1) := by decide +kernel
theorem d_M_told_18 : decode prog_7_method_32_code 18 = .ok (.ireturn, 1) := by decide +kernel
theorem d_M_told_19 : decode prog_7_method_32_code 19 = .ok (.iload_n 1, 1) := by decide +kernel
theorem d_M_told_20 : decode prog_7_method_32_code 20 = .ok (.ifCond .ne 11, 3) := by decide +kernel
theorem d_M_told_23 : decode prog_7_method_32_code 23 = .ok (.aload_n 0, 1) := by decide +kernel
theorem d_M_told_24 : decode prog_7_method_32_code 24 = .ok (.iconst 4, 1) := by decide +kernel
theorem d_M_told_25 : decode prog_7_method_32_code 25 = .ok (.invokevirtual 92, 3) := by decide +kernel
theorem d_M_told_28 : decode prog_7_method_32_code 28 = .ok (.goto 67, 3) := by decide +kernel
theorem d_M_told_31 : decode prog_7_method_32_code 31 = .ok (.iload_n 1, 1) := by decide +kernel
theorem d_M_told_32 : decode prog_7_method_32_code 32 = .ok (.iconst 1, 1) := by decide +kernel
theorem d_M_told_33 : decode prog_7_method_32_code 33 = .ok (.if_icmp .ne 10, 3) := by decide +kernel
theorem d_M_told_36 : decode prog_7_method_32_code 36 = .ok (.aload_n 0, 1) := by decide +kernel
theorem d_M_told_37 : decode prog_7_method_32_code 37 = .ok (.getfield 102, 3) := by decide +kernel
theorem d_M_told_40 : decode prog_7_method_32_code 40 = .ok (.goto 55, 3) := by decide +kernel
theorem d_M_told_43 : decode prog_7_method_32_code 43 = .ok (.iload_n 1, 1) := by decide +kernel
theorem d_M_told_44 : decode prog_7_method_32_code 44 = .ok (.iconst 2, 1) := by decide +kernel
theorem d_M_told_45 : decode prog_7_method_32_code 45 = .ok (.if_icmp .ne 10, 3) := by decide +kernel
theorem d_M_told_48 : decode prog_7_method_32_code 48 = .ok (.aload_n 0, 1) := by decide +kernel
theorem d_M_told_49 : decode prog_7_method_32_code 49 = .ok (.getfield 105, 3) := by decide +kernel
theorem d_M_told_52 : decode prog_7_method_32_code 52 = .ok (.goto 43, 3) := by decide +kernel
theorem d_M_told_55 : decode prog_7_method_32_code 55 = .ok (.iload_n 1, 1) := by decide +kernel
theorem d_M_told_56 : decode prog_7_method_32_code 56 = .ok (.iconst 3, 1) := by decide +kernel
theorem d_M_told_57 : decode prog_7_method_32_code 57 = .ok (.if_icmp .ne 10, 3) := by decide +kernel
theorem d_M_told_60 : decode prog_7_method_32_code 60 = .ok (.aload_n 0, 1) := by decide +kernel
theorem d_M_told_61 : decode prog_7_method_32_code 61 = .ok (.getfield 108, 3) := by decide +kernel
theorem d_M_told_64 : decode prog_7_method_32_code 64 = .ok (.goto 31, 3) := by decide +kernel
theorem d_M_told_67 : decode prog_7_method_32_code 67 = .ok (.iload_n 1, 1) := by decide +kernel
theorem d_M_told_68 : decode prog_7_method_32_code 68 = .ok (.iconst 4, 1) := by decide +kernel
theorem d_M_told_69 : decode prog_7_method_32_code 69 = .ok (.if_icmp .ne 10, 3) := by decide +kernel
theorem d_M_told_72 : decode prog_7_method_32_code 72 = .ok (.aload_n 0, 1) := by decide +kernel
theorem d_M_told_73 : decode prog_7_method_32_code 73 = .ok (.getfield 111, 3) := by decide +kernel
theorem d_M_told_76 : decode prog_7_method_32_code 76 = .ok (.goto 19, 3) := by decide +kernel
theorem d_M_told_79 : decode prog_7_method_32_code 79 = .ok (.iload_n 1, 1) := by decide +kernel
theorem d_M_told_80 : decode prog_7_method_32_code 80 = .ok (.iconst 5, 1) := by decide +kernel
theorem d_M_told_81 : decode prog_7_method_32_code 81 = .ok (.if_icmp .ne 10, 3) := by decide +kernel
theorem d_M_told_84 : decode prog_7_method_32_code 84 = .ok (.aload_n 0, 1) := by decide +kernel
theorem d_M_told_85 : decode prog_7_method_32_code 85 = .ok (.getfield 114, 3) := by decide +kernel
theorem d_M_told_88 : decode prog_7_method_32_code 88 = .ok (.goto 7, 3) := by decide +kernel
theorem d_M_told_91 : decode prog_7_method_32_code 91 = .ok (.aload_n 0, 1) := by decide +kernel
theorem d_M_told_92 : decode prog_7_method_32_code 92 = .ok (.getfield 82, 3) := by decide +kernel
theorem d_M_told_95 : decode prog_7_method_32_code 95 = .ok (.ireturn, 1) := by decide +kernel
abbrev T_M_told : List (Nat × ct_PT) := [(0, o_aload 0 1), (1, o_getI 4 24 4), (4, o_if (fun x => x = 0) (fun x => ¬ x = 0) 17), (7, o_iload 1 1), (8, o_if (fun x => x < 0) (fun x => ¬ x < 0) 17), (11, o_iload 1 1), (12, o_push (.int 6) 2), (14, o_ic (fun x y => x ≤ y) (fun x y => ¬ x ≤ y) 19), (17, o_push (.int (-1)) 1), (19, o_iload 1 1), (20, o_if (fun x => ¬ x = 0) (fun x => x = 0) 31), (23, o_aload 0 1), (24, o_push (.int 4) 1), (28, o_goto 95), (31, o_iload 1 1), (32, o_push (.int 1) 1), (33, o_ic (fun x y => ¬ x = y) (fun x y => x = y) 43), (36, o_aload 0 1), (37, o_getI 4 24 9), (40, o_goto 95), (43, o_iload 1 1), (44, o_push (.int 2) 1), (45, o_ic (fun x y => ¬ x = y) (fun x y => x = y) 55), (48, o_aload 0 1), (49, o_getI 4 24 10), (52, o_goto 95), (55, o_iload 1 1), (56, o_push (.int 3) 1), (57, o_ic (fun x y => ¬ x = y) (fun x y => x = y) 67), (60, o_aload 0 1), (61, o_getI 4 24 11), (64, o_goto 95), (67, o_iload 1 1), (68, o_push (.int 4) 1), (69, o_ic (fun x y => ¬ x = y) (fun x y => x = y) 79), (72, o_aload 0 1), (73, o_getI 4 24 12), (76, o_goto 95), (79, o_iload 1 1), (80, o_push (.int 5) 1), (81, o_ic (fun x y => ¬ x = y) (fun x y => x = y) 91), (84, o_aload 0 1), (85, o_getI 4 24 13), (88, o_goto 95), (91, o_aload 0 1), (92, o_getI 4 24 14)]
set_option maxRecDepth 100000 in
theorem A_M_told (l : ct_Lx) : ct_al l M_M_told (T_M_told) := by
  refine ct_al.cons (so_aload_n d_M_told_0 rfl) ?_
  refine ct_al.cons (so_getI (Cn := "CodeTablesModel") (T := ct_T4) kc_4 (by decide) rfl rfl wd_496 d_M_told_1) ?_
  refine ct_al.cons (so_if_eq d_M_told_4 (by decide)) ?_
  refine ct_al.cons (so_iload_n d_M_told_7 rfl) ?_
  refine ct_al.cons (so_if_lt d_M_told_8 (by decide)) ?_
  refine ct_al.cons (so_iload_n d_M_told_11 rfl) ?_
  refine ct_al.cons (so_bipush d_M_told_12 (by decide)) ?_
  refine ct_al.cons (so_ic_le d_M_told_14 (by decide)) ?_
  refine ct_al.cons (so_iconst d_M_told_17 (by decide)) ?_
  refine ct_al.cons (so_iload_n d_M_told_19 rfl) ?_
  refine ct_al.cons (so_if_ne d_M_told_20 (by decide)) ?_
  refine ct_al.cons (so_aload_n d_M_told_23 rfl) ?_
  refine ct_al.cons (so_iconst d_M_told_24 (by decide)) ?_
  refine ct_al.cons (so_goto d_M_told_28 (by decide)) ?_
  refine ct_al.cons (so_iload_n d_M_told_31 rfl) ?_
  refine ct_al.cons (so_iconst d_M_told_32 (by decide)) ?_
  refine ct_al.cons (so_ic_ne d_M_told_33 (by decide)) ?_
  refine ct_al.cons (so_aload_n d_M_told_36 rfl) ?_
  refine ct_al.cons (so_getI (Cn := "CodeTablesModel") (T := ct_T4) kc_4 (by decide) rfl rfl wd_411 d_M_told_37) ?_
  refine ct_al.cons (so_goto d_M_told_40 (by decide)) ?_
  refine ct_al.cons (so_iload_n d_M_told_43 rfl) ?_
  refine ct_al.cons (so_iconst d_M_told_44 (by decide)) ?_
  refine ct_al.cons (so_ic_ne d_M_told_45 (by decide)) ?_
  refine ct_al.cons (so_aload_n d_M_told_48 rfl) ?_
  refine ct_al.cons (so_getI (Cn := "CodeTablesModel") (T := ct_T4) kc_4 (by decide) rfl rfl wd_412 d_M_told_49) ?_
  refine ct_al.cons (so_goto d_M_told_52 (by decide)) ?_
  refine ct_al.cons (so_iload_n d_M_told_55 rfl) ?_
  refine ct_al.cons (so_iconst d_M_told_56 (by decide)) ?_
  refine ct_al.cons (so_ic_ne d_M_told_57 (by decide)) ?_
  refine ct_al.cons (so_aload_n d_M_told_60 rfl) ?_
  refine ct_al.cons (so_getI (Cn := "CodeTablesModel") (T := ct_T4) kc_4 (by decide) rfl rfl wd_413 d_M_told_61) ?_
  refine ct_al.cons (so_goto d_M_told_64 (by decide)) ?_
  refine ct_al.cons (so_iload_n d_M_told_67 rfl) ?_
  refine ct_al.cons (so_iconst d_M_told_68 (by decide)) ?_
  refine ct_al.cons (so_ic_ne d_M_told_69 (by decide)) ?_
  refine ct_al.cons (so_aload_n d_M_told_72 rfl) ?_
  refine ct_al.cons (so_getI (Cn := "CodeTablesModel") (T := ct_T4) kc_4 (by decide) rfl rfl wd_414 d_M_told_73) ?_
  refine ct_al.cons (so_goto d_M_told_76 (by decide)) ?_
  refine ct_al.cons (so_iload_n d_M_told_79 rfl) ?_
  refine ct_al.cons (so_iconst d_M_told_80 (by decide)) ?_
  refine ct_al.cons (so_ic_ne d_M_told_81 (by decide)) ?_
  refine ct_al.cons (so_aload_n d_M_told_84 rfl) ?_
  refine ct_al.cons (so_getI (Cn := "CodeTablesModel") (T := ct_T4) kc_4 (by decide) rfl rfl wd_415 d_M_told_85) ?_
  refine ct_al.cons (so_goto d_M_told_88 (by decide)) ?_
  refine ct_al.cons (so_aload_n d_M_told_91 rfl) ?_
  refine ct_al.cons (so_getI (Cn := "CodeTablesModel") (T := ct_T4) kc_4 (by decide) rfl rfl wd_386 d_M_told_92) ?_
  exact ct_al.nil
theorem e_M_told_0 : ct_tab (T_M_told) 0 = some (o_aload 0 1) := rfl
theorem e_M_told_1 : ct_tab (T_M_told) 1 = some (o_getI 4 24 4) := rfl
theorem e_M_told_4 : ct_tab (T_M_told) 4 = some (o_if (fun x => x = 0) (fun x => ¬ x = 0) 17) := rfl
theorem e_M_told_7 : ct_tab (T_M_told) 7 = some (o_iload 1 1) := rfl
theorem e_M_told_8 : ct_tab (T_M_told) 8 = some (o_if (fun x => x < 0) (fun x => ¬ x < 0) 17) := rfl
theorem e_M_told_11 : ct_tab (T_M_told) 11 = some (o_iload 1 1) := rfl
theorem e_M_told_12 : ct_tab (T_M_told) 12 = some (o_push (.int 6) 2) := rfl
theorem e_M_told_14 : ct_tab (T_M_told) 14 = some (o_ic (fun x y => x ≤ y) (fun x y => ¬ x ≤ y) 19) := rfl
theorem e_M_told_17 : ct_tab (T_M_told) 17 = some (o_push (.int (-1)) 1) := rfl
theorem e_M_told_19 : ct_tab (T_M_told) 19 = some (o_iload 1 1) := rfl
theorem e_M_told_20 : ct_tab (T_M_told) 20 = some (o_if (fun x => ¬ x = 0) (fun x => x = 0) 31) := rfl
theorem e_M_told_23 : ct_tab (T_M_told) 23 = some (o_aload 0 1) := rfl
theorem e_M_told_24 : ct_tab (T_M_told) 24 = some (o_push (.int 4) 1) := rfl
theorem e_M_told_28 : ct_tab (T_M_told) 28 = some (o_goto 95) := rfl
theorem e_M_told_31 : ct_tab (T_M_told) 31 = some (o_iload 1 1) := rfl
theorem e_M_told_32 : ct_tab (T_M_told) 32 = some (o_push (.int 1) 1) := rfl
theorem e_M_told_33 : ct_tab (T_M_told) 33 = some (o_ic (fun x y => ¬ x = y) (fun x y => x = y) 43) := rfl
theorem e_M_told_36 : ct_tab (T_M_told) 36 = some (o_aload 0 1) := rfl
theorem e_M_told_37 : ct_tab (T_M_told) 37 = some (o_getI 4 24 9) := rfl
theorem e_M_told_40 : ct_tab (T_M_told) 40 = some (o_goto 95) := rfl
theorem e_M_told_43 : ct_tab (T_M_told) 43 = some (o_iload 1 1) := rfl
theorem e_M_told_44 : ct_tab (T_M_told) 44 = some (o_push (.int 2) 1) := rfl
theorem e_M_told_45 : ct_tab (T_M_told) 45 = some (o_ic (fun x y => ¬ x = y) (fun x y => x = y) 55) := rfl
theorem e_M_told_48 : ct_tab (T_M_told) 48 = some (o_aload 0 1) := rfl
theorem e_M_told_49 : ct_tab (T_M_told) 49 = some (o_getI 4 24 10) := rfl
theorem e_M_told_52 : ct_tab (T_M_told) 52 = some (o_goto 95) := rfl
theorem e_M_told_55 : ct_tab (T_M_told) 55 = some (o_iload 1 1) := rfl
theorem e_M_told_56 : ct_tab (T_M_told) 56 = some (o_push (.int 3) 1) := rfl
theorem e_M_told_57 : ct_tab (T_M_told) 57 = some (o_ic (fun x y => ¬ x = y) (fun x y => x = y) 67) := rfl
theorem e_M_told_60 : ct_tab (T_M_told) 60 = some (o_aload 0 1) := rfl
theorem e_M_told_61 : ct_tab (T_M_told) 61 = some (o_getI 4 24 11) := rfl
theorem e_M_told_64 : ct_tab (T_M_told) 64 = some (o_goto 95) := rfl
theorem e_M_told_67 : ct_tab (T_M_told) 67 = some (o_iload 1 1) := rfl
theorem e_M_told_68 : ct_tab (T_M_told) 68 = some (o_push (.int 4) 1) := rfl
theorem e_M_told_69 : ct_tab (T_M_told) 69 = some (o_ic (fun x y => ¬ x = y) (fun x y => x = y) 79) := rfl
theorem e_M_told_72 : ct_tab (T_M_told) 72 = some (o_aload 0 1) := rfl
theorem e_M_told_73 : ct_tab (T_M_told) 73 = some (o_getI 4 24 12) := rfl
theorem e_M_told_76 : ct_tab (T_M_told) 76 = some (o_goto 95) := rfl
theorem e_M_told_79 : ct_tab (T_M_told) 79 = some (o_iload 1 1) := rfl
theorem e_M_told_80 : ct_tab (T_M_told) 80 = some (o_push (.int 5) 1) := rfl
theorem e_M_told_81 : ct_tab (T_M_told) 81 = some (o_ic (fun x y => ¬ x = y) (fun x y => x = y) 91) := rfl
theorem e_M_told_84 : ct_tab (T_M_told) 84 = some (o_aload 0 1) := rfl
theorem e_M_told_85 : ct_tab (T_M_told) 85 = some (o_getI 4 24 13) := rfl
theorem e_M_told_88 : ct_tab (T_M_told) 88 = some (o_goto 95) := rfl
theorem e_M_told_91 : ct_tab (T_M_told) 91 = some (o_aload 0 1) := rfl
theorem e_M_told_92 : ct_tab (T_M_told) 92 = some (o_getI 4 24 14) := rfl
theorem cl_M_told_25 {l : ct_Lx} {d d1 : Nat} {Post Post1 : Option Value → ct_Sg → Prop} {lv : ct_Lv} {st : List Value} {g : ct_Sg} {bc bs c1 s1 : Nat} {a1 : Value} {h : Nat} (hsh : g.2.1 h = (10 + 4, 24)) (hM : ct_Me l M_M_shortAt d1 c1 s1 [.ref h, a1] g Post1) (hdd : d1 + 1 ≤ d) (hk : (st.map fun v => v.category).sum ≤ 8) (hcc : c1 ≤ bc) (hss : s1 ≤ bs) (kk : ∀ (v : Option Value) (g' : ct_Sg), Post1 v g' → ct_Wp l M_M_told d Post (28, lv, v.toList ++ st, g', bc - c1, bs - s1)) : ct_Wp l M_M_told d Post (25, lv, a1 :: .ref h :: st, g, bc, bs) := ct_Wp.callV (ci := 4) (N := 24) (T := ct_T4) (As := [a1]) lk_M_shortAt (Or.inl wd_398) wd_399 wd_400 rfl d_M_told_25 hsh hM rfl hdd hk hcc hss kk
theorem d_M_structure_0 : decode prog_7_method_33_code 0 = .ok (.aload_n 0, 1) := by decide +kernel
theorem d_M_structure_1 : decode prog_7_method_33_code 1 = .ok (.getfield 167, 3) := by decide +kernel
theorem d_M_structure_4 : decode prog_7_method_33_code 4 = .ok (.ifCond .eq 29, 3) := by decide +kernel
theorem d_M_structure_7 : decode prog_7_method_33_code 7 = .ok (.iload_n 1, 1) := by decide +kernel
theorem d_M_structure_8 : decode prog_7_method_33_code 8 = .ok (.ifCond .lt 25, 3) := by decide +kernel
theorem d_M_structure_11 : decode prog_7_method_33_code 11 = .ok (.iload_n 1, 1) := by decide +kernel
theorem d_M_structure_12 : decode prog_7_method_33_code 12 = .ok (.aload_n 0, 1) := by decide +kernel
theorem d_M_structure_13 : decode prog_7_method_33_code 13 = .ok (.getfield 102, 3) := by decide +kernel
theorem d_M_structure_16 : decode prog_7_method_33_code 16 = .ok (.aload_n 0, 1) := by decide +kernel
theorem d_M_structure_17 : decode prog_7_method_33_code 17 = .ok (.getfield 105, 3) := by decide +kernel
theorem d_M_structure_20 : decode prog_7_method_33_code 20 = .ok (.iadd, 1) := by decide +kernel
theorem d_M_structure_21 : decode prog_7_method_33_code 21 = .ok (.if_icmp .ge 12, 3) := by decide +kernel
theorem d_M_structure_24 : decode prog_7_method_33_code 24 = .ok (.iload_n 2, 1) := by decide +kernel
theorem d_M_structure_25 : decode prog_7_method_33_code 25 = .ok (.ifCond .lt 8, 3) := by decide +kernel
theorem d_M_structure_28 : decode prog_7_method_33_code 28 = .ok (.iload_n 2, 1) := by decide +kernel
theorem d_M_structure_29 : decode prog_7_method_33_code 29 = .ok (.iconst 3, 1) := by decide +kernel
theorem d_M_structure_30 : decode prog_7_method_33_code 30 = .ok (.if_icmp .le 5, 3) := by decide +kernel
theorem d_M_structure_33 : decode prog_7_method_33_code 33 = .ok (.iconst (-1), 1) := by decide +kernel
theorem d_M_structure_34 : decode prog_7_method_33_code 34 = .ok (.ireturn, 1) := by decide +kernel
theorem d_M_structure_35 : decode prog_7_method_33_code 35 = .ok (.aload_n 0, 1) := by decide +kernel
theorem d_M_structure_36 : decode prog_7_method_33_code 36 = .ok (.getfield 17, 3) := by decide +kernel
theorem d_M_structure_39 : decode prog_7_method_33_code 39 = .ok (.iload_n 1, 1) := by decide +kernel
theorem d_M_structure_40 : decode prog_7_method_33_code 40 = .ok (.iaload, 1) := by decide +kernel
theorem d_M_structure_41 : decode prog_7_method_33_code 41 = .ok (.istore_n 3, 1) := by decide +kernel
theorem d_M_structure_42 : decode prog_7_method_33_code 42 = .ok (.iload_n 1, 1) := by decide +kernel
theorem d_M_structure_43 : decode prog_7_method_33_code 43 = .ok (.aload_n 0, 1) := by decide +kernel
theorem d_M_structure_44 : decode prog_7_method_33_code 44 = .ok (.getfield 102, 3) := by decide +kernel
theorem d_M_structure_47 : decode prog_7_method_33_code 47 = .ok (.if_icmp .ge 32, 3) := by decide +kernel
theorem d_M_structure_50 : decode prog_7_method_33_code 50 = .ok (.iload_n 2, 1) := by decide +kernel
theorem d_M_structure_51 : decode prog_7_method_33_code 51 = .ok (.ifCond .ne 11, 3) := by decide +kernel
theorem d_M_structure_54 : decode prog_7_method_33_code 54 = .ok (.aload_n 0, 1) := by decide +kernel
theorem d_M_structure_55 : decode prog_7_method_33_code 55 = .ok (.iload_n 3, 1) := by decide +kernel
theorem d_M_structure_56 : decode prog_7_method_33_code 56 = .ok (.invokevirtual 56, 3) := by decide +kernel
theorem d_M_structure_59 : decode prog_7_method_33_code 59 = .ok (.goto 19, 3) := by decide +kernel
theorem d_M_structure_62 : decode prog_7_method_33_code 62 = .ok (.iload_n 2, 1) := by decide +kernel
theorem d_M_structure_63 : decode prog_7_method_33_code 63 = .ok (.iconst 1, 1) := by decide +kernel
theorem d_M_structure_64 : decode prog_7_method_33_code 64 = .ok (.if_icmp .ne 13, 3) := by decide +kernel
theorem d_M_structure_67 : decode prog_7_method_33_code 67 = .ok (.aload_n 0, 1) := by decide +kernel
theorem d_M_structure_68 : decode prog_7_method_33_code 68 = .ok (.iload_n 3, 1) := by decide +kernel
theorem d_M_structure_69 : decode prog_7_method_33_code 69 = .ok (.iconst 1, 1) := by decide +kernel
theorem d_M_structure_70 : decode prog_7_method_33_code 70 = .ok (.iadd, 1) := by decide +kernel
theorem d_M_structure_71 : decode prog_7_method_33_code 71 = .ok (.invokevirtual 56, 3) := by decide +kernel
theorem d_M_structure_74 : decode prog_7_method_33_code 74 = .ok (.goto 4, 3) := by decide +kernel
theorem d_M_structure_77 : decode prog_7_method_33_code 77 = .ok (.iconst (-1), 1) := by decide +kernel
theorem d_M_structure_78 : decode prog_7_method_33_code 78 = .ok (.ireturn, 1) := by decide +kernel
theorem d_M_structure_79 : decode prog_7_method_33_code 79 = .ok (.iload_n 2, 1) := by decide +kernel
theorem d_M_structure_80 : decode prog_7_method_33_code 80 = .ok (.ifCond .ne 13, 3) := by decide +kernel
theorem d_M_structure_83 : decode prog_7_method_33_code 83 = .ok (.aload_n 0, 1) := by decide +kernel
theorem d_M_structure_84 : decode prog_7_method_33_code 84 = .ok (.iload_n 3, 1) := by decide +kernel
theorem d_M_structure_85 : decode prog_7_method_33_code 85 = .ok (.iconst 3, 1) := by decide +kernel
theorem d_M_structure_86 : decode prog_7_method_33_code 86 = .ok (.iadd, 1) := by decide +kernel
theorem d_M_structure_87 : decode prog_7_method_33_code 87 = .ok (.invokevirtual 56, 3) := by decide +kernel
theorem d_M_structure_90 : decode prog_7_method_33_code 90 = .ok (.goto 32, 3) := by decide +kernel
theorem d_M_structure_93 : decode prog_7_method_33_code 93 = .ok (.iload_n 2, 1) := by decide +kernel
theorem d_M_structure_94 : decode prog_7_method_33_code 94 = .ok (.iconst 1, 1) := by decide +kernel
theorem d_M_structure_95 : decode prog_7_method_33_code 95 = .ok (.if_icmp .ne 7, 3) := by decide +kernel
theorem d_M_structure_98 : decode prog_7_method_33_code 98 = .ok (.iconst 0, 1) := by decide +kernel
theorem d_M_structure_99 : decode prog_7_method_33_code 99 = .ok (.goto 23, 3) := by decide +kernel
theorem d_M_structure_102 : decode prog_7_method_33_code 102 = .ok (.iload_n 2, 1) := by decide +kernel
theorem d_M_structure_103 : decode prog_7_method_33_code 103 = .ok (.iconst 2, 1) := by decide +kernel
theorem d_M_structure_104 : decode prog_7_method_33_code 104 = .ok (.if_icmp .ne 11, 3) := by decide +kernel
theorem d_M_structure_107 : decode prog_7_method_33_code 107 = .ok (.aload_n 0, 1) := by decide +kernel
theorem d_M_structure_108 : decode prog_7_method_33_code 108 = .ok (.iload_n 3, 1) := by decide +kernel
theorem d_M_structure_109 : decode prog_7_method_33_code 109 = .ok (.invokevirtual 92, 3) := by decide +kernel
theorem d_M_structure_112 : decode prog_7_method_33_code 112 = .ok (.goto 10, 3) := by decide +kernel
theorem d_M_structure_115 : decode prog_7_method_33_code 115 = .ok (.aload_n 0, 1) := by decide +kernel
theorem d_M_structure_116 : decode prog_7_method_33_code 116 = .ok (.iload_n 3, 1) := by decide +kernel
theorem d_M_structure_117 : decode prog_7_method_33_code 117 = .ok (.iconst 2, 1) := by decide +kernel
theorem d_M_structure_118 : decode prog_7_method_33_code 118 = .ok (.iadd, 1) := by decide +kernel
theorem d_M_structure_119 : decode prog_7_method_33_code 119 = .ok (.invokevirtual 56, 3) := by decide +kernel
theorem d_M_structure_122 : decode prog_7_method_33_code 122 = .ok (.ireturn, 1) := by decide +kernel
abbrev T_M_structure : List (Nat × ct_PT) := [(0, o_aload 0 1), (1, o_getI 4 24 4), (4, o_if (fun x => x = 0) (fun x => ¬ x = 0) 33), (7, o_iload 1 1), (8, o_if (fun x => x < 0) (fun x => ¬ x < 0) 33), (11, o_iload 1 1), (12, o_aload 0 1), (13, o_getI 4 24 9), (16, o_aload 0 1), (17, o_getI 4 24 10), (20, o_ii fun x y => x + y), (21, o_ic (fun x y => y ≤ x) (fun x y => ¬ y ≤ x) 33), (24, o_iload 2 1), (25, o_if (fun x => x < 0) (fun x => ¬ x < 0) 33), (28, o_iload 2 1), (29, o_push (.int 3) 1), (30, o_ic (fun x y => x ≤ y) (fun x y => ¬ x ≤ y) 35), (33, o_push (.int (-1)) 1), (35, o_aload 0 1), (36, o_getR 4 24 15), (39, o_iload 1 1), (40, o_iald), (41, o_istore 3 1), (42, o_iload 1 1), (43, o_aload 0 1), (44, o_getI 4 24 9), (47, o_ic (fun x y => y ≤ x) (fun x y => ¬ y ≤ x) 79), (50, o_iload 2 1), (51, o_if (fun x => ¬ x = 0) (fun x => x = 0) 62), (54, o_aload 0 1), (55, o_iload 3 1), (59, o_goto 78), (62, o_iload 2 1), (63, o_push (.int 1) 1), (64, o_ic (fun x y => ¬ x = y) (fun x y => x = y) 77), (67, o_aload 0 1), (68, o_iload 3 1), (69, o_push (.int 1) 1), (70, o_ii fun x y => x + y), (74, o_goto 78), (77, o_push (.int (-1)) 1), (79, o_iload 2 1), (80, o_if (fun x => ¬ x = 0) (fun x => x = 0) 93), (83, o_aload 0 1), (84, o_iload 3 1), (85, o_push (.int 3) 1), (86, o_ii fun x y => x + y), (90, o_goto 122), (93, o_iload 2 1), (94, o_push (.int 1) 1), (95, o_ic (fun x y => ¬ x = y) (fun x y => x = y) 102), (98, o_push (.int 0) 1), (99, o_goto 122), (102, o_iload 2 1), (103, o_push (.int 2) 1), (104, o_ic (fun x y => ¬ x = y) (fun x y => x = y) 115), (107, o_aload 0 1), (108, o_iload 3 1), (112, o_goto 122), (115, o_aload 0 1), (116, o_iload 3 1), (117, o_push (.int 2) 1), (118, o_ii fun x y => x + y)]
set_option maxRecDepth 100000 in
theorem A_M_structure (l : ct_Lx) : ct_al l M_M_structure (T_M_structure) := by
  refine ct_al.cons (so_aload_n d_M_structure_0 rfl) ?_
  refine ct_al.cons (so_getI (Cn := "CodeTablesModel") (T := ct_T4) kc_4 (by decide) rfl rfl wd_496 d_M_structure_1) ?_
  refine ct_al.cons (so_if_eq d_M_structure_4 (by decide)) ?_
  refine ct_al.cons (so_iload_n d_M_structure_7 rfl) ?_
  refine ct_al.cons (so_if_lt d_M_structure_8 (by decide)) ?_
  refine ct_al.cons (so_iload_n d_M_structure_11 rfl) ?_
  refine ct_al.cons (so_aload_n d_M_structure_12 rfl) ?_
  refine ct_al.cons (so_getI (Cn := "CodeTablesModel") (T := ct_T4) kc_4 (by decide) rfl rfl wd_411 d_M_structure_13) ?_
  refine ct_al.cons (so_aload_n d_M_structure_16 rfl) ?_
  refine ct_al.cons (so_getI (Cn := "CodeTablesModel") (T := ct_T4) kc_4 (by decide) rfl rfl wd_412 d_M_structure_17) ?_
  refine ct_al.cons (so_iadd d_M_structure_20) ?_
  refine ct_al.cons (so_ic_ge d_M_structure_21 (by decide)) ?_
  refine ct_al.cons (so_iload_n d_M_structure_24 rfl) ?_
  refine ct_al.cons (so_if_lt d_M_structure_25 (by decide)) ?_
  refine ct_al.cons (so_iload_n d_M_structure_28 rfl) ?_
  refine ct_al.cons (so_iconst d_M_structure_29 (by decide)) ?_
  refine ct_al.cons (so_ic_le d_M_structure_30 (by decide)) ?_
  refine ct_al.cons (so_iconst d_M_structure_33 (by decide)) ?_
  refine ct_al.cons (so_aload_n d_M_structure_35 rfl) ?_
  refine ct_al.cons (so_getR (Cn := "CodeTablesModel") (T := ct_T4) kc_4 (by decide) rfl rfl wd_341 d_M_structure_36) ?_
  refine ct_al.cons (so_iload_n d_M_structure_39 rfl) ?_
  refine ct_al.cons (so_iald d_M_structure_40) ?_
  refine ct_al.cons (so_istore_n d_M_structure_41 rfl (by decide)) ?_
  refine ct_al.cons (so_iload_n d_M_structure_42 rfl) ?_
  refine ct_al.cons (so_aload_n d_M_structure_43 rfl) ?_
  refine ct_al.cons (so_getI (Cn := "CodeTablesModel") (T := ct_T4) kc_4 (by decide) rfl rfl wd_411 d_M_structure_44) ?_
  refine ct_al.cons (so_ic_ge d_M_structure_47 (by decide)) ?_
  refine ct_al.cons (so_iload_n d_M_structure_50 rfl) ?_
  refine ct_al.cons (so_if_ne d_M_structure_51 (by decide)) ?_
  refine ct_al.cons (so_aload_n d_M_structure_54 rfl) ?_
  refine ct_al.cons (so_iload_n d_M_structure_55 rfl) ?_
  refine ct_al.cons (so_goto d_M_structure_59 (by decide)) ?_
  refine ct_al.cons (so_iload_n d_M_structure_62 rfl) ?_
  refine ct_al.cons (so_iconst d_M_structure_63 (by decide)) ?_
  refine ct_al.cons (so_ic_ne d_M_structure_64 (by decide)) ?_
  refine ct_al.cons (so_aload_n d_M_structure_67 rfl) ?_
  refine ct_al.cons (so_iload_n d_M_structure_68 rfl) ?_
  refine ct_al.cons (so_iconst d_M_structure_69 (by decide)) ?_
  refine ct_al.cons (so_iadd d_M_structure_70) ?_
  refine ct_al.cons (so_goto d_M_structure_74 (by decide)) ?_
  refine ct_al.cons (so_iconst d_M_structure_77 (by decide)) ?_
  refine ct_al.cons (so_iload_n d_M_structure_79 rfl) ?_
  refine ct_al.cons (so_if_ne d_M_structure_80 (by decide)) ?_
  refine ct_al.cons (so_aload_n d_M_structure_83 rfl) ?_
  refine ct_al.cons (so_iload_n d_M_structure_84 rfl) ?_
  refine ct_al.cons (so_iconst d_M_structure_85 (by decide)) ?_
  refine ct_al.cons (so_iadd d_M_structure_86) ?_
  refine ct_al.cons (so_goto d_M_structure_90 (by decide)) ?_
  refine ct_al.cons (so_iload_n d_M_structure_93 rfl) ?_
  refine ct_al.cons (so_iconst d_M_structure_94 (by decide)) ?_
  refine ct_al.cons (so_ic_ne d_M_structure_95 (by decide)) ?_
  refine ct_al.cons (so_iconst d_M_structure_98 (by decide)) ?_
  refine ct_al.cons (so_goto d_M_structure_99 (by decide)) ?_
  refine ct_al.cons (so_iload_n d_M_structure_102 rfl) ?_
  refine ct_al.cons (so_iconst d_M_structure_103 (by decide)) ?_
  refine ct_al.cons (so_ic_ne d_M_structure_104 (by decide)) ?_
  refine ct_al.cons (so_aload_n d_M_structure_107 rfl) ?_
  refine ct_al.cons (so_iload_n d_M_structure_108 rfl) ?_
  refine ct_al.cons (so_goto d_M_structure_112 (by decide)) ?_
  refine ct_al.cons (so_aload_n d_M_structure_115 rfl) ?_
  refine ct_al.cons (so_iload_n d_M_structure_116 rfl) ?_
  refine ct_al.cons (so_iconst d_M_structure_117 (by decide)) ?_
  refine ct_al.cons (so_iadd d_M_structure_118) ?_
  exact ct_al.nil
theorem e_M_structure_0 : ct_tab (T_M_structure) 0 = some (o_aload 0 1) := rfl
theorem e_M_structure_1 : ct_tab (T_M_structure) 1 = some (o_getI 4 24 4) := rfl
theorem e_M_structure_4 : ct_tab (T_M_structure) 4 = some (o_if (fun x => x = 0) (fun x => ¬ x = 0) 33) := rfl
theorem e_M_structure_7 : ct_tab (T_M_structure) 7 = some (o_iload 1 1) := rfl
theorem e_M_structure_8 : ct_tab (T_M_structure) 8 = some (o_if (fun x => x < 0) (fun x => ¬ x < 0) 33) := rfl
theorem e_M_structure_11 : ct_tab (T_M_structure) 11 = some (o_iload 1 1) := rfl
theorem e_M_structure_12 : ct_tab (T_M_structure) 12 = some (o_aload 0 1) := rfl
theorem e_M_structure_13 : ct_tab (T_M_structure) 13 = some (o_getI 4 24 9) := rfl
theorem e_M_structure_16 : ct_tab (T_M_structure) 16 = some (o_aload 0 1) := rfl
theorem e_M_structure_17 : ct_tab (T_M_structure) 17 = some (o_getI 4 24 10) := rfl
theorem e_M_structure_20 : ct_tab (T_M_structure) 20 = some (o_ii fun x y => x + y) := rfl
theorem e_M_structure_21 : ct_tab (T_M_structure) 21 = some (o_ic (fun x y => y ≤ x) (fun x y => ¬ y ≤ x) 33) := rfl
theorem e_M_structure_24 : ct_tab (T_M_structure) 24 = some (o_iload 2 1) := rfl
theorem e_M_structure_25 : ct_tab (T_M_structure) 25 = some (o_if (fun x => x < 0) (fun x => ¬ x < 0) 33) := rfl
theorem e_M_structure_28 : ct_tab (T_M_structure) 28 = some (o_iload 2 1) := rfl
theorem e_M_structure_29 : ct_tab (T_M_structure) 29 = some (o_push (.int 3) 1) := rfl
theorem e_M_structure_30 : ct_tab (T_M_structure) 30 = some (o_ic (fun x y => x ≤ y) (fun x y => ¬ x ≤ y) 35) := rfl
theorem e_M_structure_33 : ct_tab (T_M_structure) 33 = some (o_push (.int (-1)) 1) := rfl
theorem e_M_structure_35 : ct_tab (T_M_structure) 35 = some (o_aload 0 1) := rfl
theorem e_M_structure_36 : ct_tab (T_M_structure) 36 = some (o_getR 4 24 15) := rfl
theorem e_M_structure_39 : ct_tab (T_M_structure) 39 = some (o_iload 1 1) := rfl
theorem e_M_structure_40 : ct_tab (T_M_structure) 40 = some (o_iald) := rfl
theorem e_M_structure_41 : ct_tab (T_M_structure) 41 = some (o_istore 3 1) := rfl
theorem e_M_structure_42 : ct_tab (T_M_structure) 42 = some (o_iload 1 1) := rfl
theorem e_M_structure_43 : ct_tab (T_M_structure) 43 = some (o_aload 0 1) := rfl
theorem e_M_structure_44 : ct_tab (T_M_structure) 44 = some (o_getI 4 24 9) := rfl
theorem e_M_structure_47 : ct_tab (T_M_structure) 47 = some (o_ic (fun x y => y ≤ x) (fun x y => ¬ y ≤ x) 79) := rfl
theorem e_M_structure_50 : ct_tab (T_M_structure) 50 = some (o_iload 2 1) := rfl
theorem e_M_structure_51 : ct_tab (T_M_structure) 51 = some (o_if (fun x => ¬ x = 0) (fun x => x = 0) 62) := rfl
theorem e_M_structure_54 : ct_tab (T_M_structure) 54 = some (o_aload 0 1) := rfl
theorem e_M_structure_55 : ct_tab (T_M_structure) 55 = some (o_iload 3 1) := rfl
theorem e_M_structure_59 : ct_tab (T_M_structure) 59 = some (o_goto 78) := rfl
theorem e_M_structure_62 : ct_tab (T_M_structure) 62 = some (o_iload 2 1) := rfl
theorem e_M_structure_63 : ct_tab (T_M_structure) 63 = some (o_push (.int 1) 1) := rfl
theorem e_M_structure_64 : ct_tab (T_M_structure) 64 = some (o_ic (fun x y => ¬ x = y) (fun x y => x = y) 77) := rfl
theorem e_M_structure_67 : ct_tab (T_M_structure) 67 = some (o_aload 0 1) := rfl
theorem e_M_structure_68 : ct_tab (T_M_structure) 68 = some (o_iload 3 1) := rfl
theorem e_M_structure_69 : ct_tab (T_M_structure) 69 = some (o_push (.int 1) 1) := rfl
theorem e_M_structure_70 : ct_tab (T_M_structure) 70 = some (o_ii fun x y => x + y) := rfl
theorem e_M_structure_74 : ct_tab (T_M_structure) 74 = some (o_goto 78) := rfl
theorem e_M_structure_77 : ct_tab (T_M_structure) 77 = some (o_push (.int (-1)) 1) := rfl
theorem e_M_structure_79 : ct_tab (T_M_structure) 79 = some (o_iload 2 1) := rfl
theorem e_M_structure_80 : ct_tab (T_M_structure) 80 = some (o_if (fun x => ¬ x = 0) (fun x => x = 0) 93) := rfl
theorem e_M_structure_83 : ct_tab (T_M_structure) 83 = some (o_aload 0 1) := rfl
theorem e_M_structure_84 : ct_tab (T_M_structure) 84 = some (o_iload 3 1) := rfl
theorem e_M_structure_85 : ct_tab (T_M_structure) 85 = some (o_push (.int 3) 1) := rfl
theorem e_M_structure_86 : ct_tab (T_M_structure) 86 = some (o_ii fun x y => x + y) := rfl
theorem e_M_structure_90 : ct_tab (T_M_structure) 90 = some (o_goto 122) := rfl
theorem e_M_structure_93 : ct_tab (T_M_structure) 93 = some (o_iload 2 1) := rfl
theorem e_M_structure_94 : ct_tab (T_M_structure) 94 = some (o_push (.int 1) 1) := rfl
theorem e_M_structure_95 : ct_tab (T_M_structure) 95 = some (o_ic (fun x y => ¬ x = y) (fun x y => x = y) 102) := rfl
theorem e_M_structure_98 : ct_tab (T_M_structure) 98 = some (o_push (.int 0) 1) := rfl
theorem e_M_structure_99 : ct_tab (T_M_structure) 99 = some (o_goto 122) := rfl
theorem e_M_structure_102 : ct_tab (T_M_structure) 102 = some (o_iload 2 1) := rfl
theorem e_M_structure_103 : ct_tab (T_M_structure) 103 = some (o_push (.int 2) 1) := rfl
theorem e_M_structure_104 : ct_tab (T_M_structure) 104 = some (o_ic (fun x y => ¬ x = y) (fun x y => x = y) 115) := rfl
theorem e_M_structure_107 : ct_tab (T_M_structure) 107 = some (o_aload 0 1) := rfl
theorem e_M_structure_108 : ct_tab (T_M_structure) 108 = some (o_iload 3 1) := rfl
theorem e_M_structure_112 : ct_tab (T_M_structure) 112 = some (o_goto 122) := rfl
theorem e_M_structure_115 : ct_tab (T_M_structure) 115 = some (o_aload 0 1) := rfl
theorem e_M_structure_116 : ct_tab (T_M_structure) 116 = some (o_iload 3 1) := rfl
theorem e_M_structure_117 : ct_tab (T_M_structure) 117 = some (o_push (.int 2) 1) := rfl
theorem e_M_structure_118 : ct_tab (T_M_structure) 118 = some (o_ii fun x y => x + y) := rfl
theorem cl_M_structure_56 {l : ct_Lx} {d d1 : Nat} {Post Post1 : Option Value → ct_Sg → Prop} {lv : ct_Lv} {st : List Value} {g : ct_Sg} {bc bs c1 s1 : Nat} {a1 : Value} {h : Nat} (hsh : g.2.1 h = (10 + 4, 24)) (hM : ct_Me l M_M_byteAt d1 c1 s1 [.ref h, a1] g Post1) (hdd : d1 + 1 ≤ d) (hk : (st.map fun v => v.category).sum ≤ 8) (hcc : c1 ≤ bc) (hss : s1 ≤ bs) (kk : ∀ (v : Option Value) (g' : ct_Sg), Post1 v g' → ct_Wp l M_M_structure d Post (59, lv, v.toList ++ st, g', bc - c1, bs - s1)) : ct_Wp l M_M_structure d Post (56, lv, a1 :: .ref h :: st, g, bc, bs) := ct_Wp.callV (ci := 4) (N := 24) (T := ct_T4) (As := [a1]) lk_M_byteAt (Or.inl wd_357) wd_358 wd_359 rfl d_M_structure_56 hsh hM rfl hdd hk hcc hss kk
theorem cl_M_structure_71 {l : ct_Lx} {d d1 : Nat} {Post Post1 : Option Value → ct_Sg → Prop} {lv : ct_Lv} {st : List Value} {g : ct_Sg} {bc bs c1 s1 : Nat} {a1 : Value} {h : Nat} (hsh : g.2.1 h = (10 + 4, 24)) (hM : ct_Me l M_M_byteAt d1 c1 s1 [.ref h, a1] g Post1) (hdd : d1 + 1 ≤ d) (hk : (st.map fun v => v.category).sum ≤ 8) (hcc : c1 ≤ bc) (hss : s1 ≤ bs) (kk : ∀ (v : Option Value) (g' : ct_Sg), Post1 v g' → ct_Wp l M_M_structure d Post (74, lv, v.toList ++ st, g', bc - c1, bs - s1)) : ct_Wp l M_M_structure d Post (71, lv, a1 :: .ref h :: st, g, bc, bs) := ct_Wp.callV (ci := 4) (N := 24) (T := ct_T4) (As := [a1]) lk_M_byteAt (Or.inl wd_357) wd_358 wd_359 rfl d_M_structure_71 hsh hM rfl hdd hk hcc hss kk
theorem cl_M_structure_87 {l : ct_Lx} {d d1 : Nat} {Post Post1 : Option Value → ct_Sg → Prop} {lv : ct_Lv} {st : List Value} {g : ct_Sg} {bc bs c1 s1 : Nat} {a1 : Value} {h : Nat} (hsh : g.2.1 h = (10 + 4, 24)) (hM : ct_Me l M_M_byteAt d1 c1 s1 [.ref h, a1] g Post1) (hdd : d1 + 1 ≤ d) (hk : (st.map fun v => v.category).sum ≤ 8) (hcc : c1 ≤ bc) (hss : s1 ≤ bs) (kk : ∀ (v : Option Value) (g' : ct_Sg), Post1 v g' → ct_Wp l M_M_structure d Post (90, lv, v.toList ++ st, g', bc - c1, bs - s1)) : ct_Wp l M_M_structure d Post (87, lv, a1 :: .ref h :: st, g, bc, bs) := ct_Wp.callV (ci := 4) (N := 24) (T := ct_T4) (As := [a1]) lk_M_byteAt (Or.inl wd_357) wd_358 wd_359 rfl d_M_structure_87 hsh hM rfl hdd hk hcc hss kk
theorem cl_M_structure_109 {l : ct_Lx} {d d1 : Nat} {Post Post1 : Option Value → ct_Sg → Prop} {lv : ct_Lv} {st : List Value} {g : ct_Sg} {bc bs c1 s1 : Nat} {a1 : Value} {h : Nat} (hsh : g.2.1 h = (10 + 4, 24)) (hM : ct_Me l M_M_shortAt d1 c1 s1 [.ref h, a1] g Post1) (hdd : d1 + 1 ≤ d) (hk : (st.map fun v => v.category).sum ≤ 8) (hcc : c1 ≤ bc) (hss : s1 ≤ bs) (kk : ∀ (v : Option Value) (g' : ct_Sg), Post1 v g' → ct_Wp l M_M_structure d Post (112, lv, v.toList ++ st, g', bc - c1, bs - s1)) : ct_Wp l M_M_structure d Post (109, lv, a1 :: .ref h :: st, g, bc, bs) := ct_Wp.callV (ci := 4) (N := 24) (T := ct_T4) (As := [a1]) lk_M_shortAt (Or.inl wd_398) wd_399 wd_400 rfl d_M_structure_109 hsh hM rfl hdd hk hcc hss kk
theorem cl_M_structure_119 {l : ct_Lx} {d d1 : Nat} {Post Post1 : Option Value → ct_Sg → Prop} {lv : ct_Lv} {st : List Value} {g : ct_Sg} {bc bs c1 s1 : Nat} {a1 : Value} {h : Nat} (hsh : g.2.1 h = (10 + 4, 24)) (hM : ct_Me l M_M_byteAt d1 c1 s1 [.ref h, a1] g Post1) (hdd : d1 + 1 ≤ d) (hk : (st.map fun v => v.category).sum ≤ 8) (hcc : c1 ≤ bc) (hss : s1 ≤ bs) (kk : ∀ (v : Option Value) (g' : ct_Sg), Post1 v g' → ct_Wp l M_M_structure d Post (122, lv, v.toList ++ st, g', bc - c1, bs - s1)) : ct_Wp l M_M_structure d Post (119, lv, a1 :: .ref h :: st, g, bc, bs) := ct_Wp.callV (ci := 4) (N := 24) (T := ct_T4) (As := [a1]) lk_M_byteAt (Or.inl wd_357) wd_358 wd_359 rfl d_M_structure_119 hsh hM rfl hdd hk hcc hss kk
theorem d_M_typeAt_0 : decode prog_7_method_34_code 0 = .ok (.lconst 0, 1) := by decide +kernel
theorem d_M_typeAt_1 : decode prog_7_method_34_code 1 = .ok (.lstore_n 2, 1) := by decide +kernel
theorem d_M_typeAt_2 : decode prog_7_method_34_code 2 = .ok (.iload_n 1, 1) := by decide +kernel
theorem d_M_typeAt_3 : decode prog_7_method_34_code 3 = .ok (.istore 4, 2) := by decide +kernel
theorem d_M_typeAt_5 : decode prog_7_method_34_code 5 = .ok (.iload 4, 2) := by decide +kernel
theorem d_M_typeAt_7 : decode prog_7_method_34_code 7 = .ok (.aload_n 0, 1) := by decide +kernel
theorem d_M_typeAt_8 : decode prog_7_method_34_code 8 = .ok (.iload_n 1, 1) := by decide +kernel
theorem d_M_typeAt_9 : decode prog_7_method_34_code 9 = .ok (.invokevirtual 120, 3) := by decide +kernel
theorem d_M_typeAt_12 : decode prog_7_method_34_code 12 = .ok (.if_icmp .ge 23, 3) := by decide +kernel
theorem d_M_typeAt_15 : decode prog_7_method_34_code 15 = .ok (.ldc2_w 174, 3) := by decide +kernel
theorem d_M_typeAt_18 : decode prog_7_method_34_code 18 = .ok (.lload_n 2, 1) := by decide +kernel
theorem d_M_typeAt_19 : decode prog_7_method_34_code 19 = .ok (.lmul, 1) := by decide +kernel
theorem d_M_typeAt_20 : decode prog_7_method_34_code 20 = .ok (.aload_n 0, 1) := by decide +kernel
theorem d_M_typeAt_21 : decode prog_7_method_34_code 21 = .ok (.iload 4, 2) := by decide +kernel
theorem d_M_typeAt_23 : decode prog_7_method_34_code 23 = .ok (.invokevirtual 56, 3) := by decide +kernel
theorem d_M_typeAt_26 : decode prog_7_method_34_code 26 = .ok (.i2l, 1) := by decide +kernel
theorem d_M_typeAt_27 : decode prog_7_method_34_code 27 = .ok (.ladd, 1) := by decide +kernel
theorem d_M_typeAt_28 : decode prog_7_method_34_code 28 = .ok (.lstore_n 2, 1) := by decide +kernel
theorem d_M_typeAt_29 : decode prog_7_method_34_code 29 = .ok (.iinc 4 1, 3) := by decide +kernel
theorem d_M_typeAt_32 : decode prog_7_method_34_code 32 = .ok (.goto (-27), 3) := by decide +kernel
theorem d_M_typeAt_35 : decode prog_7_method_34_code 35 = .ok (.lload_n 2, 1) := by decide +kernel
theorem d_M_typeAt_36 : decode prog_7_method_34_code 36 = .ok (.lreturn, 1) := by decide +kernel
abbrev T_M_typeAt : List (Nat × ct_PT) := [(0, o_push (.long 0) 1), (1, o_lstore 2 1), (2, o_iload 1 1), (3, o_istore 4 2), (5, o_iload 4 2), (7, o_aload 0 1), (8, o_iload 1 1), (12, o_ic (fun x y => y ≤ x) (fun x y => ¬ y ≤ x) 35), (15, o_push (.long 256) 3), (18, o_lload 2 1), (19, o_ll fun x y => x * y), (20, o_aload 0 1), (21, o_iload 4 2), (26, o_i2l), (27, o_ll fun x y => x + y), (28, o_lstore 2 1), (29, o_iinc 4 1), (32, o_goto 5), (35, o_lload 2 1)]
set_option maxRecDepth 100000 in
theorem A_M_typeAt (l : ct_Lx) : ct_al l M_M_typeAt (T_M_typeAt) := by
  refine ct_al.cons (so_lconst d_M_typeAt_0 (by decide)) ?_
  refine ct_al.cons (so_lstore_n d_M_typeAt_1 rfl (by decide)) ?_
  refine ct_al.cons (so_iload_n d_M_typeAt_2 rfl) ?_
  refine ct_al.cons (so_istore d_M_typeAt_3 (by decide)) ?_
  refine ct_al.cons (so_iload d_M_typeAt_5) ?_
  refine ct_al.cons (so_aload_n d_M_typeAt_7 rfl) ?_
  refine ct_al.cons (so_iload_n d_M_typeAt_8 rfl) ?_
  refine ct_al.cons (so_ic_ge d_M_typeAt_12 (by decide)) ?_
  refine ct_al.cons (so_ldc2 wd_498 d_M_typeAt_15) ?_
  refine ct_al.cons (so_lload_n d_M_typeAt_18 rfl) ?_
  refine ct_al.cons (so_lmul d_M_typeAt_19) ?_
  refine ct_al.cons (so_aload_n d_M_typeAt_20 rfl) ?_
  refine ct_al.cons (so_iload d_M_typeAt_21) ?_
  refine ct_al.cons (so_i2l d_M_typeAt_26) ?_
  refine ct_al.cons (so_ladd d_M_typeAt_27) ?_
  refine ct_al.cons (so_lstore_n d_M_typeAt_28 rfl (by decide)) ?_
  refine ct_al.cons (so_iinc d_M_typeAt_29 (by decide) (by decide)) ?_
  refine ct_al.cons (so_goto d_M_typeAt_32 (by decide)) ?_
  refine ct_al.cons (so_lload_n d_M_typeAt_35 rfl) ?_
  exact ct_al.nil
theorem e_M_typeAt_0 : ct_tab (T_M_typeAt) 0 = some (o_push (.long 0) 1) := rfl
theorem e_M_typeAt_1 : ct_tab (T_M_typeAt) 1 = some (o_lstore 2 1) := rfl
theorem e_M_typeAt_2 : ct_tab (T_M_typeAt) 2 = some (o_iload 1 1) := rfl
theorem e_M_typeAt_3 : ct_tab (T_M_typeAt) 3 = some (o_istore 4 2) := rfl
theorem e_M_typeAt_5 : ct_tab (T_M_typeAt) 5 = some (o_iload 4 2) := rfl
theorem e_M_typeAt_7 : ct_tab (T_M_typeAt) 7 = some (o_aload 0 1) := rfl
theorem e_M_typeAt_8 : ct_tab (T_M_typeAt) 8 = some (o_iload 1 1) := rfl
theorem e_M_typeAt_12 : ct_tab (T_M_typeAt) 12 = some (o_ic (fun x y => y ≤ x) (fun x y => ¬ y ≤ x) 35) := rfl
theorem e_M_typeAt_15 : ct_tab (T_M_typeAt) 15 = some (o_push (.long 256) 3) := rfl
theorem e_M_typeAt_18 : ct_tab (T_M_typeAt) 18 = some (o_lload 2 1) := rfl
theorem e_M_typeAt_19 : ct_tab (T_M_typeAt) 19 = some (o_ll fun x y => x * y) := rfl
theorem e_M_typeAt_20 : ct_tab (T_M_typeAt) 20 = some (o_aload 0 1) := rfl
theorem e_M_typeAt_21 : ct_tab (T_M_typeAt) 21 = some (o_iload 4 2) := rfl
theorem e_M_typeAt_26 : ct_tab (T_M_typeAt) 26 = some (o_i2l) := rfl
theorem e_M_typeAt_27 : ct_tab (T_M_typeAt) 27 = some (o_ll fun x y => x + y) := rfl
theorem e_M_typeAt_28 : ct_tab (T_M_typeAt) 28 = some (o_lstore 2 1) := rfl
theorem e_M_typeAt_29 : ct_tab (T_M_typeAt) 29 = some (o_iinc 4 1) := rfl
theorem e_M_typeAt_32 : ct_tab (T_M_typeAt) 32 = some (o_goto 5) := rfl
theorem e_M_typeAt_35 : ct_tab (T_M_typeAt) 35 = some (o_lload 2 1) := rfl
theorem cl_M_typeAt_9 {l : ct_Lx} {d d1 : Nat} {Post Post1 : Option Value → ct_Sg → Prop} {lv : ct_Lv} {st : List Value} {g : ct_Sg} {bc bs c1 s1 : Nat} {a1 : Value} {h : Nat} (hsh : g.2.1 h = (10 + 4, 24)) (hM : ct_Me l M_M_typeEnd d1 c1 s1 [.ref h, a1] g Post1) (hdd : d1 + 1 ≤ d) (hk : (st.map fun v => v.category).sum ≤ 8) (hcc : c1 ≤ bc) (hss : s1 ≤ bs) (kk : ∀ (v : Option Value) (g' : ct_Sg), Post1 v g' → ct_Wp l M_M_typeAt d Post (12, lv, v.toList ++ st, g', bc - c1, bs - s1)) : ct_Wp l M_M_typeAt d Post (9, lv, a1 :: .ref h :: st, g, bc, bs) := ct_Wp.callV (ci := 4) (N := 24) (T := ct_T4) (As := [a1]) lk_M_typeEnd (Or.inl wd_423) wd_424 wd_425 rfl d_M_typeAt_9 hsh hM rfl hdd hk hcc hss kk
theorem cl_M_typeAt_23 {l : ct_Lx} {d d1 : Nat} {Post Post1 : Option Value → ct_Sg → Prop} {lv : ct_Lv} {st : List Value} {g : ct_Sg} {bc bs c1 s1 : Nat} {a1 : Value} {h : Nat} (hsh : g.2.1 h = (10 + 4, 24)) (hM : ct_Me l M_M_byteAt d1 c1 s1 [.ref h, a1] g Post1) (hdd : d1 + 1 ≤ d) (hk : (st.map fun v => v.category).sum ≤ 8) (hcc : c1 ≤ bc) (hss : s1 ≤ bs) (kk : ∀ (v : Option Value) (g' : ct_Sg), Post1 v g' → ct_Wp l M_M_typeAt d Post (26, lv, v.toList ++ st, g', bc - c1, bs - s1)) : ct_Wp l M_M_typeAt d Post (23, lv, a1 :: .ref h :: st, g, bc, bs) := ct_Wp.callV (ci := 4) (N := 24) (T := ct_T4) (As := [a1]) lk_M_byteAt (Or.inl wd_357) wd_358 wd_359 rfl d_M_typeAt_23 hsh hM rfl hdd hk hcc hss kk
theorem d_M_field_0 : decode prog_7_method_35_code 0 = .ok (.aload_n 0, 1) := by decide +kernel
theorem d_M_field_1 : decode prog_7_method_35_code 1 = .ok (.getfield 167, 3) := by decide +kernel
theorem d_M_field_4 : decode prog_7_method_35_code 4 = .ok (.ifCond .eq 28, 3) := by decide +kernel
theorem d_M_field_7 : decode prog_7_method_35_code 7 = .ok (.iload_n 1, 1) := by decide +kernel
theorem d_M_field_8 : decode prog_7_method_35_code 8 = .ok (.ifCond .lt 24, 3) := by decide +kernel
theorem d_M_field_11 : decode prog_7_method_35_code 11 = .ok (.iload_n 1, 1) := by decide +kernel
theorem d_M_field_12 : decode prog_7_method_35_code 12 = .ok (.aload_n 0, 1) := by decide +kernel
theorem d_M_field_13 : decode prog_7_method_35_code 13 = .ok (.getfield 102, 3) := by decide +kernel
theorem d_M_field_16 : decode prog_7_method_35_code 16 = .ok (.if_icmp .ge 16, 3) := by decide +kernel
theorem d_M_field_19 : decode prog_7_method_35_code 19 = .ok (.iload_n 2, 1) := by decide +kernel
theorem d_M_field_20 : decode prog_7_method_35_code 20 = .ok (.ifCond .lt 12, 3) := by decide +kernel
theorem d_M_field_23 : decode prog_7_method_35_code 23 = .ok (.iload_n 2, 1) := by decide +kernel
theorem d_M_field_24 : decode prog_7_method_35_code 24 = .ok (.aload_n 0, 1) := by decide +kernel
theorem d_M_field_25 : decode prog_7_method_35_code 25 = .ok (.iload_n 1, 1) := by decide +kernel
theorem d_M_field_26 : decode prog_7_method_35_code 26 = .ok (.invokevirtual 133, 3) := by decide +kernel
theorem d_M_field_29 : decode prog_7_method_35_code 29 = .ok (.if_icmp .lt 5, 3) := by decide +kernel
theorem d_M_field_32 : decode prog_7_method_35_code 32 = .ok (.lconst 0, 1) := by decide +kernel
theorem d_M_field_33 : decode prog_7_method_35_code 33 = .ok (.lreturn, 1) := by decide +kernel
theorem d_M_field_34 : decode prog_7_method_35_code 34 = .ok (.aload_n 0, 1) := by decide +kernel
theorem d_M_field_35 : decode prog_7_method_35_code 35 = .ok (.getfield 17, 3) := by decide +kernel
theorem d_M_field_38 : decode prog_7_method_35_code 38 = .ok (.iload_n 1, 1) := by decide +kernel
theorem d_M_field_39 : decode prog_7_method_35_code 39 = .ok (.iaload, 1) := by decide +kernel
theorem d_M_field_40 : decode prog_7_method_35_code 40 = .ok (.iconst 2, 1) := by decide +kernel
theorem d_M_field_41 : decode prog_7_method_35_code 41 = .ok (.iadd, 1) := by decide +kernel
theorem d_M_field_42 : decode prog_7_method_35_code 42 = .ok (.istore_n 3, 1) := by decide +kernel
theorem d_M_field_43 : decode prog_7_method_35_code 43 = .ok (.iconst 0, 1) := by decide +kernel
theorem d_M_field_44 : decode prog_7_method_35_code 44 = .ok (.istore 4, 2) := by decide +kernel
theorem d_M_field_46 : decode prog_7_method_35_code 46 = .ok (.iload 4, 2) := by decide +kernel
theorem d_M_field_48 : decode prog_7_method_35_code 48 = .ok (.iload_n 2, 1) := by decide +kernel
theorem d_M_field_49 : decode prog_7_method_35_code 49 = .ok (.if_icmp .ge 15, 3) := by decide +kernel
theorem d_M_field_52 : decode prog_7_method_35_code 52 = .ok (.aload_n 0, 1) := by decide +kernel
theorem d_M_field_53 : decode prog_7_method_35_code 53 = .ok (.iload_n 3, 1) := by decide +kernel
theorem d_M_field_54 : decode prog_7_method_35_code 54 = .ok (.invokevirtual 120, 3) := by decide +kernel
theorem d_M_field_57 : decode prog_7_method_35_code 57 = .ok (.istore_n 3, 1) := by decide +kernel
theorem d_M_field_58 : decode prog_7_method_35_code 58 = .ok (.iinc 4 1, 3) := by decide +kernel
theorem d_M_field_61 : decode prog_7_method_35_code 61 = .ok (.goto (-15), 3) := by decide +kernel
theorem d_M_field_64 : decode prog_7_method_35_code 64 = .ok (.aload_n 0, 1) := by decide +kernel
theorem d_M_field_65 : decode prog_7_method_35_code 65 = .ok (.iload_n 3, 1) := by decide +kernel
theorem d_M_field_66 : decode prog_7_method_35_code 66 = .ok (.invokevirtual 176, 3) := by decide +kernel
theorem d_M_field_69 : decode prog_7_method_35_code 69 = .ok (.lreturn, 1) := by decide +kernel
abbrev T_M_field : List (Nat × ct_PT) := [(0, o_aload 0 1), (1, o_getI 4 24 4), (4, o_if (fun x => x = 0) (fun x => ¬ x = 0) 32), (7, o_iload 1 1), (8, o_if (fun x => x < 0) (fun x => ¬ x < 0) 32), (11, o_iload 1 1), (12, o_aload 0 1), (13, o_getI 4 24 9), (16, o_ic (fun x y => y ≤ x) (fun x y => ¬ y ≤ x) 32), (19, o_iload 2 1), (20, o_if (fun x => x < 0) (fun x => ¬ x < 0) 32), (23, o_iload 2 1), (24, o_aload 0 1), (25, o_iload 1 1), (29, o_ic (fun x y => x < y) (fun x y => ¬ x < y) 34), (32, o_push (.long 0) 1), (34, o_aload 0 1), (35, o_getR 4 24 15), (38, o_iload 1 1), (39, o_iald), (40, o_push (.int 2) 1), (41, o_ii fun x y => x + y), (42, o_istore 3 1), (43, o_push (.int 0) 1), (44, o_istore 4 2), (46, o_iload 4 2), (48, o_iload 2 1), (49, o_ic (fun x y => y ≤ x) (fun x y => ¬ y ≤ x) 64), (52, o_aload 0 1), (53, o_iload 3 1), (57, o_istore 3 1), (58, o_iinc 4 1), (61, o_goto 46), (64, o_aload 0 1), (65, o_iload 3 1)]
set_option maxRecDepth 100000 in
theorem A_M_field (l : ct_Lx) : ct_al l M_M_field (T_M_field) := by
  refine ct_al.cons (so_aload_n d_M_field_0 rfl) ?_
  refine ct_al.cons (so_getI (Cn := "CodeTablesModel") (T := ct_T4) kc_4 (by decide) rfl rfl wd_496 d_M_field_1) ?_
  refine ct_al.cons (so_if_eq d_M_field_4 (by decide)) ?_
  refine ct_al.cons (so_iload_n d_M_field_7 rfl) ?_
  refine ct_al.cons (so_if_lt d_M_field_8 (by decide)) ?_
  refine ct_al.cons (so_iload_n d_M_field_11 rfl) ?_
  refine ct_al.cons (so_aload_n d_M_field_12 rfl) ?_
  refine ct_al.cons (so_getI (Cn := "CodeTablesModel") (T := ct_T4) kc_4 (by decide) rfl rfl wd_411 d_M_field_13) ?_
  refine ct_al.cons (so_ic_ge d_M_field_16 (by decide)) ?_
  refine ct_al.cons (so_iload_n d_M_field_19 rfl) ?_
  refine ct_al.cons (so_if_lt d_M_field_20 (by decide)) ?_
  refine ct_al.cons (so_iload_n d_M_field_23 rfl) ?_
  refine ct_al.cons (so_aload_n d_M_field_24 rfl) ?_
  refine ct_al.cons (so_iload_n d_M_field_25 rfl) ?_
  refine ct_al.cons (so_ic_lt d_M_field_29 (by decide)) ?_
  refine ct_al.cons (so_lconst d_M_field_32 (by decide)) ?_
  refine ct_al.cons (so_aload_n d_M_field_34 rfl) ?_
  refine ct_al.cons (so_getR (Cn := "CodeTablesModel") (T := ct_T4) kc_4 (by decide) rfl rfl wd_341 d_M_field_35) ?_
  refine ct_al.cons (so_iload_n d_M_field_38 rfl) ?_
  refine ct_al.cons (so_iald d_M_field_39) ?_
  refine ct_al.cons (so_iconst d_M_field_40 (by decide)) ?_
  refine ct_al.cons (so_iadd d_M_field_41) ?_
  refine ct_al.cons (so_istore_n d_M_field_42 rfl (by decide)) ?_
  refine ct_al.cons (so_iconst d_M_field_43 (by decide)) ?_
  refine ct_al.cons (so_istore d_M_field_44 (by decide)) ?_
  refine ct_al.cons (so_iload d_M_field_46) ?_
  refine ct_al.cons (so_iload_n d_M_field_48 rfl) ?_
  refine ct_al.cons (so_ic_ge d_M_field_49 (by decide)) ?_
  refine ct_al.cons (so_aload_n d_M_field_52 rfl) ?_
  refine ct_al.cons (so_iload_n d_M_field_53 rfl) ?_
  refine ct_al.cons (so_istore_n d_M_field_57 rfl (by decide)) ?_
  refine ct_al.cons (so_iinc d_M_field_58 (by decide) (by decide)) ?_
  refine ct_al.cons (so_goto d_M_field_61 (by decide)) ?_
  refine ct_al.cons (so_aload_n d_M_field_64 rfl) ?_
  refine ct_al.cons (so_iload_n d_M_field_65 rfl) ?_
  exact ct_al.nil
theorem e_M_field_0 : ct_tab (T_M_field) 0 = some (o_aload 0 1) := rfl
theorem e_M_field_1 : ct_tab (T_M_field) 1 = some (o_getI 4 24 4) := rfl
theorem e_M_field_4 : ct_tab (T_M_field) 4 = some (o_if (fun x => x = 0) (fun x => ¬ x = 0) 32) := rfl
theorem e_M_field_7 : ct_tab (T_M_field) 7 = some (o_iload 1 1) := rfl
theorem e_M_field_8 : ct_tab (T_M_field) 8 = some (o_if (fun x => x < 0) (fun x => ¬ x < 0) 32) := rfl
theorem e_M_field_11 : ct_tab (T_M_field) 11 = some (o_iload 1 1) := rfl
theorem e_M_field_12 : ct_tab (T_M_field) 12 = some (o_aload 0 1) := rfl
theorem e_M_field_13 : ct_tab (T_M_field) 13 = some (o_getI 4 24 9) := rfl
theorem e_M_field_16 : ct_tab (T_M_field) 16 = some (o_ic (fun x y => y ≤ x) (fun x y => ¬ y ≤ x) 32) := rfl
theorem e_M_field_19 : ct_tab (T_M_field) 19 = some (o_iload 2 1) := rfl
theorem e_M_field_20 : ct_tab (T_M_field) 20 = some (o_if (fun x => x < 0) (fun x => ¬ x < 0) 32) := rfl
theorem e_M_field_23 : ct_tab (T_M_field) 23 = some (o_iload 2 1) := rfl
theorem e_M_field_24 : ct_tab (T_M_field) 24 = some (o_aload 0 1) := rfl
theorem e_M_field_25 : ct_tab (T_M_field) 25 = some (o_iload 1 1) := rfl
theorem e_M_field_29 : ct_tab (T_M_field) 29 = some (o_ic (fun x y => x < y) (fun x y => ¬ x < y) 34) := rfl
theorem e_M_field_32 : ct_tab (T_M_field) 32 = some (o_push (.long 0) 1) := rfl
theorem e_M_field_34 : ct_tab (T_M_field) 34 = some (o_aload 0 1) := rfl
theorem e_M_field_35 : ct_tab (T_M_field) 35 = some (o_getR 4 24 15) := rfl
theorem e_M_field_38 : ct_tab (T_M_field) 38 = some (o_iload 1 1) := rfl
theorem e_M_field_39 : ct_tab (T_M_field) 39 = some (o_iald) := rfl
theorem e_M_field_40 : ct_tab (T_M_field) 40 = some (o_push (.int 2) 1) := rfl
theorem e_M_field_41 : ct_tab (T_M_field) 41 = some (o_ii fun x y => x + y) := rfl
theorem e_M_field_42 : ct_tab (T_M_field) 42 = some (o_istore 3 1) := rfl
theorem e_M_field_43 : ct_tab (T_M_field) 43 = some (o_push (.int 0) 1) := rfl
theorem e_M_field_44 : ct_tab (T_M_field) 44 = some (o_istore 4 2) := rfl
theorem e_M_field_46 : ct_tab (T_M_field) 46 = some (o_iload 4 2) := rfl
theorem e_M_field_48 : ct_tab (T_M_field) 48 = some (o_iload 2 1) := rfl
theorem e_M_field_49 : ct_tab (T_M_field) 49 = some (o_ic (fun x y => y ≤ x) (fun x y => ¬ y ≤ x) 64) := rfl
theorem e_M_field_52 : ct_tab (T_M_field) 52 = some (o_aload 0 1) := rfl
theorem e_M_field_53 : ct_tab (T_M_field) 53 = some (o_iload 3 1) := rfl
theorem e_M_field_57 : ct_tab (T_M_field) 57 = some (o_istore 3 1) := rfl
theorem e_M_field_58 : ct_tab (T_M_field) 58 = some (o_iinc 4 1) := rfl
theorem e_M_field_61 : ct_tab (T_M_field) 61 = some (o_goto 46) := rfl
theorem e_M_field_64 : ct_tab (T_M_field) 64 = some (o_aload 0 1) := rfl
theorem e_M_field_65 : ct_tab (T_M_field) 65 = some (o_iload 3 1) := rfl
theorem cl_M_field_26 {l : ct_Lx} {d d1 : Nat} {Post Post1 : Option Value → ct_Sg → Prop} {lv : ct_Lv} {st : List Value} {g : ct_Sg} {bc bs c1 s1 : Nat} {a1 : Value} {h : Nat} (hsh : g.2.1 h = (10 + 4, 24)) (hM : ct_Me l M_M_fieldsOf d1 c1 s1 [.ref h, a1] g Post1) (hdd : d1 + 1 ≤ d) (hk : (st.map fun v => v.category).sum ≤ 8) (hcc : c1 ≤ bc) (hss : s1 ≤ bs) (kk : ∀ (v : Option Value) (g' : ct_Sg), Post1 v g' → ct_Wp l M_M_field d Post (29, lv, v.toList ++ st, g', bc - c1, bs - s1)) : ct_Wp l M_M_field d Post (26, lv, a1 :: .ref h :: st, g, bc, bs) := ct_Wp.callV (ci := 4) (N := 24) (T := ct_T4) (As := [a1]) lk_M_fieldsOf (Or.inl wd_443) wd_444 wd_445 rfl d_M_field_26 hsh hM rfl hdd hk hcc hss kk
theorem cl_M_field_54 {l : ct_Lx} {d d1 : Nat} {Post Post1 : Option Value → ct_Sg → Prop} {lv : ct_Lv} {st : List Value} {g : ct_Sg} {bc bs c1 s1 : Nat} {a1 : Value} {h : Nat} (hsh : g.2.1 h = (10 + 4, 24)) (hM : ct_Me l M_M_typeEnd d1 c1 s1 [.ref h, a1] g Post1) (hdd : d1 + 1 ≤ d) (hk : (st.map fun v => v.category).sum ≤ 8) (hcc : c1 ≤ bc) (hss : s1 ≤ bs) (kk : ∀ (v : Option Value) (g' : ct_Sg), Post1 v g' → ct_Wp l M_M_field d Post (57, lv, v.toList ++ st, g', bc - c1, bs - s1)) : ct_Wp l M_M_field d Post (54, lv, a1 :: .ref h :: st, g, bc, bs) := ct_Wp.callV (ci := 4) (N := 24) (T := ct_T4) (As := [a1]) lk_M_typeEnd (Or.inl wd_423) wd_424 wd_425 rfl d_M_field_54 hsh hM rfl hdd hk hcc hss kk
theorem cl_M_field_66 {l : ct_Lx} {d d1 : Nat} {Post Post1 : Option Value → ct_Sg → Prop} {lv : ct_Lv} {st : List Value} {g : ct_Sg} {bc bs c1 s1 : Nat} {a1 : Value} {h : Nat} (hsh : g.2.1 h = (10 + 4, 24)) (hM : ct_Me l M_M_typeAt d1 c1 s1 [.ref h, a1] g Post1) (hdd : d1 + 1 ≤ d) (hk : (st.map fun v => v.category).sum ≤ 8) (hcc : c1 ≤ bc) (hss : s1 ≤ bs) (kk : ∀ (v : Option Value) (g' : ct_Sg), Post1 v g' → ct_Wp l M_M_field d Post (69, lv, v.toList ++ st, g', bc - c1, bs - s1)) : ct_Wp l M_M_field d Post (66, lv, a1 :: .ref h :: st, g, bc, bs) := ct_Wp.callV (ci := 4) (N := 24) (T := ct_T4) (As := [a1]) lk_M_typeAt (Or.inl wd_501) wd_502 wd_503 rfl d_M_field_66 hsh hM rfl hdd hk hcc hss kk
theorem d_M_isFunction_0 : decode prog_7_method_36_code 0 = .ok (.aload_n 0, 1) := by decide +kernel
theorem d_M_isFunction_1 : decode prog_7_method_36_code 1 = .ok (.getfield 167, 3) := by decide +kernel
theorem d_M_isFunction_4 : decode prog_7_method_36_code 4 = .ok (.ifCond .eq 24, 3) := by decide +kernel
theorem d_M_isFunction_7 : decode prog_7_method_36_code 7 = .ok (.iload_n 1, 1) := by decide +kernel
theorem d_M_isFunction_8 : decode prog_7_method_36_code 8 = .ok (.ifCond .lt 20, 3) := by decide +kernel
theorem d_M_isFunction_11 : decode prog_7_method_36_code 11 = .ok (.iload_n 1, 1) := by decide +kernel
theorem d_M_isFunction_12 : decode prog_7_method_36_code 12 = .ok (.aload_n 0, 1) := by decide +kernel
theorem d_M_isFunction_13 : decode prog_7_method_36_code 13 = .ok (.getfield 114, 3) := by decide +kernel
theorem d_M_isFunction_16 : decode prog_7_method_36_code 16 = .ok (.aload_n 0, 1) := by decide +kernel
theorem d_M_isFunction_17 : decode prog_7_method_36_code 17 = .ok (.getfield 108, 3) := by decide +kernel
theorem d_M_isFunction_20 : decode prog_7_method_36_code 20 = .ok (.iadd, 1) := by decide +kernel
theorem d_M_isFunction_21 : decode prog_7_method_36_code 21 = .ok (.if_icmp .ge 7, 3) := by decide +kernel
theorem d_M_isFunction_24 : decode prog_7_method_36_code 24 = .ok (.iconst 1, 1) := by decide +kernel
theorem d_M_isFunction_25 : decode prog_7_method_36_code 25 = .ok (.goto 4, 3) := by decide +kernel
theorem d_M_isFunction_28 : decode prog_7_method_36_code 28 = .ok (.iconst 0, 1) := by decide +kernel
theorem d_M_isFunction_29 : decode prog_7_method_36_code 29 = .ok (.ireturn, 1) := by decide +kernel
abbrev T_M_isFunction : List (Nat × ct_PT) := [(0, o_aload 0 1), (1, o_getI 4 24 4), (4, o_if (fun x => x = 0) (fun x => ¬ x = 0) 28), (7, o_iload 1 1), (8, o_if (fun x => x < 0) (fun x => ¬ x < 0) 28), (11, o_iload 1 1), (12, o_aload 0 1), (13, o_getI 4 24 13), (16, o_aload 0 1), (17, o_getI 4 24 11), (20, o_ii fun x y => x + y), (21, o_ic (fun x y => y ≤ x) (fun x y => ¬ y ≤ x) 28), (24, o_push (.int 1) 1), (25, o_goto 29), (28, o_push (.int 0) 1)]
set_option maxRecDepth 100000 in
theorem A_M_isFunction (l : ct_Lx) : ct_al l M_M_isFunction (T_M_isFunction) := by
  refine ct_al.cons (so_aload_n d_M_isFunction_0 rfl) ?_
  refine ct_al.cons (so_getI (Cn := "CodeTablesModel") (T := ct_T4) kc_4 (by decide) rfl rfl wd_496 d_M_isFunction_1) ?_
  refine ct_al.cons (so_if_eq d_M_isFunction_4 (by decide)) ?_
  refine ct_al.cons (so_iload_n d_M_isFunction_7 rfl) ?_
  refine ct_al.cons (so_if_lt d_M_isFunction_8 (by decide)) ?_
  refine ct_al.cons (so_iload_n d_M_isFunction_11 rfl) ?_
  refine ct_al.cons (so_aload_n d_M_isFunction_12 rfl) ?_
  refine ct_al.cons (so_getI (Cn := "CodeTablesModel") (T := ct_T4) kc_4 (by decide) rfl rfl wd_415 d_M_isFunction_13) ?_
  refine ct_al.cons (so_aload_n d_M_isFunction_16 rfl) ?_
  refine ct_al.cons (so_getI (Cn := "CodeTablesModel") (T := ct_T4) kc_4 (by decide) rfl rfl wd_413 d_M_isFunction_17) ?_
  refine ct_al.cons (so_iadd d_M_isFunction_20) ?_
  refine ct_al.cons (so_ic_ge d_M_isFunction_21 (by decide)) ?_
  refine ct_al.cons (so_iconst d_M_isFunction_24 (by decide)) ?_
  refine ct_al.cons (so_goto d_M_isFunction_25 (by decide)) ?_
  refine ct_al.cons (so_iconst d_M_isFunction_28 (by decide)) ?_
  exact ct_al.nil
theorem e_M_isFunction_0 : ct_tab (T_M_isFunction) 0 = some (o_aload 0 1) := rfl
theorem e_M_isFunction_1 : ct_tab (T_M_isFunction) 1 = some (o_getI 4 24 4) := rfl
theorem e_M_isFunction_4 : ct_tab (T_M_isFunction) 4 = some (o_if (fun x => x = 0) (fun x => ¬ x = 0) 28) := rfl
theorem e_M_isFunction_7 : ct_tab (T_M_isFunction) 7 = some (o_iload 1 1) := rfl
theorem e_M_isFunction_8 : ct_tab (T_M_isFunction) 8 = some (o_if (fun x => x < 0) (fun x => ¬ x < 0) 28) := rfl
theorem e_M_isFunction_11 : ct_tab (T_M_isFunction) 11 = some (o_iload 1 1) := rfl
theorem e_M_isFunction_12 : ct_tab (T_M_isFunction) 12 = some (o_aload 0 1) := rfl
theorem e_M_isFunction_13 : ct_tab (T_M_isFunction) 13 = some (o_getI 4 24 13) := rfl
theorem e_M_isFunction_16 : ct_tab (T_M_isFunction) 16 = some (o_aload 0 1) := rfl
theorem e_M_isFunction_17 : ct_tab (T_M_isFunction) 17 = some (o_getI 4 24 11) := rfl
theorem e_M_isFunction_20 : ct_tab (T_M_isFunction) 20 = some (o_ii fun x y => x + y) := rfl
theorem e_M_isFunction_21 : ct_tab (T_M_isFunction) 21 = some (o_ic (fun x y => y ≤ x) (fun x y => ¬ y ≤ x) 28) := rfl
theorem e_M_isFunction_24 : ct_tab (T_M_isFunction) 24 = some (o_push (.int 1) 1) := rfl
theorem e_M_isFunction_25 : ct_tab (T_M_isFunction) 25 = some (o_goto 29) := rfl
theorem e_M_isFunction_28 : ct_tab (T_M_isFunction) 28 = some (o_push (.int 0) 1) := rfl
theorem d_M_function_0 : decode prog_7_method_37_code 0 = .ok (.aload_n 0, 1) := by decide +kernel
theorem d_M_function_1 : decode prog_7_method_37_code 1 = .ok (.iload_n 1, 1) := by decide +kernel
theorem d_M_function_2 : decode prog_7_method_37_code 2 = .ok (.invokevirtual 180, 3) := by decide +kernel
theorem d_M_function_5 : decode prog_7_method_37_code 5 = .ok (.ifCond .eq 13, 3) := by decide +kernel
theorem d_M_function_8 : decode prog_7_method_37_code 8 = .ok (.iload_n 2, 1) := by decide +kernel
theorem d_M_function_9 : decode prog_7_method_37_code 9 = .ok (.ifCond .lt 9, 3) := by decide +kernel
theorem d_M_function_12 : decode prog_7_method_37_code 12 = .ok (.iload_n 2, 1) := by decide +kernel
theorem d_M_function_13 : decode prog_7_method_37_code 13 = .ok (.bipush 6, 2) := by decide +kernel
theorem d_M_function_15 : decode prog_7_method_37_code 15 = .ok (.if_icmp .le 5, 3) := by decide +kernel
theorem d_M_function_18 : decode prog_7_method_37_code 18 = .ok (.iconst (-1), 1) := by decide +kernel
theorem d_M_function_19 : decode prog_7_method_37_code 19 = .ok (.ireturn, 1) := by decide +kernel
theorem d_M_function_20 : decode prog_7_method_37_code 20 = .ok (.iload_n 1, 1) := by decide +kernel
theorem d_M_function_21 : decode prog_7_method_37_code 21 = .ok (.aload_n 0, 1) := by decide +kernel
theorem d_M_function_22 : decode prog_7_method_37_code 22 = .ok (.getfield 114, 3) := by decide +kernel
theorem d_M_function_25 : decode prog_7_method_37_code 25 = .ok (.if_icmp .lt 93, 3) := by decide +kernel
theorem d_M_function_28 : decode prog_7_method_37_code 28 = .ok (.aload_n 0, 1) := by decide +kernel
theorem d_M_function_29 : decode prog_7_method_37_code 29 = .ok (.getfield 21, 3) := by decide +kernel
theorem d_M_function_32 : decode prog_7_method_37_code 32 = .ok (.iload_n 1, 1) := by decide +kernel
theorem d_M_function_33 : decode prog_7_method_37_code 33 = .ok (.aload_n 0, 1) := by decide +kernel
theorem d_M_function_34 : decode prog_7_method_37_code 34 = .ok (.getfield 114, 3) := by decide +kernel
theorem d_M_function_37 : decode prog_7_method_37_code 37 = .ok (.isub, 1) := by decide +kernel
theorem d_M_function_38 : decode prog_7_method_37_code 38 = .ok (.iaload, 1) := by decide +kernel
theorem d_M_function_39 : decode prog_7_method_37_code 39 = .ok (.istore_n 3, 1) := by decide +kernel
theorem d_M_function_40 : decode prog_7_method_37_code 40 = .ok (.iload_n 2, 1) := by decide +kernel
theorem d_M_function_41 : decode prog_7_method_37_code 41 = .ok (.ifCond .ne 13, 3) := by decide +kernel
theorem d_M_function_44 : decode prog_7_method_37_code 44 = .ok (.aload_n 0, 1) := by decide +kernel
theorem d_M_function_45 : decode prog_7_method_37_code 45 = .ok (.iload_n 3, 1) := by decide +kernel
theorem d_M_function_46 : decode prog_7_method_37_code 46 = .ok (.iconst 3, 1) := by decide +kernel
theorem d_M_function_47 : decode prog_7_method_37_code 47 = .ok (.iadd, 1) := by decide +kernel
theorem d_M_function_48 : decode prog_7_method_37_code 48 = .ok (.invokevirtual 56, 3) := by decide +kernel
theorem d_M_function_51 : decode prog_7_method_37_code 51 = .ok (.goto 66, 3) := by decide +kernel
theorem d_M_function_54 : decode prog_7_method_37_code 54 = .ok (.iload_n 2, 1) := by decide +kernel
theorem d_M_function_55 : decode prog_7_method_37_code 55 = .ok (.iconst 1, 1) := by decide +kernel
theorem d_M_function_56 : decode prog_7_method_37_code 56 = .ok (.if_icmp .ne 13, 3) := by decide +kernel
theorem d_M_function_59 : decode prog_7_method_37_code 59 = .ok (.aload_n 0, 1) := by decide +kernel
theorem d_M_function_60 : decode prog_7_method_37_code 60 = .ok (.iload_n 3, 1) := by decide +kernel
theorem d_M_function_61 : decode prog_7_method_37_code 61 = .ok (.iconst 4, 1) := by decide +kernel
theorem d_M_function_62 : decode prog_7_method_37_code 62 = .ok (.iadd, 1) := by decide +kernel
theorem d_M_function_63 : decode prog_7_method_37_code 63 = .ok (.invokevirtual 56, 3) := by decide +kernel
theorem d_M_function_66 : decode prog_7_method_37_code 66 = .ok (.goto 51, 3) := by decide +kernel
theorem d_M_function_69 : decode prog_7_method_37_code 69 = .ok (.iload_n 2, 1) := by decide +kernel
theorem d_M_function_70 : decode prog_7_method_37_code 70 = .ok (.iconst 2, 1) := by decide +kernel
theorem d_M_function_71 : decode prog_7_method_37_code 71 = .ok (.if_icmp .ne 17, 3) := by decide +kernel
theorem d_M_function_74 : decode prog_7_method_37_code 74 = .ok (.aload_n 0, 1) := by decide +kernel
theorem d_M_function_75 : decode prog_7_method_37_code 75 = .ok (.aload_n 0, 1) := by decide +kernel
theorem d_M_function_76 : decode prog_7_method_37_code 76 = .ok (.iload_n 3, 1) := by decide +kernel
theorem d_M_function_77 : decode prog_7_method_37_code 77 = .ok (.iconst 4, 1) := by decide +kernel
theorem d_M_function_78 : decode prog_7_method_37_code 78 = .ok (.iadd, 1) := by decide +kernel
theorem d_M_function_79 : decode prog_7_method_37_code 79 = .ok (.invokevirtual 146, 3) := by decide +kernel
theorem d_M_function_82 : decode prog_7_method_37_code 82 = .ok (.invokevirtual 56, 3) := by decide +kernel
theorem d_M_function_85 : decode prog_7_method_37_code 85 = .ok (.goto 32, 3) := by decide +kernel
theorem d_M_function_88 : decode prog_7_method_37_code 88 = .ok (.iload_n 2, 1) := by decide +kernel
theorem d_M_function_89 : decode prog_7_method_37_code 89 = .ok (.iconst 5, 1) := by decide +kernel
theorem d_M_function_90 : decode prog_7_method_37_code 90 = .ok (.if_icmp .ge 7, 3) := by decide +kernel
theorem d_M_function_93 : decode prog_7_method_37_code 93 = .ok (.iconst 0, 1) := by decide +kernel
theorem d_M_function_94 : decode prog_7_method_37_code 94 = .ok (.goto 23, 3) := by decide +kernel
theorem d_M_function_97 : decode prog_7_method_37_code 97 = .ok (.iload_n 2, 1) := by decide +kernel
theorem d_M_function_98 : decode prog_7_method_37_code 98 = .ok (.iconst 5, 1) := by decide +kernel
theorem d_M_function_99 : decode prog_7_method_37_code 99 = .ok (.if_icmp .ne 11, 3) := by decide +kernel
theorem d_M_function_102 : decode prog_7_method_37_code 102 = .ok (.aload_n 0, 1) := by decide +kernel
theorem d_M_function_103 : decode prog_7_method_37_code 103 = .ok (.iload_n 3, 1) := by decide +kernel
theorem d_M_function_104 : decode prog_7_method_37_code 104 = .ok (.invokevirtual 92, 3) := by decide +kernel
theorem d_M_function_107 : decode prog_7_method_37_code 107 = .ok (.goto 10, 3) := by decide +kernel
theorem d_M_function_110 : decode prog_7_method_37_code 110 = .ok (.aload_n 0, 1) := by decide +kernel
theorem d_M_function_111 : decode prog_7_method_37_code 111 = .ok (.iload_n 3, 1) := by decide +kernel
theorem d_M_function_112 : decode prog_7_method_37_code 112 = .ok (.iconst 2, 1) := by decide +kernel
theorem d_M_function_113 : decode prog_7_method_37_code 113 = .ok (.iadd, 1) := by decide +kernel
theorem d_M_function_114 : decode prog_7_method_37_code 114 = .ok (.invokevirtual 56, 3) := by decide +kernel
theorem d_M_function_117 : decode prog_7_method_37_code 117 = .ok (.ireturn, 1) := by decide +kernel
theorem d_M_function_118 : decode prog_7_method_37_code 118 = .ok (.iload_n 2, 1) := by decide +kernel
theorem d_M_function_119 : decode prog_7_method_37_code 119 = .ok (.iconst 4, 1) := by decide +kernel
theorem d_M_function_120 : decode prog_7_method_37_code 120 = .ok (.if_icmp .le 5, 3) := by decide +kernel
theorem d_M_function_123 : decode prog_7_method_37_code 123 = .ok (.iconst (-1), 1) := by decide +kernel
theorem d_M_function_124 : decode prog_7_method_37_code 124 = .ok (.ireturn, 1) := by decide +kernel
theorem d_M_function_125 : decode prog_7_method_37_code 125 = .ok (.iload_n 2, 1) := by decide +kernel
theorem d_M_function_126 : decode prog_7_method_37_code 126 = .ok (.ifCond .ne 16, 3) := by decide +kernel
theorem d_M_function_129 : decode prog_7_method_37_code 129 = .ok (.aload_n 0, 1) := by decide +kernel
theorem d_M_function_130 : decode prog_7_method_37_code 130 = .ok (.aload_n 0, 1) := by decide +kernel
theorem d_M_function_131 : decode prog_7_method_37_code 131 = .ok (.getfield 27, 3) := by decide +kernel
theorem d_M_function_134 : decode prog_7_method_37_code 134 = .ok (.iload_n 1, 1) := by decide +kernel
theorem d_M_function_135 : decode prog_7_method_37_code 135 = .ok (.iaload, 1) := by decide +kernel
theorem d_M_function_136 : decode prog_7_method_37_code 136 = .ok (.invokevirtual 56, 3) := by decide +kernel
theorem d_M_function_139 : decode prog_7_method_37_code 139 = .ok (.goto 34, 3) := by decide +kernel
theorem d_M_function_142 : decode prog_7_method_37_code 142 = .ok (.iload_n 2, 1) := by decide +kernel
theorem d_M_function_143 : decode prog_7_method_37_code 143 = .ok (.iconst 4, 1) := by decide +kernel
theorem d_M_function_144 : decode prog_7_method_37_code 144 = .ok (.if_icmp .ge 14, 3) := by decide +kernel
theorem d_M_function_147 : decode prog_7_method_37_code 147 = .ok (.aload_n 0, 1) := by decide +kernel
theorem d_M_function_148 : decode prog_7_method_37_code 148 = .ok (.iload_n 1, 1) := by decide +kernel
theorem d_M_function_149 : decode prog_7_method_37_code 149 = .ok (.iload_n 2, 1) := by decide +kernel
theorem d_M_function_150 : decode prog_7_method_37_code 150 = .ok (.iconst 1, 1) := by decide +kernel
theorem d_M_function_151 : decode prog_7_method_37_code 151 = .ok (.isub, 1) := by decide +kernel
theorem d_M_function_152 : decode prog_7_method_37_code 152 = .ok (.invokevirtual 139, 3) := by decide +kernel
theorem d_M_function_155 : decode prog_7_method_37_code 155 = .ok (.goto 18, 3) := by decide +kernel
theorem d_M_function_158 : decode prog_7_method_37_code 158 = .ok (.aload_n 0, 1) := by decide +kernel
theorem d_M_function_159 : decode prog_7_method_37_code 159 = .ok (.getfield 30, 3) := by decide +kernel
theorem d_M_function_162 : decode prog_7_method_37_code 162 = .ok (.iload_n 1, 1) := by decide +kernel
theorem d_M_function_163 : decode prog_7_method_37_code 163 = .ok (.iconst 1, 1) := by decide +kernel
theorem d_M_function_164 : decode prog_7_method_37_code 164 = .ok (.iadd, 1) := by decide +kernel
theorem d_M_function_165 : decode prog_7_method_37_code 165 = .ok (.iaload, 1) := by decide +kernel
theorem d_M_function_166 : decode prog_7_method_37_code 166 = .ok (.aload_n 0, 1) := by decide +kernel
theorem d_M_function_167 : decode prog_7_method_37_code 167 = .ok (.getfield 30, 3) := by decide +kernel
theorem d_M_function_170 : decode prog_7_method_37_code 170 = .ok (.iload_n 1, 1) := by decide +kernel
theorem d_M_function_171 : decode prog_7_method_37_code 171 = .ok (.iaload, 1) := by decide +kernel
theorem d_M_function_172 : decode prog_7_method_37_code 172 = .ok (.isub, 1) := by decide +kernel
theorem d_M_function_173 : decode prog_7_method_37_code 173 = .ok (.ireturn, 1) := by decide +kernel
abbrev T_M_function : List (Nat × ct_PT) := [(0, o_aload 0 1), (1, o_iload 1 1), (5, o_if (fun x => x = 0) (fun x => ¬ x = 0) 18), (8, o_iload 2 1), (9, o_if (fun x => x < 0) (fun x => ¬ x < 0) 18), (12, o_iload 2 1), (13, o_push (.int 6) 2), (15, o_ic (fun x y => x ≤ y) (fun x y => ¬ x ≤ y) 20), (18, o_push (.int (-1)) 1), (20, o_iload 1 1), (21, o_aload 0 1), (22, o_getI 4 24 13), (25, o_ic (fun x y => x < y) (fun x y => ¬ x < y) 118), (28, o_aload 0 1), (29, o_getR 4 24 16), (32, o_iload 1 1), (33, o_aload 0 1), (34, o_getI 4 24 13), (37, o_ii fun x y => x - y), (38, o_iald), (39, o_istore 3 1), (40, o_iload 2 1), (41, o_if (fun x => ¬ x = 0) (fun x => x = 0) 54), (44, o_aload 0 1), (45, o_iload 3 1), (46, o_push (.int 3) 1), (47, o_ii fun x y => x + y), (51, o_goto 117), (54, o_iload 2 1), (55, o_push (.int 1) 1), (56, o_ic (fun x y => ¬ x = y) (fun x y => x = y) 69), (59, o_aload 0 1), (60, o_iload 3 1), (61, o_push (.int 4) 1), (62, o_ii fun x y => x + y), (66, o_goto 117), (69, o_iload 2 1), (70, o_push (.int 2) 1), (71, o_ic (fun x y => ¬ x = y) (fun x y => x = y) 88), (74, o_aload 0 1), (75, o_aload 0 1), (76, o_iload 3 1), (77, o_push (.int 4) 1), (78, o_ii fun x y => x + y), (85, o_goto 117), (88, o_iload 2 1), (89, o_push (.int 5) 1), (90, o_ic (fun x y => y ≤ x) (fun x y => ¬ y ≤ x) 97), (93, o_push (.int 0) 1), (94, o_goto 117), (97, o_iload 2 1), (98, o_push (.int 5) 1), (99, o_ic (fun x y => ¬ x = y) (fun x y => x = y) 110), (102, o_aload 0 1), (103, o_iload 3 1), (107, o_goto 117), (110, o_aload 0 1), (111, o_iload 3 1), (112, o_push (.int 2) 1), (113, o_ii fun x y => x + y), (118, o_iload 2 1), (119, o_push (.int 4) 1), (120, o_ic (fun x y => x ≤ y) (fun x y => ¬ x ≤ y) 125), (123, o_push (.int (-1)) 1), (125, o_iload 2 1), (126, o_if (fun x => ¬ x = 0) (fun x => x = 0) 142), (129, o_aload 0 1), (130, o_aload 0 1), (131, o_getR 4 24 18), (134, o_iload 1 1), (135, o_iald), (139, o_goto 173), (142, o_iload 2 1), (143, o_push (.int 4) 1), (144, o_ic (fun x y => y ≤ x) (fun x y => ¬ y ≤ x) 158), (147, o_aload 0 1), (148, o_iload 1 1), (149, o_iload 2 1), (150, o_push (.int 1) 1), (151, o_ii fun x y => x - y), (155, o_goto 173), (158, o_aload 0 1), (159, o_getR 4 24 19), (162, o_iload 1 1), (163, o_push (.int 1) 1), (164, o_ii fun x y => x + y), (165, o_iald), (166, o_aload 0 1), (167, o_getR 4 24 19), (170, o_iload 1 1), (171, o_iald), (172, o_ii fun x y => x - y)]
set_option maxRecDepth 100000 in
theorem A_M_function (l : ct_Lx) : ct_al l M_M_function (T_M_function) := by
  refine ct_al.cons (so_aload_n d_M_function_0 rfl) ?_
  refine ct_al.cons (so_iload_n d_M_function_1 rfl) ?_
  refine ct_al.cons (so_if_eq d_M_function_5 (by decide)) ?_
  refine ct_al.cons (so_iload_n d_M_function_8 rfl) ?_
  refine ct_al.cons (so_if_lt d_M_function_9 (by decide)) ?_
  refine ct_al.cons (so_iload_n d_M_function_12 rfl) ?_
  refine ct_al.cons (so_bipush d_M_function_13 (by decide)) ?_
  refine ct_al.cons (so_ic_le d_M_function_15 (by decide)) ?_
  refine ct_al.cons (so_iconst d_M_function_18 (by decide)) ?_
  refine ct_al.cons (so_iload_n d_M_function_20 rfl) ?_
  refine ct_al.cons (so_aload_n d_M_function_21 rfl) ?_
  refine ct_al.cons (so_getI (Cn := "CodeTablesModel") (T := ct_T4) kc_4 (by decide) rfl rfl wd_415 d_M_function_22) ?_
  refine ct_al.cons (so_ic_lt d_M_function_25 (by decide)) ?_
  refine ct_al.cons (so_aload_n d_M_function_28 rfl) ?_
  refine ct_al.cons (so_getR (Cn := "CodeTablesModel") (T := ct_T4) kc_4 (by decide) rfl rfl wd_342 d_M_function_29) ?_
  refine ct_al.cons (so_iload_n d_M_function_32 rfl) ?_
  refine ct_al.cons (so_aload_n d_M_function_33 rfl) ?_
  refine ct_al.cons (so_getI (Cn := "CodeTablesModel") (T := ct_T4) kc_4 (by decide) rfl rfl wd_415 d_M_function_34) ?_
  refine ct_al.cons (so_isub d_M_function_37) ?_
  refine ct_al.cons (so_iald d_M_function_38) ?_
  refine ct_al.cons (so_istore_n d_M_function_39 rfl (by decide)) ?_
  refine ct_al.cons (so_iload_n d_M_function_40 rfl) ?_
  refine ct_al.cons (so_if_ne d_M_function_41 (by decide)) ?_
  refine ct_al.cons (so_aload_n d_M_function_44 rfl) ?_
  refine ct_al.cons (so_iload_n d_M_function_45 rfl) ?_
  refine ct_al.cons (so_iconst d_M_function_46 (by decide)) ?_
  refine ct_al.cons (so_iadd d_M_function_47) ?_
  refine ct_al.cons (so_goto d_M_function_51 (by decide)) ?_
  refine ct_al.cons (so_iload_n d_M_function_54 rfl) ?_
  refine ct_al.cons (so_iconst d_M_function_55 (by decide)) ?_
  refine ct_al.cons (so_ic_ne d_M_function_56 (by decide)) ?_
  refine ct_al.cons (so_aload_n d_M_function_59 rfl) ?_
  refine ct_al.cons (so_iload_n d_M_function_60 rfl) ?_
  refine ct_al.cons (so_iconst d_M_function_61 (by decide)) ?_
  refine ct_al.cons (so_iadd d_M_function_62) ?_
  refine ct_al.cons (so_goto d_M_function_66 (by decide)) ?_
  refine ct_al.cons (so_iload_n d_M_function_69 rfl) ?_
  refine ct_al.cons (so_iconst d_M_function_70 (by decide)) ?_
  refine ct_al.cons (so_ic_ne d_M_function_71 (by decide)) ?_
  refine ct_al.cons (so_aload_n d_M_function_74 rfl) ?_
  refine ct_al.cons (so_aload_n d_M_function_75 rfl) ?_
  refine ct_al.cons (so_iload_n d_M_function_76 rfl) ?_
  refine ct_al.cons (so_iconst d_M_function_77 (by decide)) ?_
  refine ct_al.cons (so_iadd d_M_function_78) ?_
  refine ct_al.cons (so_goto d_M_function_85 (by decide)) ?_
  refine ct_al.cons (so_iload_n d_M_function_88 rfl) ?_
  refine ct_al.cons (so_iconst d_M_function_89 (by decide)) ?_
  refine ct_al.cons (so_ic_ge d_M_function_90 (by decide)) ?_
  refine ct_al.cons (so_iconst d_M_function_93 (by decide)) ?_
  refine ct_al.cons (so_goto d_M_function_94 (by decide)) ?_
  refine ct_al.cons (so_iload_n d_M_function_97 rfl) ?_
  refine ct_al.cons (so_iconst d_M_function_98 (by decide)) ?_
  refine ct_al.cons (so_ic_ne d_M_function_99 (by decide)) ?_
  refine ct_al.cons (so_aload_n d_M_function_102 rfl) ?_
  refine ct_al.cons (so_iload_n d_M_function_103 rfl) ?_
  refine ct_al.cons (so_goto d_M_function_107 (by decide)) ?_
  refine ct_al.cons (so_aload_n d_M_function_110 rfl) ?_
  refine ct_al.cons (so_iload_n d_M_function_111 rfl) ?_
  refine ct_al.cons (so_iconst d_M_function_112 (by decide)) ?_
  refine ct_al.cons (so_iadd d_M_function_113) ?_
  refine ct_al.cons (so_iload_n d_M_function_118 rfl) ?_
  refine ct_al.cons (so_iconst d_M_function_119 (by decide)) ?_
  refine ct_al.cons (so_ic_le d_M_function_120 (by decide)) ?_
  refine ct_al.cons (so_iconst d_M_function_123 (by decide)) ?_
  refine ct_al.cons (so_iload_n d_M_function_125 rfl) ?_
  refine ct_al.cons (so_if_ne d_M_function_126 (by decide)) ?_
  refine ct_al.cons (so_aload_n d_M_function_129 rfl) ?_
  refine ct_al.cons (so_aload_n d_M_function_130 rfl) ?_
  refine ct_al.cons (so_getR (Cn := "CodeTablesModel") (T := ct_T4) kc_4 (by decide) rfl rfl wd_344 d_M_function_131) ?_
  refine ct_al.cons (so_iload_n d_M_function_134 rfl) ?_
  refine ct_al.cons (so_iald d_M_function_135) ?_
  refine ct_al.cons (so_goto d_M_function_139 (by decide)) ?_
  refine ct_al.cons (so_iload_n d_M_function_142 rfl) ?_
  refine ct_al.cons (so_iconst d_M_function_143 (by decide)) ?_
  refine ct_al.cons (so_ic_ge d_M_function_144 (by decide)) ?_
  refine ct_al.cons (so_aload_n d_M_function_147 rfl) ?_
  refine ct_al.cons (so_iload_n d_M_function_148 rfl) ?_
  refine ct_al.cons (so_iload_n d_M_function_149 rfl) ?_
  refine ct_al.cons (so_iconst d_M_function_150 (by decide)) ?_
  refine ct_al.cons (so_isub d_M_function_151) ?_
  refine ct_al.cons (so_goto d_M_function_155 (by decide)) ?_
  refine ct_al.cons (so_aload_n d_M_function_158 rfl) ?_
  refine ct_al.cons (so_getR (Cn := "CodeTablesModel") (T := ct_T4) kc_4 (by decide) rfl rfl wd_345 d_M_function_159) ?_
  refine ct_al.cons (so_iload_n d_M_function_162 rfl) ?_
  refine ct_al.cons (so_iconst d_M_function_163 (by decide)) ?_
  refine ct_al.cons (so_iadd d_M_function_164) ?_
  refine ct_al.cons (so_iald d_M_function_165) ?_
  refine ct_al.cons (so_aload_n d_M_function_166 rfl) ?_
  refine ct_al.cons (so_getR (Cn := "CodeTablesModel") (T := ct_T4) kc_4 (by decide) rfl rfl wd_345 d_M_function_167) ?_
  refine ct_al.cons (so_iload_n d_M_function_170 rfl) ?_
  refine ct_al.cons (so_iald d_M_function_171) ?_
  refine ct_al.cons (so_isub d_M_function_172) ?_
  exact ct_al.nil
theorem e_M_function_0 : ct_tab (T_M_function) 0 = some (o_aload 0 1) := rfl
theorem e_M_function_1 : ct_tab (T_M_function) 1 = some (o_iload 1 1) := rfl
theorem e_M_function_5 : ct_tab (T_M_function) 5 = some (o_if (fun x => x = 0) (fun x => ¬ x = 0) 18) := rfl
theorem e_M_function_8 : ct_tab (T_M_function) 8 = some (o_iload 2 1) := rfl
theorem e_M_function_9 : ct_tab (T_M_function) 9 = some (o_if (fun x => x < 0) (fun x => ¬ x < 0) 18) := rfl
theorem e_M_function_12 : ct_tab (T_M_function) 12 = some (o_iload 2 1) := rfl
theorem e_M_function_13 : ct_tab (T_M_function) 13 = some (o_push (.int 6) 2) := rfl
theorem e_M_function_15 : ct_tab (T_M_function) 15 = some (o_ic (fun x y => x ≤ y) (fun x y => ¬ x ≤ y) 20) := rfl
theorem e_M_function_18 : ct_tab (T_M_function) 18 = some (o_push (.int (-1)) 1) := rfl
theorem e_M_function_20 : ct_tab (T_M_function) 20 = some (o_iload 1 1) := rfl
theorem e_M_function_21 : ct_tab (T_M_function) 21 = some (o_aload 0 1) := rfl
theorem e_M_function_22 : ct_tab (T_M_function) 22 = some (o_getI 4 24 13) := rfl
theorem e_M_function_25 : ct_tab (T_M_function) 25 = some (o_ic (fun x y => x < y) (fun x y => ¬ x < y) 118) := rfl
theorem e_M_function_28 : ct_tab (T_M_function) 28 = some (o_aload 0 1) := rfl
theorem e_M_function_29 : ct_tab (T_M_function) 29 = some (o_getR 4 24 16) := rfl
theorem e_M_function_32 : ct_tab (T_M_function) 32 = some (o_iload 1 1) := rfl
theorem e_M_function_33 : ct_tab (T_M_function) 33 = some (o_aload 0 1) := rfl
theorem e_M_function_34 : ct_tab (T_M_function) 34 = some (o_getI 4 24 13) := rfl
theorem e_M_function_37 : ct_tab (T_M_function) 37 = some (o_ii fun x y => x - y) := rfl
theorem e_M_function_38 : ct_tab (T_M_function) 38 = some (o_iald) := rfl
theorem e_M_function_39 : ct_tab (T_M_function) 39 = some (o_istore 3 1) := rfl
theorem e_M_function_40 : ct_tab (T_M_function) 40 = some (o_iload 2 1) := rfl
theorem e_M_function_41 : ct_tab (T_M_function) 41 = some (o_if (fun x => ¬ x = 0) (fun x => x = 0) 54) := rfl
theorem e_M_function_44 : ct_tab (T_M_function) 44 = some (o_aload 0 1) := rfl
theorem e_M_function_45 : ct_tab (T_M_function) 45 = some (o_iload 3 1) := rfl
theorem e_M_function_46 : ct_tab (T_M_function) 46 = some (o_push (.int 3) 1) := rfl
theorem e_M_function_47 : ct_tab (T_M_function) 47 = some (o_ii fun x y => x + y) := rfl
theorem e_M_function_51 : ct_tab (T_M_function) 51 = some (o_goto 117) := rfl
theorem e_M_function_54 : ct_tab (T_M_function) 54 = some (o_iload 2 1) := rfl
theorem e_M_function_55 : ct_tab (T_M_function) 55 = some (o_push (.int 1) 1) := rfl
theorem e_M_function_56 : ct_tab (T_M_function) 56 = some (o_ic (fun x y => ¬ x = y) (fun x y => x = y) 69) := rfl
theorem e_M_function_59 : ct_tab (T_M_function) 59 = some (o_aload 0 1) := rfl
theorem e_M_function_60 : ct_tab (T_M_function) 60 = some (o_iload 3 1) := rfl
theorem e_M_function_61 : ct_tab (T_M_function) 61 = some (o_push (.int 4) 1) := rfl
theorem e_M_function_62 : ct_tab (T_M_function) 62 = some (o_ii fun x y => x + y) := rfl
theorem e_M_function_66 : ct_tab (T_M_function) 66 = some (o_goto 117) := rfl
theorem e_M_function_69 : ct_tab (T_M_function) 69 = some (o_iload 2 1) := rfl
theorem e_M_function_70 : ct_tab (T_M_function) 70 = some (o_push (.int 2) 1) := rfl
theorem e_M_function_71 : ct_tab (T_M_function) 71 = some (o_ic (fun x y => ¬ x = y) (fun x y => x = y) 88) := rfl
theorem e_M_function_74 : ct_tab (T_M_function) 74 = some (o_aload 0 1) := rfl
theorem e_M_function_75 : ct_tab (T_M_function) 75 = some (o_aload 0 1) := rfl
theorem e_M_function_76 : ct_tab (T_M_function) 76 = some (o_iload 3 1) := rfl
theorem e_M_function_77 : ct_tab (T_M_function) 77 = some (o_push (.int 4) 1) := rfl
theorem e_M_function_78 : ct_tab (T_M_function) 78 = some (o_ii fun x y => x + y) := rfl
theorem e_M_function_85 : ct_tab (T_M_function) 85 = some (o_goto 117) := rfl
theorem e_M_function_88 : ct_tab (T_M_function) 88 = some (o_iload 2 1) := rfl
theorem e_M_function_89 : ct_tab (T_M_function) 89 = some (o_push (.int 5) 1) := rfl
theorem e_M_function_90 : ct_tab (T_M_function) 90 = some (o_ic (fun x y => y ≤ x) (fun x y => ¬ y ≤ x) 97) := rfl
theorem e_M_function_93 : ct_tab (T_M_function) 93 = some (o_push (.int 0) 1) := rfl
theorem e_M_function_94 : ct_tab (T_M_function) 94 = some (o_goto 117) := rfl
theorem e_M_function_97 : ct_tab (T_M_function) 97 = some (o_iload 2 1) := rfl
theorem e_M_function_98 : ct_tab (T_M_function) 98 = some (o_push (.int 5) 1) := rfl
theorem e_M_function_99 : ct_tab (T_M_function) 99 = some (o_ic (fun x y => ¬ x = y) (fun x y => x = y) 110) := rfl
theorem e_M_function_102 : ct_tab (T_M_function) 102 = some (o_aload 0 1) := rfl
theorem e_M_function_103 : ct_tab (T_M_function) 103 = some (o_iload 3 1) := rfl
theorem e_M_function_107 : ct_tab (T_M_function) 107 = some (o_goto 117) := rfl
theorem e_M_function_110 : ct_tab (T_M_function) 110 = some (o_aload 0 1) := rfl
theorem e_M_function_111 : ct_tab (T_M_function) 111 = some (o_iload 3 1) := rfl
theorem e_M_function_112 : ct_tab (T_M_function) 112 = some (o_push (.int 2) 1) := rfl
theorem e_M_function_113 : ct_tab (T_M_function) 113 = some (o_ii fun x y => x + y) := rfl
theorem e_M_function_118 : ct_tab (T_M_function) 118 = some (o_iload 2 1) := rfl
theorem e_M_function_119 : ct_tab (T_M_function) 119 = some (o_push (.int 4) 1) := rfl
theorem e_M_function_120 : ct_tab (T_M_function) 120 = some (o_ic (fun x y => x ≤ y) (fun x y => ¬ x ≤ y) 125) := rfl
theorem e_M_function_123 : ct_tab (T_M_function) 123 = some (o_push (.int (-1)) 1) := rfl
theorem e_M_function_125 : ct_tab (T_M_function) 125 = some (o_iload 2 1) := rfl
theorem e_M_function_126 : ct_tab (T_M_function) 126 = some (o_if (fun x => ¬ x = 0) (fun x => x = 0) 142) := rfl
theorem e_M_function_129 : ct_tab (T_M_function) 129 = some (o_aload 0 1) := rfl
theorem e_M_function_130 : ct_tab (T_M_function) 130 = some (o_aload 0 1) := rfl
theorem e_M_function_131 : ct_tab (T_M_function) 131 = some (o_getR 4 24 18) := rfl
theorem e_M_function_134 : ct_tab (T_M_function) 134 = some (o_iload 1 1) := rfl
theorem e_M_function_135 : ct_tab (T_M_function) 135 = some (o_iald) := rfl
theorem e_M_function_139 : ct_tab (T_M_function) 139 = some (o_goto 173) := rfl
theorem e_M_function_142 : ct_tab (T_M_function) 142 = some (o_iload 2 1) := rfl
theorem e_M_function_143 : ct_tab (T_M_function) 143 = some (o_push (.int 4) 1) := rfl
theorem e_M_function_144 : ct_tab (T_M_function) 144 = some (o_ic (fun x y => y ≤ x) (fun x y => ¬ y ≤ x) 158) := rfl
theorem e_M_function_147 : ct_tab (T_M_function) 147 = some (o_aload 0 1) := rfl
theorem e_M_function_148 : ct_tab (T_M_function) 148 = some (o_iload 1 1) := rfl
theorem e_M_function_149 : ct_tab (T_M_function) 149 = some (o_iload 2 1) := rfl
theorem e_M_function_150 : ct_tab (T_M_function) 150 = some (o_push (.int 1) 1) := rfl
theorem e_M_function_151 : ct_tab (T_M_function) 151 = some (o_ii fun x y => x - y) := rfl
theorem e_M_function_155 : ct_tab (T_M_function) 155 = some (o_goto 173) := rfl
theorem e_M_function_158 : ct_tab (T_M_function) 158 = some (o_aload 0 1) := rfl
theorem e_M_function_159 : ct_tab (T_M_function) 159 = some (o_getR 4 24 19) := rfl
theorem e_M_function_162 : ct_tab (T_M_function) 162 = some (o_iload 1 1) := rfl
theorem e_M_function_163 : ct_tab (T_M_function) 163 = some (o_push (.int 1) 1) := rfl
theorem e_M_function_164 : ct_tab (T_M_function) 164 = some (o_ii fun x y => x + y) := rfl
theorem e_M_function_165 : ct_tab (T_M_function) 165 = some (o_iald) := rfl
theorem e_M_function_166 : ct_tab (T_M_function) 166 = some (o_aload 0 1) := rfl
theorem e_M_function_167 : ct_tab (T_M_function) 167 = some (o_getR 4 24 19) := rfl
theorem e_M_function_170 : ct_tab (T_M_function) 170 = some (o_iload 1 1) := rfl
theorem e_M_function_171 : ct_tab (T_M_function) 171 = some (o_iald) := rfl
theorem e_M_function_172 : ct_tab (T_M_function) 172 = some (o_ii fun x y => x - y) := rfl
theorem cl_M_function_2 {l : ct_Lx} {d d1 : Nat} {Post Post1 : Option Value → ct_Sg → Prop} {lv : ct_Lv} {st : List Value} {g : ct_Sg} {bc bs c1 s1 : Nat} {a1 : Value} {h : Nat} (hsh : g.2.1 h = (10 + 4, 24)) (hM : ct_Me l M_M_isFunction d1 c1 s1 [.ref h, a1] g Post1) (hdd : d1 + 1 ≤ d) (hk : (st.map fun v => v.category).sum ≤ 8) (hcc : c1 ≤ bc) (hss : s1 ≤ bs) (kk : ∀ (v : Option Value) (g' : ct_Sg), Post1 v g' → ct_Wp l M_M_function d Post (5, lv, v.toList ++ st, g', bc - c1, bs - s1)) : ct_Wp l M_M_function d Post (2, lv, a1 :: .ref h :: st, g, bc, bs) := ct_Wp.callV (ci := 4) (N := 24) (T := ct_T4) (As := [a1]) lk_M_isFunction (Or.inl wd_506) wd_507 wd_508 rfl d_M_function_2 hsh hM rfl hdd hk hcc hss kk
theorem cl_M_function_48 {l : ct_Lx} {d d1 : Nat} {Post Post1 : Option Value → ct_Sg → Prop} {lv : ct_Lv} {st : List Value} {g : ct_Sg} {bc bs c1 s1 : Nat} {a1 : Value} {h : Nat} (hsh : g.2.1 h = (10 + 4, 24)) (hM : ct_Me l M_M_byteAt d1 c1 s1 [.ref h, a1] g Post1) (hdd : d1 + 1 ≤ d) (hk : (st.map fun v => v.category).sum ≤ 8) (hcc : c1 ≤ bc) (hss : s1 ≤ bs) (kk : ∀ (v : Option Value) (g' : ct_Sg), Post1 v g' → ct_Wp l M_M_function d Post (51, lv, v.toList ++ st, g', bc - c1, bs - s1)) : ct_Wp l M_M_function d Post (48, lv, a1 :: .ref h :: st, g, bc, bs) := ct_Wp.callV (ci := 4) (N := 24) (T := ct_T4) (As := [a1]) lk_M_byteAt (Or.inl wd_357) wd_358 wd_359 rfl d_M_function_48 hsh hM rfl hdd hk hcc hss kk
theorem cl_M_function_63 {l : ct_Lx} {d d1 : Nat} {Post Post1 : Option Value → ct_Sg → Prop} {lv : ct_Lv} {st : List Value} {g : ct_Sg} {bc bs c1 s1 : Nat} {a1 : Value} {h : Nat} (hsh : g.2.1 h = (10 + 4, 24)) (hM : ct_Me l M_M_byteAt d1 c1 s1 [.ref h, a1] g Post1) (hdd : d1 + 1 ≤ d) (hk : (st.map fun v => v.category).sum ≤ 8) (hcc : c1 ≤ bc) (hss : s1 ≤ bs) (kk : ∀ (v : Option Value) (g' : ct_Sg), Post1 v g' → ct_Wp l M_M_function d Post (66, lv, v.toList ++ st, g', bc - c1, bs - s1)) : ct_Wp l M_M_function d Post (63, lv, a1 :: .ref h :: st, g, bc, bs) := ct_Wp.callV (ci := 4) (N := 24) (T := ct_T4) (As := [a1]) lk_M_byteAt (Or.inl wd_357) wd_358 wd_359 rfl d_M_function_63 hsh hM rfl hdd hk hcc hss kk
theorem cl_M_function_79 {l : ct_Lx} {d d1 : Nat} {Post Post1 : Option Value → ct_Sg → Prop} {lv : ct_Lv} {st : List Value} {g : ct_Sg} {bc bs c1 s1 : Nat} {a1 : Value} {h : Nat} (hsh : g.2.1 h = (10 + 4, 24)) (hM : ct_Me l M_M_listEnd d1 c1 s1 [.ref h, a1] g Post1) (hdd : d1 + 1 ≤ d) (hk : (st.map fun v => v.category).sum ≤ 8) (hcc : c1 ≤ bc) (hss : s1 ≤ bs) (kk : ∀ (v : Option Value) (g' : ct_Sg), Post1 v g' → ct_Wp l M_M_function d Post (82, lv, v.toList ++ st, g', bc - c1, bs - s1)) : ct_Wp l M_M_function d Post (79, lv, a1 :: .ref h :: st, g, bc, bs) := ct_Wp.callV (ci := 4) (N := 24) (T := ct_T4) (As := [a1]) lk_M_listEnd (Or.inl wd_463) wd_464 wd_465 rfl d_M_function_79 hsh hM rfl hdd hk hcc hss kk
theorem cl_M_function_82 {l : ct_Lx} {d d1 : Nat} {Post Post1 : Option Value → ct_Sg → Prop} {lv : ct_Lv} {st : List Value} {g : ct_Sg} {bc bs c1 s1 : Nat} {a1 : Value} {h : Nat} (hsh : g.2.1 h = (10 + 4, 24)) (hM : ct_Me l M_M_byteAt d1 c1 s1 [.ref h, a1] g Post1) (hdd : d1 + 1 ≤ d) (hk : (st.map fun v => v.category).sum ≤ 8) (hcc : c1 ≤ bc) (hss : s1 ≤ bs) (kk : ∀ (v : Option Value) (g' : ct_Sg), Post1 v g' → ct_Wp l M_M_function d Post (85, lv, v.toList ++ st, g', bc - c1, bs - s1)) : ct_Wp l M_M_function d Post (82, lv, a1 :: .ref h :: st, g, bc, bs) := ct_Wp.callV (ci := 4) (N := 24) (T := ct_T4) (As := [a1]) lk_M_byteAt (Or.inl wd_357) wd_358 wd_359 rfl d_M_function_82 hsh hM rfl hdd hk hcc hss kk
theorem cl_M_function_104 {l : ct_Lx} {d d1 : Nat} {Post Post1 : Option Value → ct_Sg → Prop} {lv : ct_Lv} {st : List Value} {g : ct_Sg} {bc bs c1 s1 : Nat} {a1 : Value} {h : Nat} (hsh : g.2.1 h = (10 + 4, 24)) (hM : ct_Me l M_M_shortAt d1 c1 s1 [.ref h, a1] g Post1) (hdd : d1 + 1 ≤ d) (hk : (st.map fun v => v.category).sum ≤ 8) (hcc : c1 ≤ bc) (hss : s1 ≤ bs) (kk : ∀ (v : Option Value) (g' : ct_Sg), Post1 v g' → ct_Wp l M_M_function d Post (107, lv, v.toList ++ st, g', bc - c1, bs - s1)) : ct_Wp l M_M_function d Post (104, lv, a1 :: .ref h :: st, g, bc, bs) := ct_Wp.callV (ci := 4) (N := 24) (T := ct_T4) (As := [a1]) lk_M_shortAt (Or.inl wd_398) wd_399 wd_400 rfl d_M_function_104 hsh hM rfl hdd hk hcc hss kk
theorem cl_M_function_114 {l : ct_Lx} {d d1 : Nat} {Post Post1 : Option Value → ct_Sg → Prop} {lv : ct_Lv} {st : List Value} {g : ct_Sg} {bc bs c1 s1 : Nat} {a1 : Value} {h : Nat} (hsh : g.2.1 h = (10 + 4, 24)) (hM : ct_Me l M_M_byteAt d1 c1 s1 [.ref h, a1] g Post1) (hdd : d1 + 1 ≤ d) (hk : (st.map fun v => v.category).sum ≤ 8) (hcc : c1 ≤ bc) (hss : s1 ≤ bs) (kk : ∀ (v : Option Value) (g' : ct_Sg), Post1 v g' → ct_Wp l M_M_function d Post (117, lv, v.toList ++ st, g', bc - c1, bs - s1)) : ct_Wp l M_M_function d Post (114, lv, a1 :: .ref h :: st, g, bc, bs) := ct_Wp.callV (ci := 4) (N := 24) (T := ct_T4) (As := [a1]) lk_M_byteAt (Or.inl wd_357) wd_358 wd_359 rfl d_M_function_114 hsh hM rfl hdd hk hcc hss kk
theorem cl_M_function_136 {l : ct_Lx} {d d1 : Nat} {Post Post1 : Option Value → ct_Sg → Prop} {lv : ct_Lv} {st : List Value} {g : ct_Sg} {bc bs c1 s1 : Nat} {a1 : Value} {h : Nat} (hsh : g.2.1 h = (10 + 4, 24)) (hM : ct_Me l M_M_byteAt d1 c1 s1 [.ref h, a1] g Post1) (hdd : d1 + 1 ≤ d) (hk : (st.map fun v => v.category).sum ≤ 8) (hcc : c1 ≤ bc) (hss : s1 ≤ bs) (kk : ∀ (v : Option Value) (g' : ct_Sg), Post1 v g' → ct_Wp l M_M_function d Post (139, lv, v.toList ++ st, g', bc - c1, bs - s1)) : ct_Wp l M_M_function d Post (136, lv, a1 :: .ref h :: st, g, bc, bs) := ct_Wp.callV (ci := 4) (N := 24) (T := ct_T4) (As := [a1]) lk_M_byteAt (Or.inl wd_357) wd_358 wd_359 rfl d_M_function_136 hsh hM rfl hdd hk hcc hss kk
theorem cl_M_function_152 {l : ct_Lx} {d d1 : Nat} {Post Post1 : Option Value → ct_Sg → Prop} {lv : ct_Lv} {st : List Value} {g : ct_Sg} {bc bs c1 s1 : Nat} {a1 a2 : Value} {h : Nat} (hsh : g.2.1 h = (10 + 4, 24)) (hM : ct_Me l M_M_manyIn d1 c1 s1 [.ref h, a1, a2] g Post1) (hdd : d1 + 1 ≤ d) (hk : (st.map fun v => v.category).sum ≤ 8) (hcc : c1 ≤ bc) (hss : s1 ≤ bs) (kk : ∀ (v : Option Value) (g' : ct_Sg), Post1 v g' → ct_Wp l M_M_function d Post (155, lv, v.toList ++ st, g', bc - c1, bs - s1)) : ct_Wp l M_M_function d Post (152, lv, a2 :: a1 :: .ref h :: st, g, bc, bs) := ct_Wp.callV (ci := 4) (N := 24) (T := ct_T4) (As := [a1, a2]) lk_M_manyIn (Or.inl wd_453) wd_454 wd_455 rfl d_M_function_152 hsh hM rfl hdd hk hcc hss kk
theorem d_M_listed_0 : decode prog_7_method_38_code 0 = .ok (.aload_n 0, 1) := by decide +kernel
theorem d_M_listed_1 : decode prog_7_method_38_code 1 = .ok (.iload_n 1, 1) := by decide +kernel
theorem d_M_listed_2 : decode prog_7_method_38_code 2 = .ok (.invokevirtual 180, 3) := by decide +kernel
theorem d_M_listed_5 : decode prog_7_method_38_code 5 = .ok (.ifCond .eq 25, 3) := by decide +kernel
theorem d_M_listed_8 : decode prog_7_method_38_code 8 = .ok (.iload_n 2, 1) := by decide +kernel
theorem d_M_listed_9 : decode prog_7_method_38_code 9 = .ok (.ifCond .lt 21, 3) := by decide +kernel
theorem d_M_listed_12 : decode prog_7_method_38_code 12 = .ok (.iload_n 2, 1) := by decide +kernel
theorem d_M_listed_13 : decode prog_7_method_38_code 13 = .ok (.iconst 2, 1) := by decide +kernel
theorem d_M_listed_14 : decode prog_7_method_38_code 14 = .ok (.if_icmp .gt 16, 3) := by decide +kernel
theorem d_M_listed_17 : decode prog_7_method_38_code 17 = .ok (.iload_n 1, 1) := by decide +kernel
theorem d_M_listed_18 : decode prog_7_method_38_code 18 = .ok (.aload_n 0, 1) := by decide +kernel
theorem d_M_listed_19 : decode prog_7_method_38_code 19 = .ok (.getfield 114, 3) := by decide +kernel
theorem d_M_listed_22 : decode prog_7_method_38_code 22 = .ok (.if_icmp .lt 10, 3) := by decide +kernel
theorem d_M_listed_25 : decode prog_7_method_38_code 25 = .ok (.iload_n 2, 1) := by decide +kernel
theorem d_M_listed_26 : decode prog_7_method_38_code 26 = .ok (.iconst 2, 1) := by decide +kernel
theorem d_M_listed_27 : decode prog_7_method_38_code 27 = .ok (.if_icmp .ne 5, 3) := by decide +kernel
theorem d_M_listed_30 : decode prog_7_method_38_code 30 = .ok (.lconst 0, 1) := by decide +kernel
theorem d_M_listed_31 : decode prog_7_method_38_code 31 = .ok (.lreturn, 1) := by decide +kernel
theorem d_M_listed_32 : decode prog_7_method_38_code 32 = .ok (.iload_n 1, 1) := by decide +kernel
theorem d_M_listed_33 : decode prog_7_method_38_code 33 = .ok (.aload_n 0, 1) := by decide +kernel
theorem d_M_listed_34 : decode prog_7_method_38_code 34 = .ok (.getfield 114, 3) := by decide +kernel
theorem d_M_listed_37 : decode prog_7_method_38_code 37 = .ok (.if_icmp .ge 12, 3) := by decide +kernel
theorem d_M_listed_40 : decode prog_7_method_38_code 40 = .ok (.aload_n 0, 1) := by decide +kernel
theorem d_M_listed_41 : decode prog_7_method_38_code 41 = .ok (.iload_n 1, 1) := by decide +kernel
theorem d_M_listed_42 : decode prog_7_method_38_code 42 = .ok (.iload_n 2, 1) := by decide +kernel
theorem d_M_listed_43 : decode prog_7_method_38_code 43 = .ok (.invokevirtual 149, 3) := by decide +kernel
theorem d_M_listed_46 : decode prog_7_method_38_code 46 = .ok (.goto 40, 3) := by decide +kernel
theorem d_M_listed_49 : decode prog_7_method_38_code 49 = .ok (.iload_n 2, 1) := by decide +kernel
theorem d_M_listed_50 : decode prog_7_method_38_code 50 = .ok (.ifCond .ne 19, 3) := by decide +kernel
theorem d_M_listed_53 : decode prog_7_method_38_code 53 = .ok (.aload_n 0, 1) := by decide +kernel
theorem d_M_listed_54 : decode prog_7_method_38_code 54 = .ok (.getfield 21, 3) := by decide +kernel
theorem d_M_listed_57 : decode prog_7_method_38_code 57 = .ok (.iload_n 1, 1) := by decide +kernel
theorem d_M_listed_58 : decode prog_7_method_38_code 58 = .ok (.aload_n 0, 1) := by decide +kernel
theorem d_M_listed_59 : decode prog_7_method_38_code 59 = .ok (.getfield 114, 3) := by decide +kernel
theorem d_M_listed_62 : decode prog_7_method_38_code 62 = .ok (.isub, 1) := by decide +kernel
theorem d_M_listed_63 : decode prog_7_method_38_code 63 = .ok (.iaload, 1) := by decide +kernel
theorem d_M_listed_64 : decode prog_7_method_38_code 64 = .ok (.iconst 4, 1) := by decide +kernel
theorem d_M_listed_65 : decode prog_7_method_38_code 65 = .ok (.iadd, 1) := by decide +kernel
theorem d_M_listed_66 : decode prog_7_method_38_code 66 = .ok (.goto 20, 3) := by decide +kernel
theorem d_M_listed_69 : decode prog_7_method_38_code 69 = .ok (.aload_n 0, 1) := by decide +kernel
theorem d_M_listed_70 : decode prog_7_method_38_code 70 = .ok (.aload_n 0, 1) := by decide +kernel
theorem d_M_listed_71 : decode prog_7_method_38_code 71 = .ok (.getfield 21, 3) := by decide +kernel
theorem d_M_listed_74 : decode prog_7_method_38_code 74 = .ok (.iload_n 1, 1) := by decide +kernel
theorem d_M_listed_75 : decode prog_7_method_38_code 75 = .ok (.aload_n 0, 1) := by decide +kernel
theorem d_M_listed_76 : decode prog_7_method_38_code 76 = .ok (.getfield 114, 3) := by decide +kernel
theorem d_M_listed_79 : decode prog_7_method_38_code 79 = .ok (.isub, 1) := by decide +kernel
theorem d_M_listed_80 : decode prog_7_method_38_code 80 = .ok (.iaload, 1) := by decide +kernel
theorem d_M_listed_81 : decode prog_7_method_38_code 81 = .ok (.iconst 4, 1) := by decide +kernel
theorem d_M_listed_82 : decode prog_7_method_38_code 82 = .ok (.iadd, 1) := by decide +kernel
theorem d_M_listed_83 : decode prog_7_method_38_code 83 = .ok (.invokevirtual 146, 3) := by decide +kernel
theorem d_M_listed_86 : decode prog_7_method_38_code 86 = .ok (.istore 4, 2) := by decide +kernel
theorem d_M_listed_88 : decode prog_7_method_38_code 88 = .ok (.iload_n 3, 1) := by decide +kernel
theorem d_M_listed_89 : decode prog_7_method_38_code 89 = .ok (.ifCond .lt 13, 3) := by decide +kernel
theorem d_M_listed_92 : decode prog_7_method_38_code 92 = .ok (.iload_n 3, 1) := by decide +kernel
theorem d_M_listed_93 : decode prog_7_method_38_code 93 = .ok (.aload_n 0, 1) := by decide +kernel
theorem d_M_listed_94 : decode prog_7_method_38_code 94 = .ok (.iload 4, 2) := by decide +kernel
theorem d_M_listed_96 : decode prog_7_method_38_code 96 = .ok (.invokevirtual 56, 3) := by decide +kernel
theorem d_M_listed_99 : decode prog_7_method_38_code 99 = .ok (.if_icmp .lt 5, 3) := by decide +kernel
theorem d_M_listed_102 : decode prog_7_method_38_code 102 = .ok (.lconst 0, 1) := by decide +kernel
theorem d_M_listed_103 : decode prog_7_method_38_code 103 = .ok (.lreturn, 1) := by decide +kernel
theorem d_M_listed_104 : decode prog_7_method_38_code 104 = .ok (.iinc 4 1, 3) := by decide +kernel
theorem d_M_listed_107 : decode prog_7_method_38_code 107 = .ok (.iconst 0, 1) := by decide +kernel
theorem d_M_listed_108 : decode prog_7_method_38_code 108 = .ok (.istore 5, 2) := by decide +kernel
theorem d_M_listed_110 : decode prog_7_method_38_code 110 = .ok (.iload 5, 2) := by decide +kernel
theorem d_M_listed_112 : decode prog_7_method_38_code 112 = .ok (.iload_n 3, 1) := by decide +kernel
theorem d_M_listed_113 : decode prog_7_method_38_code 113 = .ok (.if_icmp .ge 17, 3) := by decide +kernel
theorem d_M_listed_116 : decode prog_7_method_38_code 116 = .ok (.aload_n 0, 1) := by decide +kernel
theorem d_M_listed_117 : decode prog_7_method_38_code 117 = .ok (.iload 4, 2) := by decide +kernel
theorem d_M_listed_119 : decode prog_7_method_38_code 119 = .ok (.invokevirtual 120, 3) := by decide +kernel
theorem d_M_listed_122 : decode prog_7_method_38_code 122 = .ok (.istore 4, 2) := by decide +kernel
theorem d_M_listed_124 : decode prog_7_method_38_code 124 = .ok (.iinc 5 1, 3) := by decide +kernel
theorem d_M_listed_127 : decode prog_7_method_38_code 127 = .ok (.goto (-17), 3) := by decide +kernel
theorem d_M_listed_130 : decode prog_7_method_38_code 130 = .ok (.aload_n 0, 1) := by decide +kernel
theorem d_M_listed_131 : decode prog_7_method_38_code 131 = .ok (.iload 4, 2) := by decide +kernel
theorem d_M_listed_133 : decode prog_7_method_38_code 133 = .ok (.invokevirtual 176, 3) := by decide +kernel
theorem d_M_listed_136 : decode prog_7_method_38_code 136 = .ok (.lreturn, 1) := by decide +kernel
abbrev T_M_listed : List (Nat × ct_PT) := [(0, o_aload 0 1), (1, o_iload 1 1), (5, o_if (fun x => x = 0) (fun x => ¬ x = 0) 30), (8, o_iload 2 1), (9, o_if (fun x => x < 0) (fun x => ¬ x < 0) 30), (12, o_iload 2 1), (13, o_push (.int 2) 1), (14, o_ic (fun x y => y < x) (fun x y => ¬ y < x) 30), (17, o_iload 1 1), (18, o_aload 0 1), (19, o_getI 4 24 13), (22, o_ic (fun x y => x < y) (fun x y => ¬ x < y) 32), (25, o_iload 2 1), (26, o_push (.int 2) 1), (27, o_ic (fun x y => ¬ x = y) (fun x y => x = y) 32), (30, o_push (.long 0) 1), (32, o_iload 1 1), (33, o_aload 0 1), (34, o_getI 4 24 13), (37, o_ic (fun x y => y ≤ x) (fun x y => ¬ y ≤ x) 49), (40, o_aload 0 1), (41, o_iload 1 1), (42, o_iload 2 1), (46, o_goto 86), (49, o_iload 2 1), (50, o_if (fun x => ¬ x = 0) (fun x => x = 0) 69), (53, o_aload 0 1), (54, o_getR 4 24 16), (57, o_iload 1 1), (58, o_aload 0 1), (59, o_getI 4 24 13), (62, o_ii fun x y => x - y), (63, o_iald), (64, o_push (.int 4) 1), (65, o_ii fun x y => x + y), (66, o_goto 86), (69, o_aload 0 1), (70, o_aload 0 1), (71, o_getR 4 24 16), (74, o_iload 1 1), (75, o_aload 0 1), (76, o_getI 4 24 13), (79, o_ii fun x y => x - y), (80, o_iald), (81, o_push (.int 4) 1), (82, o_ii fun x y => x + y), (86, o_istore 4 2), (88, o_iload 3 1), (89, o_if (fun x => x < 0) (fun x => ¬ x < 0) 102), (92, o_iload 3 1), (93, o_aload 0 1), (94, o_iload 4 2), (99, o_ic (fun x y => x < y) (fun x y => ¬ x < y) 104), (102, o_push (.long 0) 1), (104, o_iinc 4 1), (107, o_push (.int 0) 1), (108, o_istore 5 2), (110, o_iload 5 2), (112, o_iload 3 1), (113, o_ic (fun x y => y ≤ x) (fun x y => ¬ y ≤ x) 130), (116, o_aload 0 1), (117, o_iload 4 2), (122, o_istore 4 2), (124, o_iinc 5 1), (127, o_goto 110), (130, o_aload 0 1), (131, o_iload 4 2)]
set_option maxRecDepth 100000 in
theorem A_M_listed (l : ct_Lx) : ct_al l M_M_listed (T_M_listed) := by
  refine ct_al.cons (so_aload_n d_M_listed_0 rfl) ?_
  refine ct_al.cons (so_iload_n d_M_listed_1 rfl) ?_
  refine ct_al.cons (so_if_eq d_M_listed_5 (by decide)) ?_
  refine ct_al.cons (so_iload_n d_M_listed_8 rfl) ?_
  refine ct_al.cons (so_if_lt d_M_listed_9 (by decide)) ?_
  refine ct_al.cons (so_iload_n d_M_listed_12 rfl) ?_
  refine ct_al.cons (so_iconst d_M_listed_13 (by decide)) ?_
  refine ct_al.cons (so_ic_gt d_M_listed_14 (by decide)) ?_
  refine ct_al.cons (so_iload_n d_M_listed_17 rfl) ?_
  refine ct_al.cons (so_aload_n d_M_listed_18 rfl) ?_
  refine ct_al.cons (so_getI (Cn := "CodeTablesModel") (T := ct_T4) kc_4 (by decide) rfl rfl wd_415 d_M_listed_19) ?_
  refine ct_al.cons (so_ic_lt d_M_listed_22 (by decide)) ?_
  refine ct_al.cons (so_iload_n d_M_listed_25 rfl) ?_
  refine ct_al.cons (so_iconst d_M_listed_26 (by decide)) ?_
  refine ct_al.cons (so_ic_ne d_M_listed_27 (by decide)) ?_
  refine ct_al.cons (so_lconst d_M_listed_30 (by decide)) ?_
  refine ct_al.cons (so_iload_n d_M_listed_32 rfl) ?_
  refine ct_al.cons (so_aload_n d_M_listed_33 rfl) ?_
  refine ct_al.cons (so_getI (Cn := "CodeTablesModel") (T := ct_T4) kc_4 (by decide) rfl rfl wd_415 d_M_listed_34) ?_
  refine ct_al.cons (so_ic_ge d_M_listed_37 (by decide)) ?_
  refine ct_al.cons (so_aload_n d_M_listed_40 rfl) ?_
  refine ct_al.cons (so_iload_n d_M_listed_41 rfl) ?_
  refine ct_al.cons (so_iload_n d_M_listed_42 rfl) ?_
  refine ct_al.cons (so_goto d_M_listed_46 (by decide)) ?_
  refine ct_al.cons (so_iload_n d_M_listed_49 rfl) ?_
  refine ct_al.cons (so_if_ne d_M_listed_50 (by decide)) ?_
  refine ct_al.cons (so_aload_n d_M_listed_53 rfl) ?_
  refine ct_al.cons (so_getR (Cn := "CodeTablesModel") (T := ct_T4) kc_4 (by decide) rfl rfl wd_342 d_M_listed_54) ?_
  refine ct_al.cons (so_iload_n d_M_listed_57 rfl) ?_
  refine ct_al.cons (so_aload_n d_M_listed_58 rfl) ?_
  refine ct_al.cons (so_getI (Cn := "CodeTablesModel") (T := ct_T4) kc_4 (by decide) rfl rfl wd_415 d_M_listed_59) ?_
  refine ct_al.cons (so_isub d_M_listed_62) ?_
  refine ct_al.cons (so_iald d_M_listed_63) ?_
  refine ct_al.cons (so_iconst d_M_listed_64 (by decide)) ?_
  refine ct_al.cons (so_iadd d_M_listed_65) ?_
  refine ct_al.cons (so_goto d_M_listed_66 (by decide)) ?_
  refine ct_al.cons (so_aload_n d_M_listed_69 rfl) ?_
  refine ct_al.cons (so_aload_n d_M_listed_70 rfl) ?_
  refine ct_al.cons (so_getR (Cn := "CodeTablesModel") (T := ct_T4) kc_4 (by decide) rfl rfl wd_342 d_M_listed_71) ?_
  refine ct_al.cons (so_iload_n d_M_listed_74 rfl) ?_
  refine ct_al.cons (so_aload_n d_M_listed_75 rfl) ?_
  refine ct_al.cons (so_getI (Cn := "CodeTablesModel") (T := ct_T4) kc_4 (by decide) rfl rfl wd_415 d_M_listed_76) ?_
  refine ct_al.cons (so_isub d_M_listed_79) ?_
  refine ct_al.cons (so_iald d_M_listed_80) ?_
  refine ct_al.cons (so_iconst d_M_listed_81 (by decide)) ?_
  refine ct_al.cons (so_iadd d_M_listed_82) ?_
  refine ct_al.cons (so_istore d_M_listed_86 (by decide)) ?_
  refine ct_al.cons (so_iload_n d_M_listed_88 rfl) ?_
  refine ct_al.cons (so_if_lt d_M_listed_89 (by decide)) ?_
  refine ct_al.cons (so_iload_n d_M_listed_92 rfl) ?_
  refine ct_al.cons (so_aload_n d_M_listed_93 rfl) ?_
  refine ct_al.cons (so_iload d_M_listed_94) ?_
  refine ct_al.cons (so_ic_lt d_M_listed_99 (by decide)) ?_
  refine ct_al.cons (so_lconst d_M_listed_102 (by decide)) ?_
  refine ct_al.cons (so_iinc d_M_listed_104 (by decide) (by decide)) ?_
  refine ct_al.cons (so_iconst d_M_listed_107 (by decide)) ?_
  refine ct_al.cons (so_istore d_M_listed_108 (by decide)) ?_
  refine ct_al.cons (so_iload d_M_listed_110) ?_
  refine ct_al.cons (so_iload_n d_M_listed_112 rfl) ?_
  refine ct_al.cons (so_ic_ge d_M_listed_113 (by decide)) ?_
  refine ct_al.cons (so_aload_n d_M_listed_116 rfl) ?_
  refine ct_al.cons (so_iload d_M_listed_117) ?_
  refine ct_al.cons (so_istore d_M_listed_122 (by decide)) ?_
  refine ct_al.cons (so_iinc d_M_listed_124 (by decide) (by decide)) ?_
  refine ct_al.cons (so_goto d_M_listed_127 (by decide)) ?_
  refine ct_al.cons (so_aload_n d_M_listed_130 rfl) ?_
  refine ct_al.cons (so_iload d_M_listed_131) ?_
  exact ct_al.nil
theorem e_M_listed_0 : ct_tab (T_M_listed) 0 = some (o_aload 0 1) := rfl
theorem e_M_listed_1 : ct_tab (T_M_listed) 1 = some (o_iload 1 1) := rfl
theorem e_M_listed_5 : ct_tab (T_M_listed) 5 = some (o_if (fun x => x = 0) (fun x => ¬ x = 0) 30) := rfl
theorem e_M_listed_8 : ct_tab (T_M_listed) 8 = some (o_iload 2 1) := rfl
theorem e_M_listed_9 : ct_tab (T_M_listed) 9 = some (o_if (fun x => x < 0) (fun x => ¬ x < 0) 30) := rfl
theorem e_M_listed_12 : ct_tab (T_M_listed) 12 = some (o_iload 2 1) := rfl
theorem e_M_listed_13 : ct_tab (T_M_listed) 13 = some (o_push (.int 2) 1) := rfl
theorem e_M_listed_14 : ct_tab (T_M_listed) 14 = some (o_ic (fun x y => y < x) (fun x y => ¬ y < x) 30) := rfl
theorem e_M_listed_17 : ct_tab (T_M_listed) 17 = some (o_iload 1 1) := rfl
theorem e_M_listed_18 : ct_tab (T_M_listed) 18 = some (o_aload 0 1) := rfl
theorem e_M_listed_19 : ct_tab (T_M_listed) 19 = some (o_getI 4 24 13) := rfl
theorem e_M_listed_22 : ct_tab (T_M_listed) 22 = some (o_ic (fun x y => x < y) (fun x y => ¬ x < y) 32) := rfl
theorem e_M_listed_25 : ct_tab (T_M_listed) 25 = some (o_iload 2 1) := rfl
theorem e_M_listed_26 : ct_tab (T_M_listed) 26 = some (o_push (.int 2) 1) := rfl
theorem e_M_listed_27 : ct_tab (T_M_listed) 27 = some (o_ic (fun x y => ¬ x = y) (fun x y => x = y) 32) := rfl
theorem e_M_listed_30 : ct_tab (T_M_listed) 30 = some (o_push (.long 0) 1) := rfl
theorem e_M_listed_32 : ct_tab (T_M_listed) 32 = some (o_iload 1 1) := rfl
theorem e_M_listed_33 : ct_tab (T_M_listed) 33 = some (o_aload 0 1) := rfl
theorem e_M_listed_34 : ct_tab (T_M_listed) 34 = some (o_getI 4 24 13) := rfl
theorem e_M_listed_37 : ct_tab (T_M_listed) 37 = some (o_ic (fun x y => y ≤ x) (fun x y => ¬ y ≤ x) 49) := rfl
theorem e_M_listed_40 : ct_tab (T_M_listed) 40 = some (o_aload 0 1) := rfl
theorem e_M_listed_41 : ct_tab (T_M_listed) 41 = some (o_iload 1 1) := rfl
theorem e_M_listed_42 : ct_tab (T_M_listed) 42 = some (o_iload 2 1) := rfl
theorem e_M_listed_46 : ct_tab (T_M_listed) 46 = some (o_goto 86) := rfl
theorem e_M_listed_49 : ct_tab (T_M_listed) 49 = some (o_iload 2 1) := rfl
theorem e_M_listed_50 : ct_tab (T_M_listed) 50 = some (o_if (fun x => ¬ x = 0) (fun x => x = 0) 69) := rfl
theorem e_M_listed_53 : ct_tab (T_M_listed) 53 = some (o_aload 0 1) := rfl
theorem e_M_listed_54 : ct_tab (T_M_listed) 54 = some (o_getR 4 24 16) := rfl
theorem e_M_listed_57 : ct_tab (T_M_listed) 57 = some (o_iload 1 1) := rfl
theorem e_M_listed_58 : ct_tab (T_M_listed) 58 = some (o_aload 0 1) := rfl
theorem e_M_listed_59 : ct_tab (T_M_listed) 59 = some (o_getI 4 24 13) := rfl
theorem e_M_listed_62 : ct_tab (T_M_listed) 62 = some (o_ii fun x y => x - y) := rfl
theorem e_M_listed_63 : ct_tab (T_M_listed) 63 = some (o_iald) := rfl
theorem e_M_listed_64 : ct_tab (T_M_listed) 64 = some (o_push (.int 4) 1) := rfl
theorem e_M_listed_65 : ct_tab (T_M_listed) 65 = some (o_ii fun x y => x + y) := rfl
theorem e_M_listed_66 : ct_tab (T_M_listed) 66 = some (o_goto 86) := rfl
theorem e_M_listed_69 : ct_tab (T_M_listed) 69 = some (o_aload 0 1) := rfl
theorem e_M_listed_70 : ct_tab (T_M_listed) 70 = some (o_aload 0 1) := rfl
theorem e_M_listed_71 : ct_tab (T_M_listed) 71 = some (o_getR 4 24 16) := rfl
theorem e_M_listed_74 : ct_tab (T_M_listed) 74 = some (o_iload 1 1) := rfl
theorem e_M_listed_75 : ct_tab (T_M_listed) 75 = some (o_aload 0 1) := rfl
theorem e_M_listed_76 : ct_tab (T_M_listed) 76 = some (o_getI 4 24 13) := rfl
theorem e_M_listed_79 : ct_tab (T_M_listed) 79 = some (o_ii fun x y => x - y) := rfl
theorem e_M_listed_80 : ct_tab (T_M_listed) 80 = some (o_iald) := rfl
theorem e_M_listed_81 : ct_tab (T_M_listed) 81 = some (o_push (.int 4) 1) := rfl
theorem e_M_listed_82 : ct_tab (T_M_listed) 82 = some (o_ii fun x y => x + y) := rfl
theorem e_M_listed_86 : ct_tab (T_M_listed) 86 = some (o_istore 4 2) := rfl
theorem e_M_listed_88 : ct_tab (T_M_listed) 88 = some (o_iload 3 1) := rfl
theorem e_M_listed_89 : ct_tab (T_M_listed) 89 = some (o_if (fun x => x < 0) (fun x => ¬ x < 0) 102) := rfl
theorem e_M_listed_92 : ct_tab (T_M_listed) 92 = some (o_iload 3 1) := rfl
theorem e_M_listed_93 : ct_tab (T_M_listed) 93 = some (o_aload 0 1) := rfl
theorem e_M_listed_94 : ct_tab (T_M_listed) 94 = some (o_iload 4 2) := rfl
theorem e_M_listed_99 : ct_tab (T_M_listed) 99 = some (o_ic (fun x y => x < y) (fun x y => ¬ x < y) 104) := rfl
theorem e_M_listed_102 : ct_tab (T_M_listed) 102 = some (o_push (.long 0) 1) := rfl
theorem e_M_listed_104 : ct_tab (T_M_listed) 104 = some (o_iinc 4 1) := rfl
theorem e_M_listed_107 : ct_tab (T_M_listed) 107 = some (o_push (.int 0) 1) := rfl
theorem e_M_listed_108 : ct_tab (T_M_listed) 108 = some (o_istore 5 2) := rfl
theorem e_M_listed_110 : ct_tab (T_M_listed) 110 = some (o_iload 5 2) := rfl
theorem e_M_listed_112 : ct_tab (T_M_listed) 112 = some (o_iload 3 1) := rfl
theorem e_M_listed_113 : ct_tab (T_M_listed) 113 = some (o_ic (fun x y => y ≤ x) (fun x y => ¬ y ≤ x) 130) := rfl
theorem e_M_listed_116 : ct_tab (T_M_listed) 116 = some (o_aload 0 1) := rfl
theorem e_M_listed_117 : ct_tab (T_M_listed) 117 = some (o_iload 4 2) := rfl
theorem e_M_listed_122 : ct_tab (T_M_listed) 122 = some (o_istore 4 2) := rfl
theorem e_M_listed_124 : ct_tab (T_M_listed) 124 = some (o_iinc 5 1) := rfl
theorem e_M_listed_127 : ct_tab (T_M_listed) 127 = some (o_goto 110) := rfl
theorem e_M_listed_130 : ct_tab (T_M_listed) 130 = some (o_aload 0 1) := rfl
theorem e_M_listed_131 : ct_tab (T_M_listed) 131 = some (o_iload 4 2) := rfl
theorem cl_M_listed_2 {l : ct_Lx} {d d1 : Nat} {Post Post1 : Option Value → ct_Sg → Prop} {lv : ct_Lv} {st : List Value} {g : ct_Sg} {bc bs c1 s1 : Nat} {a1 : Value} {h : Nat} (hsh : g.2.1 h = (10 + 4, 24)) (hM : ct_Me l M_M_isFunction d1 c1 s1 [.ref h, a1] g Post1) (hdd : d1 + 1 ≤ d) (hk : (st.map fun v => v.category).sum ≤ 8) (hcc : c1 ≤ bc) (hss : s1 ≤ bs) (kk : ∀ (v : Option Value) (g' : ct_Sg), Post1 v g' → ct_Wp l M_M_listed d Post (5, lv, v.toList ++ st, g', bc - c1, bs - s1)) : ct_Wp l M_M_listed d Post (2, lv, a1 :: .ref h :: st, g, bc, bs) := ct_Wp.callV (ci := 4) (N := 24) (T := ct_T4) (As := [a1]) lk_M_isFunction (Or.inl wd_506) wd_507 wd_508 rfl d_M_listed_2 hsh hM rfl hdd hk hcc hss kk
theorem cl_M_listed_43 {l : ct_Lx} {d d1 : Nat} {Post Post1 : Option Value → ct_Sg → Prop} {lv : ct_Lv} {st : List Value} {g : ct_Sg} {bc bs c1 s1 : Nat} {a1 a2 : Value} {h : Nat} (hsh : g.2.1 h = (10 + 4, 24)) (hM : ct_Me l M_M_listAt d1 c1 s1 [.ref h, a1, a2] g Post1) (hdd : d1 + 1 ≤ d) (hk : (st.map fun v => v.category).sum ≤ 8) (hcc : c1 ≤ bc) (hss : s1 ≤ bs) (kk : ∀ (v : Option Value) (g' : ct_Sg), Post1 v g' → ct_Wp l M_M_listed d Post (46, lv, v.toList ++ st, g', bc - c1, bs - s1)) : ct_Wp l M_M_listed d Post (43, lv, a2 :: a1 :: .ref h :: st, g, bc, bs) := ct_Wp.callV (ci := 4) (N := 24) (T := ct_T4) (As := [a1, a2]) lk_M_listAt (Or.inl wd_468) wd_469 wd_470 rfl d_M_listed_43 hsh hM rfl hdd hk hcc hss kk
theorem cl_M_listed_83 {l : ct_Lx} {d d1 : Nat} {Post Post1 : Option Value → ct_Sg → Prop} {lv : ct_Lv} {st : List Value} {g : ct_Sg} {bc bs c1 s1 : Nat} {a1 : Value} {h : Nat} (hsh : g.2.1 h = (10 + 4, 24)) (hM : ct_Me l M_M_listEnd d1 c1 s1 [.ref h, a1] g Post1) (hdd : d1 + 1 ≤ d) (hk : (st.map fun v => v.category).sum ≤ 8) (hcc : c1 ≤ bc) (hss : s1 ≤ bs) (kk : ∀ (v : Option Value) (g' : ct_Sg), Post1 v g' → ct_Wp l M_M_listed d Post (86, lv, v.toList ++ st, g', bc - c1, bs - s1)) : ct_Wp l M_M_listed d Post (83, lv, a1 :: .ref h :: st, g, bc, bs) := ct_Wp.callV (ci := 4) (N := 24) (T := ct_T4) (As := [a1]) lk_M_listEnd (Or.inl wd_463) wd_464 wd_465 rfl d_M_listed_83 hsh hM rfl hdd hk hcc hss kk
theorem cl_M_listed_96 {l : ct_Lx} {d d1 : Nat} {Post Post1 : Option Value → ct_Sg → Prop} {lv : ct_Lv} {st : List Value} {g : ct_Sg} {bc bs c1 s1 : Nat} {a1 : Value} {h : Nat} (hsh : g.2.1 h = (10 + 4, 24)) (hM : ct_Me l M_M_byteAt d1 c1 s1 [.ref h, a1] g Post1) (hdd : d1 + 1 ≤ d) (hk : (st.map fun v => v.category).sum ≤ 8) (hcc : c1 ≤ bc) (hss : s1 ≤ bs) (kk : ∀ (v : Option Value) (g' : ct_Sg), Post1 v g' → ct_Wp l M_M_listed d Post (99, lv, v.toList ++ st, g', bc - c1, bs - s1)) : ct_Wp l M_M_listed d Post (96, lv, a1 :: .ref h :: st, g, bc, bs) := ct_Wp.callV (ci := 4) (N := 24) (T := ct_T4) (As := [a1]) lk_M_byteAt (Or.inl wd_357) wd_358 wd_359 rfl d_M_listed_96 hsh hM rfl hdd hk hcc hss kk
theorem cl_M_listed_119 {l : ct_Lx} {d d1 : Nat} {Post Post1 : Option Value → ct_Sg → Prop} {lv : ct_Lv} {st : List Value} {g : ct_Sg} {bc bs c1 s1 : Nat} {a1 : Value} {h : Nat} (hsh : g.2.1 h = (10 + 4, 24)) (hM : ct_Me l M_M_typeEnd d1 c1 s1 [.ref h, a1] g Post1) (hdd : d1 + 1 ≤ d) (hk : (st.map fun v => v.category).sum ≤ 8) (hcc : c1 ≤ bc) (hss : s1 ≤ bs) (kk : ∀ (v : Option Value) (g' : ct_Sg), Post1 v g' → ct_Wp l M_M_listed d Post (122, lv, v.toList ++ st, g', bc - c1, bs - s1)) : ct_Wp l M_M_listed d Post (119, lv, a1 :: .ref h :: st, g, bc, bs) := ct_Wp.callV (ci := 4) (N := 24) (T := ct_T4) (As := [a1]) lk_M_typeEnd (Or.inl wd_423) wd_424 wd_425 rfl d_M_listed_119 hsh hM rfl hdd hk hcc hss kk
theorem cl_M_listed_133 {l : ct_Lx} {d d1 : Nat} {Post Post1 : Option Value → ct_Sg → Prop} {lv : ct_Lv} {st : List Value} {g : ct_Sg} {bc bs c1 s1 : Nat} {a1 : Value} {h : Nat} (hsh : g.2.1 h = (10 + 4, 24)) (hM : ct_Me l M_M_typeAt d1 c1 s1 [.ref h, a1] g Post1) (hdd : d1 + 1 ≤ d) (hk : (st.map fun v => v.category).sum ≤ 8) (hcc : c1 ≤ bc) (hss : s1 ≤ bs) (kk : ∀ (v : Option Value) (g' : ct_Sg), Post1 v g' → ct_Wp l M_M_listed d Post (136, lv, v.toList ++ st, g', bc - c1, bs - s1)) : ct_Wp l M_M_listed d Post (133, lv, a1 :: .ref h :: st, g, bc, bs) := ct_Wp.callV (ci := 4) (N := 24) (T := ct_T4) (As := [a1]) lk_M_typeAt (Or.inl wd_501) wd_502 wd_503 rfl d_M_listed_133 hsh hM rfl hdd hk hcc hss kk
theorem d_M_element_0 : decode prog_7_method_39_code 0 = .ok (.aload_n 0, 1) := by decide +kernel
theorem d_M_element_1 : decode prog_7_method_39_code 1 = .ok (.getfield 167, 3) := by decide +kernel
theorem d_M_element_4 : decode prog_7_method_39_code 4 = .ok (.ifCond .eq 28, 3) := by decide +kernel
theorem d_M_element_7 : decode prog_7_method_39_code 7 = .ok (.iload_n 1, 1) := by decide +kernel
theorem d_M_element_8 : decode prog_7_method_39_code 8 = .ok (.ifCond .lt 24, 3) := by decide +kernel
theorem d_M_element_11 : decode prog_7_method_39_code 11 = .ok (.iload_n 1, 1) := by decide +kernel
theorem d_M_element_12 : decode prog_7_method_39_code 12 = .ok (.aload_n 0, 1) := by decide +kernel
theorem d_M_element_13 : decode prog_7_method_39_code 13 = .ok (.getfield 111, 3) := by decide +kernel
theorem d_M_element_16 : decode prog_7_method_39_code 16 = .ok (.if_icmp .ge 16, 3) := by decide +kernel
theorem d_M_element_19 : decode prog_7_method_39_code 19 = .ok (.aload_n 0, 1) := by decide +kernel
theorem d_M_element_20 : decode prog_7_method_39_code 20 = .ok (.aload_n 0, 1) := by decide +kernel
theorem d_M_element_21 : decode prog_7_method_39_code 21 = .ok (.getfield 24, 3) := by decide +kernel
theorem d_M_element_24 : decode prog_7_method_39_code 24 = .ok (.iload_n 1, 1) := by decide +kernel
theorem d_M_element_25 : decode prog_7_method_39_code 25 = .ok (.iaload, 1) := by decide +kernel
theorem d_M_element_26 : decode prog_7_method_39_code 26 = .ok (.invokevirtual 176, 3) := by decide +kernel
theorem d_M_element_29 : decode prog_7_method_39_code 29 = .ok (.goto 4, 3) := by decide +kernel
theorem d_M_element_32 : decode prog_7_method_39_code 32 = .ok (.lconst 0, 1) := by decide +kernel
theorem d_M_element_33 : decode prog_7_method_39_code 33 = .ok (.lreturn, 1) := by decide +kernel
abbrev T_M_element : List (Nat × ct_PT) := [(0, o_aload 0 1), (1, o_getI 4 24 4), (4, o_if (fun x => x = 0) (fun x => ¬ x = 0) 32), (7, o_iload 1 1), (8, o_if (fun x => x < 0) (fun x => ¬ x < 0) 32), (11, o_iload 1 1), (12, o_aload 0 1), (13, o_getI 4 24 12), (16, o_ic (fun x y => y ≤ x) (fun x y => ¬ y ≤ x) 32), (19, o_aload 0 1), (20, o_aload 0 1), (21, o_getR 4 24 17), (24, o_iload 1 1), (25, o_iald), (29, o_goto 33), (32, o_push (.long 0) 1)]
set_option maxRecDepth 100000 in
theorem A_M_element (l : ct_Lx) : ct_al l M_M_element (T_M_element) := by
  refine ct_al.cons (so_aload_n d_M_element_0 rfl) ?_
  refine ct_al.cons (so_getI (Cn := "CodeTablesModel") (T := ct_T4) kc_4 (by decide) rfl rfl wd_496 d_M_element_1) ?_
  refine ct_al.cons (so_if_eq d_M_element_4 (by decide)) ?_
  refine ct_al.cons (so_iload_n d_M_element_7 rfl) ?_
  refine ct_al.cons (so_if_lt d_M_element_8 (by decide)) ?_
  refine ct_al.cons (so_iload_n d_M_element_11 rfl) ?_
  refine ct_al.cons (so_aload_n d_M_element_12 rfl) ?_
  refine ct_al.cons (so_getI (Cn := "CodeTablesModel") (T := ct_T4) kc_4 (by decide) rfl rfl wd_414 d_M_element_13) ?_
  refine ct_al.cons (so_ic_ge d_M_element_16 (by decide)) ?_
  refine ct_al.cons (so_aload_n d_M_element_19 rfl) ?_
  refine ct_al.cons (so_aload_n d_M_element_20 rfl) ?_
  refine ct_al.cons (so_getR (Cn := "CodeTablesModel") (T := ct_T4) kc_4 (by decide) rfl rfl wd_343 d_M_element_21) ?_
  refine ct_al.cons (so_iload_n d_M_element_24 rfl) ?_
  refine ct_al.cons (so_iald d_M_element_25) ?_
  refine ct_al.cons (so_goto d_M_element_29 (by decide)) ?_
  refine ct_al.cons (so_lconst d_M_element_32 (by decide)) ?_
  exact ct_al.nil
theorem e_M_element_0 : ct_tab (T_M_element) 0 = some (o_aload 0 1) := rfl
theorem e_M_element_1 : ct_tab (T_M_element) 1 = some (o_getI 4 24 4) := rfl
theorem e_M_element_4 : ct_tab (T_M_element) 4 = some (o_if (fun x => x = 0) (fun x => ¬ x = 0) 32) := rfl
theorem e_M_element_7 : ct_tab (T_M_element) 7 = some (o_iload 1 1) := rfl
theorem e_M_element_8 : ct_tab (T_M_element) 8 = some (o_if (fun x => x < 0) (fun x => ¬ x < 0) 32) := rfl
theorem e_M_element_11 : ct_tab (T_M_element) 11 = some (o_iload 1 1) := rfl
theorem e_M_element_12 : ct_tab (T_M_element) 12 = some (o_aload 0 1) := rfl
theorem e_M_element_13 : ct_tab (T_M_element) 13 = some (o_getI 4 24 12) := rfl
theorem e_M_element_16 : ct_tab (T_M_element) 16 = some (o_ic (fun x y => y ≤ x) (fun x y => ¬ y ≤ x) 32) := rfl
theorem e_M_element_19 : ct_tab (T_M_element) 19 = some (o_aload 0 1) := rfl
theorem e_M_element_20 : ct_tab (T_M_element) 20 = some (o_aload 0 1) := rfl
theorem e_M_element_21 : ct_tab (T_M_element) 21 = some (o_getR 4 24 17) := rfl
theorem e_M_element_24 : ct_tab (T_M_element) 24 = some (o_iload 1 1) := rfl
theorem e_M_element_25 : ct_tab (T_M_element) 25 = some (o_iald) := rfl
theorem e_M_element_29 : ct_tab (T_M_element) 29 = some (o_goto 33) := rfl
theorem e_M_element_32 : ct_tab (T_M_element) 32 = some (o_push (.long 0) 1) := rfl
theorem cl_M_element_26 {l : ct_Lx} {d d1 : Nat} {Post Post1 : Option Value → ct_Sg → Prop} {lv : ct_Lv} {st : List Value} {g : ct_Sg} {bc bs c1 s1 : Nat} {a1 : Value} {h : Nat} (hsh : g.2.1 h = (10 + 4, 24)) (hM : ct_Me l M_M_typeAt d1 c1 s1 [.ref h, a1] g Post1) (hdd : d1 + 1 ≤ d) (hk : (st.map fun v => v.category).sum ≤ 8) (hcc : c1 ≤ bc) (hss : s1 ≤ bs) (kk : ∀ (v : Option Value) (g' : ct_Sg), Post1 v g' → ct_Wp l M_M_element d Post (29, lv, v.toList ++ st, g', bc - c1, bs - s1)) : ct_Wp l M_M_element d Post (26, lv, a1 :: .ref h :: st, g, bc, bs) := ct_Wp.callV (ci := 4) (N := 24) (T := ct_T4) (As := [a1]) lk_M_typeAt (Or.inl wd_501) wd_502 wd_503 rfl d_M_element_26 hsh hM rfl hdd hk hcc hss kk
theorem d_M_instruction_0 : decode prog_7_method_40_code 0 = .ok (.aload_n 0, 1) := by decide +kernel
theorem d_M_instruction_1 : decode prog_7_method_40_code 1 = .ok (.getfield 167, 3) := by decide +kernel
theorem d_M_instruction_4 : decode prog_7_method_40_code 4 = .ok (.ifCond .eq 42, 3) := by decide +kernel
theorem d_M_instruction_7 : decode prog_7_method_40_code 7 = .ok (.iload_n 1, 1) := by decide +kernel
theorem d_M_instruction_8 : decode prog_7_method_40_code 8 = .ok (.ifCond .lt 38, 3) := by decide +kernel
theorem d_M_instruction_11 : decode prog_7_method_40_code 11 = .ok (.iload_n 1, 1) := by decide +kernel
theorem d_M_instruction_12 : decode prog_7_method_40_code 12 = .ok (.aload_n 0, 1) := by decide +kernel
theorem d_M_instruction_13 : decode prog_7_method_40_code 13 = .ok (.getfield 114, 3) := by decide +kernel
theorem d_M_instruction_16 : decode prog_7_method_40_code 16 = .ok (.if_icmp .ge 30, 3) := by decide +kernel
theorem d_M_instruction_19 : decode prog_7_method_40_code 19 = .ok (.iload_n 2, 1) := by decide +kernel
theorem d_M_instruction_20 : decode prog_7_method_40_code 20 = .ok (.ifCond .lt 26, 3) := by decide +kernel
theorem d_M_instruction_23 : decode prog_7_method_40_code 23 = .ok (.iload_n 2, 1) := by decide +kernel
theorem d_M_instruction_24 : decode prog_7_method_40_code 24 = .ok (.aload_n 0, 1) := by decide +kernel
theorem d_M_instruction_25 : decode prog_7_method_40_code 25 = .ok (.getfield 30, 3) := by decide +kernel
theorem d_M_instruction_28 : decode prog_7_method_40_code 28 = .ok (.iload_n 1, 1) := by decide +kernel
theorem d_M_instruction_29 : decode prog_7_method_40_code 29 = .ok (.iconst 1, 1) := by decide +kernel
theorem d_M_instruction_30 : decode prog_7_method_40_code 30 = .ok (.iadd, 1) := by decide +kernel
theorem d_M_instruction_31 : decode prog_7_method_40_code 31 = .ok (.iaload, 1) := by decide +kernel
theorem d_M_instruction_32 : decode prog_7_method_40_code 32 = .ok (.aload_n 0, 1) := by decide +kernel
theorem d_M_instruction_33 : decode prog_7_method_40_code 33 = .ok (.getfield 30, 3) := by decide +kernel
theorem d_M_instruction_36 : decode prog_7_method_40_code 36 = .ok (.iload_n 1, 1) := by decide +kernel
theorem d_M_instruction_37 : decode prog_7_method_40_code 37 = .ok (.iaload, 1) := by decide +kernel
theorem d_M_instruction_38 : decode prog_7_method_40_code 38 = .ok (.isub, 1) := by decide +kernel
theorem d_M_instruction_39 : decode prog_7_method_40_code 39 = .ok (.if_icmp .ge 7, 3) := by decide +kernel
theorem d_M_instruction_42 : decode prog_7_method_40_code 42 = .ok (.iconst 1, 1) := by decide +kernel
theorem d_M_instruction_43 : decode prog_7_method_40_code 43 = .ok (.goto 4, 3) := by decide +kernel
theorem d_M_instruction_46 : decode prog_7_method_40_code 46 = .ok (.iconst 0, 1) := by decide +kernel
theorem d_M_instruction_47 : decode prog_7_method_40_code 47 = .ok (.istore_n 3, 1) := by decide +kernel
theorem d_M_instruction_48 : decode prog_7_method_40_code 48 = .ok (.iload_n 3, 1) := by decide +kernel
theorem d_M_instruction_49 : decode prog_7_method_40_code 49 = .ok (.ifCond .eq 19, 3) := by decide +kernel
theorem d_M_instruction_52 : decode prog_7_method_40_code 52 = .ok (.aload_n 0, 1) := by decide +kernel
theorem d_M_instruction_53 : decode prog_7_method_40_code 53 = .ok (.getfield 33, 3) := by decide +kernel
theorem d_M_instruction_56 : decode prog_7_method_40_code 56 = .ok (.aload_n 0, 1) := by decide +kernel
theorem d_M_instruction_57 : decode prog_7_method_40_code 57 = .ok (.getfield 30, 3) := by decide +kernel
theorem d_M_instruction_60 : decode prog_7_method_40_code 60 = .ok (.iload_n 1, 1) := by decide +kernel
theorem d_M_instruction_61 : decode prog_7_method_40_code 61 = .ok (.iaload, 1) := by decide +kernel
theorem d_M_instruction_62 : decode prog_7_method_40_code 62 = .ok (.iload_n 2, 1) := by decide +kernel
theorem d_M_instruction_63 : decode prog_7_method_40_code 63 = .ok (.iadd, 1) := by decide +kernel
theorem d_M_instruction_64 : decode prog_7_method_40_code 64 = .ok (.iaload, 1) := by decide +kernel
theorem d_M_instruction_65 : decode prog_7_method_40_code 65 = .ok (.goto 4, 3) := by decide +kernel
theorem d_M_instruction_68 : decode prog_7_method_40_code 68 = .ok (.iconst (-1), 1) := by decide +kernel
theorem d_M_instruction_69 : decode prog_7_method_40_code 69 = .ok (.ireturn, 1) := by decide +kernel
abbrev T_M_instruction : List (Nat × ct_PT) := [(0, o_aload 0 1), (1, o_getI 4 24 4), (4, o_if (fun x => x = 0) (fun x => ¬ x = 0) 46), (7, o_iload 1 1), (8, o_if (fun x => x < 0) (fun x => ¬ x < 0) 46), (11, o_iload 1 1), (12, o_aload 0 1), (13, o_getI 4 24 13), (16, o_ic (fun x y => y ≤ x) (fun x y => ¬ y ≤ x) 46), (19, o_iload 2 1), (20, o_if (fun x => x < 0) (fun x => ¬ x < 0) 46), (23, o_iload 2 1), (24, o_aload 0 1), (25, o_getR 4 24 19), (28, o_iload 1 1), (29, o_push (.int 1) 1), (30, o_ii fun x y => x + y), (31, o_iald), (32, o_aload 0 1), (33, o_getR 4 24 19), (36, o_iload 1 1), (37, o_iald), (38, o_ii fun x y => x - y), (39, o_ic (fun x y => y ≤ x) (fun x y => ¬ y ≤ x) 46), (42, o_push (.int 1) 1), (43, o_goto 47), (46, o_push (.int 0) 1), (47, o_istore 3 1), (48, o_iload 3 1), (49, o_if (fun x => x = 0) (fun x => ¬ x = 0) 68), (52, o_aload 0 1), (53, o_getR 4 24 20), (56, o_aload 0 1), (57, o_getR 4 24 19), (60, o_iload 1 1), (61, o_iald), (62, o_iload 2 1), (63, o_ii fun x y => x + y), (64, o_iald), (65, o_goto 69), (68, o_push (.int (-1)) 1)]
set_option maxRecDepth 100000 in
theorem A_M_instruction (l : ct_Lx) : ct_al l M_M_instruction (T_M_instruction) := by
  refine ct_al.cons (so_aload_n d_M_instruction_0 rfl) ?_
  refine ct_al.cons (so_getI (Cn := "CodeTablesModel") (T := ct_T4) kc_4 (by decide) rfl rfl wd_496 d_M_instruction_1) ?_
  refine ct_al.cons (so_if_eq d_M_instruction_4 (by decide)) ?_
  refine ct_al.cons (so_iload_n d_M_instruction_7 rfl) ?_
  refine ct_al.cons (so_if_lt d_M_instruction_8 (by decide)) ?_
  refine ct_al.cons (so_iload_n d_M_instruction_11 rfl) ?_
  refine ct_al.cons (so_aload_n d_M_instruction_12 rfl) ?_
  refine ct_al.cons (so_getI (Cn := "CodeTablesModel") (T := ct_T4) kc_4 (by decide) rfl rfl wd_415 d_M_instruction_13) ?_
  refine ct_al.cons (so_ic_ge d_M_instruction_16 (by decide)) ?_
  refine ct_al.cons (so_iload_n d_M_instruction_19 rfl) ?_
  refine ct_al.cons (so_if_lt d_M_instruction_20 (by decide)) ?_
  refine ct_al.cons (so_iload_n d_M_instruction_23 rfl) ?_
  refine ct_al.cons (so_aload_n d_M_instruction_24 rfl) ?_
  refine ct_al.cons (so_getR (Cn := "CodeTablesModel") (T := ct_T4) kc_4 (by decide) rfl rfl wd_345 d_M_instruction_25) ?_
  refine ct_al.cons (so_iload_n d_M_instruction_28 rfl) ?_
  refine ct_al.cons (so_iconst d_M_instruction_29 (by decide)) ?_
  refine ct_al.cons (so_iadd d_M_instruction_30) ?_
  refine ct_al.cons (so_iald d_M_instruction_31) ?_
  refine ct_al.cons (so_aload_n d_M_instruction_32 rfl) ?_
  refine ct_al.cons (so_getR (Cn := "CodeTablesModel") (T := ct_T4) kc_4 (by decide) rfl rfl wd_345 d_M_instruction_33) ?_
  refine ct_al.cons (so_iload_n d_M_instruction_36 rfl) ?_
  refine ct_al.cons (so_iald d_M_instruction_37) ?_
  refine ct_al.cons (so_isub d_M_instruction_38) ?_
  refine ct_al.cons (so_ic_ge d_M_instruction_39 (by decide)) ?_
  refine ct_al.cons (so_iconst d_M_instruction_42 (by decide)) ?_
  refine ct_al.cons (so_goto d_M_instruction_43 (by decide)) ?_
  refine ct_al.cons (so_iconst d_M_instruction_46 (by decide)) ?_
  refine ct_al.cons (so_istore_n d_M_instruction_47 rfl (by decide)) ?_
  refine ct_al.cons (so_iload_n d_M_instruction_48 rfl) ?_
  refine ct_al.cons (so_if_eq d_M_instruction_49 (by decide)) ?_
  refine ct_al.cons (so_aload_n d_M_instruction_52 rfl) ?_
  refine ct_al.cons (so_getR (Cn := "CodeTablesModel") (T := ct_T4) kc_4 (by decide) rfl rfl wd_346 d_M_instruction_53) ?_
  refine ct_al.cons (so_aload_n d_M_instruction_56 rfl) ?_
  refine ct_al.cons (so_getR (Cn := "CodeTablesModel") (T := ct_T4) kc_4 (by decide) rfl rfl wd_345 d_M_instruction_57) ?_
  refine ct_al.cons (so_iload_n d_M_instruction_60 rfl) ?_
  refine ct_al.cons (so_iald d_M_instruction_61) ?_
  refine ct_al.cons (so_iload_n d_M_instruction_62 rfl) ?_
  refine ct_al.cons (so_iadd d_M_instruction_63) ?_
  refine ct_al.cons (so_iald d_M_instruction_64) ?_
  refine ct_al.cons (so_goto d_M_instruction_65 (by decide)) ?_
  refine ct_al.cons (so_iconst d_M_instruction_68 (by decide)) ?_
  exact ct_al.nil
theorem e_M_instruction_0 : ct_tab (T_M_instruction) 0 = some (o_aload 0 1) := rfl
theorem e_M_instruction_1 : ct_tab (T_M_instruction) 1 = some (o_getI 4 24 4) := rfl
theorem e_M_instruction_4 : ct_tab (T_M_instruction) 4 = some (o_if (fun x => x = 0) (fun x => ¬ x = 0) 46) := rfl
theorem e_M_instruction_7 : ct_tab (T_M_instruction) 7 = some (o_iload 1 1) := rfl
theorem e_M_instruction_8 : ct_tab (T_M_instruction) 8 = some (o_if (fun x => x < 0) (fun x => ¬ x < 0) 46) := rfl
theorem e_M_instruction_11 : ct_tab (T_M_instruction) 11 = some (o_iload 1 1) := rfl
theorem e_M_instruction_12 : ct_tab (T_M_instruction) 12 = some (o_aload 0 1) := rfl
theorem e_M_instruction_13 : ct_tab (T_M_instruction) 13 = some (o_getI 4 24 13) := rfl
theorem e_M_instruction_16 : ct_tab (T_M_instruction) 16 = some (o_ic (fun x y => y ≤ x) (fun x y => ¬ y ≤ x) 46) := rfl
theorem e_M_instruction_19 : ct_tab (T_M_instruction) 19 = some (o_iload 2 1) := rfl
theorem e_M_instruction_20 : ct_tab (T_M_instruction) 20 = some (o_if (fun x => x < 0) (fun x => ¬ x < 0) 46) := rfl
theorem e_M_instruction_23 : ct_tab (T_M_instruction) 23 = some (o_iload 2 1) := rfl
theorem e_M_instruction_24 : ct_tab (T_M_instruction) 24 = some (o_aload 0 1) := rfl
theorem e_M_instruction_25 : ct_tab (T_M_instruction) 25 = some (o_getR 4 24 19) := rfl
theorem e_M_instruction_28 : ct_tab (T_M_instruction) 28 = some (o_iload 1 1) := rfl
theorem e_M_instruction_29 : ct_tab (T_M_instruction) 29 = some (o_push (.int 1) 1) := rfl
theorem e_M_instruction_30 : ct_tab (T_M_instruction) 30 = some (o_ii fun x y => x + y) := rfl
theorem e_M_instruction_31 : ct_tab (T_M_instruction) 31 = some (o_iald) := rfl
theorem e_M_instruction_32 : ct_tab (T_M_instruction) 32 = some (o_aload 0 1) := rfl
theorem e_M_instruction_33 : ct_tab (T_M_instruction) 33 = some (o_getR 4 24 19) := rfl
theorem e_M_instruction_36 : ct_tab (T_M_instruction) 36 = some (o_iload 1 1) := rfl
theorem e_M_instruction_37 : ct_tab (T_M_instruction) 37 = some (o_iald) := rfl
theorem e_M_instruction_38 : ct_tab (T_M_instruction) 38 = some (o_ii fun x y => x - y) := rfl
theorem e_M_instruction_39 : ct_tab (T_M_instruction) 39 = some (o_ic (fun x y => y ≤ x) (fun x y => ¬ y ≤ x) 46) := rfl
theorem e_M_instruction_42 : ct_tab (T_M_instruction) 42 = some (o_push (.int 1) 1) := rfl
theorem e_M_instruction_43 : ct_tab (T_M_instruction) 43 = some (o_goto 47) := rfl
theorem e_M_instruction_46 : ct_tab (T_M_instruction) 46 = some (o_push (.int 0) 1) := rfl
theorem e_M_instruction_47 : ct_tab (T_M_instruction) 47 = some (o_istore 3 1) := rfl
theorem e_M_instruction_48 : ct_tab (T_M_instruction) 48 = some (o_iload 3 1) := rfl
theorem e_M_instruction_49 : ct_tab (T_M_instruction) 49 = some (o_if (fun x => x = 0) (fun x => ¬ x = 0) 68) := rfl
theorem e_M_instruction_52 : ct_tab (T_M_instruction) 52 = some (o_aload 0 1) := rfl
theorem e_M_instruction_53 : ct_tab (T_M_instruction) 53 = some (o_getR 4 24 20) := rfl
theorem e_M_instruction_56 : ct_tab (T_M_instruction) 56 = some (o_aload 0 1) := rfl
theorem e_M_instruction_57 : ct_tab (T_M_instruction) 57 = some (o_getR 4 24 19) := rfl
theorem e_M_instruction_60 : ct_tab (T_M_instruction) 60 = some (o_iload 1 1) := rfl
theorem e_M_instruction_61 : ct_tab (T_M_instruction) 61 = some (o_iald) := rfl
theorem e_M_instruction_62 : ct_tab (T_M_instruction) 62 = some (o_iload 2 1) := rfl
theorem e_M_instruction_63 : ct_tab (T_M_instruction) 63 = some (o_ii fun x y => x + y) := rfl
theorem e_M_instruction_64 : ct_tab (T_M_instruction) 64 = some (o_iald) := rfl
theorem e_M_instruction_65 : ct_tab (T_M_instruction) 65 = some (o_goto 69) := rfl
theorem e_M_instruction_68 : ct_tab (T_M_instruction) 68 = some (o_push (.int (-1)) 1) := rfl
theorem d_M_operation_0 : decode prog_7_method_41_code 0 = .ok (.aload_n 0, 1) := by decide +kernel
theorem d_M_operation_1 : decode prog_7_method_41_code 1 = .ok (.iload_n 1, 1) := by decide +kernel
theorem d_M_operation_2 : decode prog_7_method_41_code 2 = .ok (.iload_n 2, 1) := by decide +kernel
theorem d_M_operation_3 : decode prog_7_method_41_code 3 = .ok (.invokevirtual 183, 3) := by decide +kernel
theorem d_M_operation_6 : decode prog_7_method_41_code 6 = .ok (.istore_n 3, 1) := by decide +kernel
theorem d_M_operation_7 : decode prog_7_method_41_code 7 = .ok (.iload_n 3, 1) := by decide +kernel
theorem d_M_operation_8 : decode prog_7_method_41_code 8 = .ok (.ifCond .ge 7, 3) := by decide +kernel
theorem d_M_operation_11 : decode prog_7_method_41_code 11 = .ok (.iconst (-1), 1) := by decide +kernel
theorem d_M_operation_12 : decode prog_7_method_41_code 12 = .ok (.goto 8, 3) := by decide +kernel
theorem d_M_operation_15 : decode prog_7_method_41_code 15 = .ok (.aload_n 0, 1) := by decide +kernel
theorem d_M_operation_16 : decode prog_7_method_41_code 16 = .ok (.iload_n 3, 1) := by decide +kernel
theorem d_M_operation_17 : decode prog_7_method_41_code 17 = .ok (.invokevirtual 56, 3) := by decide +kernel
theorem d_M_operation_20 : decode prog_7_method_41_code 20 = .ok (.ireturn, 1) := by decide +kernel
abbrev T_M_operation : List (Nat × ct_PT) := [(0, o_aload 0 1), (1, o_iload 1 1), (2, o_iload 2 1), (6, o_istore 3 1), (7, o_iload 3 1), (8, o_if (fun x => 0 ≤ x) (fun x => ¬ 0 ≤ x) 15), (11, o_push (.int (-1)) 1), (12, o_goto 20), (15, o_aload 0 1), (16, o_iload 3 1)]
set_option maxRecDepth 100000 in
theorem A_M_operation (l : ct_Lx) : ct_al l M_M_operation (T_M_operation) := by
  refine ct_al.cons (so_aload_n d_M_operation_0 rfl) ?_
  refine ct_al.cons (so_iload_n d_M_operation_1 rfl) ?_
  refine ct_al.cons (so_iload_n d_M_operation_2 rfl) ?_
  refine ct_al.cons (so_istore_n d_M_operation_6 rfl (by decide)) ?_
  refine ct_al.cons (so_iload_n d_M_operation_7 rfl) ?_
  refine ct_al.cons (so_if_ge d_M_operation_8 (by decide)) ?_
  refine ct_al.cons (so_iconst d_M_operation_11 (by decide)) ?_
  refine ct_al.cons (so_goto d_M_operation_12 (by decide)) ?_
  refine ct_al.cons (so_aload_n d_M_operation_15 rfl) ?_
  refine ct_al.cons (so_iload_n d_M_operation_16 rfl) ?_
  exact ct_al.nil
theorem e_M_operation_0 : ct_tab (T_M_operation) 0 = some (o_aload 0 1) := rfl
theorem e_M_operation_1 : ct_tab (T_M_operation) 1 = some (o_iload 1 1) := rfl
theorem e_M_operation_2 : ct_tab (T_M_operation) 2 = some (o_iload 2 1) := rfl
theorem e_M_operation_6 : ct_tab (T_M_operation) 6 = some (o_istore 3 1) := rfl
theorem e_M_operation_7 : ct_tab (T_M_operation) 7 = some (o_iload 3 1) := rfl
theorem e_M_operation_8 : ct_tab (T_M_operation) 8 = some (o_if (fun x => 0 ≤ x) (fun x => ¬ 0 ≤ x) 15) := rfl
theorem e_M_operation_11 : ct_tab (T_M_operation) 11 = some (o_push (.int (-1)) 1) := rfl
theorem e_M_operation_12 : ct_tab (T_M_operation) 12 = some (o_goto 20) := rfl
theorem e_M_operation_15 : ct_tab (T_M_operation) 15 = some (o_aload 0 1) := rfl
theorem e_M_operation_16 : ct_tab (T_M_operation) 16 = some (o_iload 3 1) := rfl
theorem cl_M_operation_3 {l : ct_Lx} {d d1 : Nat} {Post Post1 : Option Value → ct_Sg → Prop} {lv : ct_Lv} {st : List Value} {g : ct_Sg} {bc bs c1 s1 : Nat} {a1 a2 : Value} {h : Nat} (hsh : g.2.1 h = (10 + 4, 24)) (hM : ct_Me l M_M_instruction d1 c1 s1 [.ref h, a1, a2] g Post1) (hdd : d1 + 1 ≤ d) (hk : (st.map fun v => v.category).sum ≤ 8) (hcc : c1 ≤ bc) (hss : s1 ≤ bs) (kk : ∀ (v : Option Value) (g' : ct_Sg), Post1 v g' → ct_Wp l M_M_operation d Post (6, lv, v.toList ++ st, g', bc - c1, bs - s1)) : ct_Wp l M_M_operation d Post (3, lv, a2 :: a1 :: .ref h :: st, g, bc, bs) := ct_Wp.callV (ci := 4) (N := 24) (T := ct_T4) (As := [a1, a2]) lk_M_instruction (Or.inl wd_511) wd_512 wd_513 rfl d_M_operation_3 hsh hM rfl hdd hk hcc hss kk
theorem cl_M_operation_17 {l : ct_Lx} {d d1 : Nat} {Post Post1 : Option Value → ct_Sg → Prop} {lv : ct_Lv} {st : List Value} {g : ct_Sg} {bc bs c1 s1 : Nat} {a1 : Value} {h : Nat} (hsh : g.2.1 h = (10 + 4, 24)) (hM : ct_Me l M_M_byteAt d1 c1 s1 [.ref h, a1] g Post1) (hdd : d1 + 1 ≤ d) (hk : (st.map fun v => v.category).sum ≤ 8) (hcc : c1 ≤ bc) (hss : s1 ≤ bs) (kk : ∀ (v : Option Value) (g' : ct_Sg), Post1 v g' → ct_Wp l M_M_operation d Post (20, lv, v.toList ++ st, g', bc - c1, bs - s1)) : ct_Wp l M_M_operation d Post (17, lv, a1 :: .ref h :: st, g, bc, bs) := ct_Wp.callV (ci := 4) (N := 24) (T := ct_T4) (As := [a1]) lk_M_byteAt (Or.inl wd_357) wd_358 wd_359 rfl d_M_operation_17 hsh hM rfl hdd hk hcc hss kk
theorem d_M_number_0 : decode prog_7_method_42_code 0 = .ok (.lconst 0, 1) := by decide +kernel
theorem d_M_number_1 : decode prog_7_method_42_code 1 = .ok (.lstore_n 3, 1) := by decide +kernel
theorem d_M_number_2 : decode prog_7_method_42_code 2 = .ok (.iload_n 1, 1) := by decide +kernel
theorem d_M_number_3 : decode prog_7_method_42_code 3 = .ok (.istore 5, 2) := by decide +kernel
theorem d_M_number_5 : decode prog_7_method_42_code 5 = .ok (.iload 5, 2) := by decide +kernel
theorem d_M_number_7 : decode prog_7_method_42_code 7 = .ok (.iload_n 1, 1) := by decide +kernel
theorem d_M_number_8 : decode prog_7_method_42_code 8 = .ok (.iload_n 2, 1) := by decide +kernel
theorem d_M_number_9 : decode prog_7_method_42_code 9 = .ok (.iadd, 1) := by decide +kernel
theorem d_M_number_10 : decode prog_7_method_42_code 10 = .ok (.if_icmp .ge 23, 3) := by decide +kernel
theorem d_M_number_13 : decode prog_7_method_42_code 13 = .ok (.ldc2_w 174, 3) := by decide +kernel
theorem d_M_number_16 : decode prog_7_method_42_code 16 = .ok (.lload_n 3, 1) := by decide +kernel
theorem d_M_number_17 : decode prog_7_method_42_code 17 = .ok (.lmul, 1) := by decide +kernel
theorem d_M_number_18 : decode prog_7_method_42_code 18 = .ok (.aload_n 0, 1) := by decide +kernel
theorem d_M_number_19 : decode prog_7_method_42_code 19 = .ok (.iload 5, 2) := by decide +kernel
theorem d_M_number_21 : decode prog_7_method_42_code 21 = .ok (.invokevirtual 56, 3) := by decide +kernel
theorem d_M_number_24 : decode prog_7_method_42_code 24 = .ok (.i2l, 1) := by decide +kernel
theorem d_M_number_25 : decode prog_7_method_42_code 25 = .ok (.ladd, 1) := by decide +kernel
theorem d_M_number_26 : decode prog_7_method_42_code 26 = .ok (.lstore_n 3, 1) := by decide +kernel
theorem d_M_number_27 : decode prog_7_method_42_code 27 = .ok (.iinc 5 1, 3) := by decide +kernel
theorem d_M_number_30 : decode prog_7_method_42_code 30 = .ok (.goto (-25), 3) := by decide +kernel
theorem d_M_number_33 : decode prog_7_method_42_code 33 = .ok (.lload_n 3, 1) := by decide +kernel
theorem d_M_number_34 : decode prog_7_method_42_code 34 = .ok (.lreturn, 1) := by decide +kernel
abbrev T_M_number : List (Nat × ct_PT) := [(0, o_push (.long 0) 1), (1, o_lstore 3 1), (2, o_iload 1 1), (3, o_istore 5 2), (5, o_iload 5 2), (7, o_iload 1 1), (8, o_iload 2 1), (9, o_ii fun x y => x + y), (10, o_ic (fun x y => y ≤ x) (fun x y => ¬ y ≤ x) 33), (13, o_push (.long 256) 3), (16, o_lload 3 1), (17, o_ll fun x y => x * y), (18, o_aload 0 1), (19, o_iload 5 2), (24, o_i2l), (25, o_ll fun x y => x + y), (26, o_lstore 3 1), (27, o_iinc 5 1), (30, o_goto 5), (33, o_lload 3 1)]
set_option maxRecDepth 100000 in
theorem A_M_number (l : ct_Lx) : ct_al l M_M_number (T_M_number) := by
  refine ct_al.cons (so_lconst d_M_number_0 (by decide)) ?_
  refine ct_al.cons (so_lstore_n d_M_number_1 rfl (by decide)) ?_
  refine ct_al.cons (so_iload_n d_M_number_2 rfl) ?_
  refine ct_al.cons (so_istore d_M_number_3 (by decide)) ?_
  refine ct_al.cons (so_iload d_M_number_5) ?_
  refine ct_al.cons (so_iload_n d_M_number_7 rfl) ?_
  refine ct_al.cons (so_iload_n d_M_number_8 rfl) ?_
  refine ct_al.cons (so_iadd d_M_number_9) ?_
  refine ct_al.cons (so_ic_ge d_M_number_10 (by decide)) ?_
  refine ct_al.cons (so_ldc2 wd_498 d_M_number_13) ?_
  refine ct_al.cons (so_lload_n d_M_number_16 rfl) ?_
  refine ct_al.cons (so_lmul d_M_number_17) ?_
  refine ct_al.cons (so_aload_n d_M_number_18 rfl) ?_
  refine ct_al.cons (so_iload d_M_number_19) ?_
  refine ct_al.cons (so_i2l d_M_number_24) ?_
  refine ct_al.cons (so_ladd d_M_number_25) ?_
  refine ct_al.cons (so_lstore_n d_M_number_26 rfl (by decide)) ?_
  refine ct_al.cons (so_iinc d_M_number_27 (by decide) (by decide)) ?_
  refine ct_al.cons (so_goto d_M_number_30 (by decide)) ?_
  refine ct_al.cons (so_lload_n d_M_number_33 rfl) ?_
  exact ct_al.nil
theorem e_M_number_0 : ct_tab (T_M_number) 0 = some (o_push (.long 0) 1) := rfl
theorem e_M_number_1 : ct_tab (T_M_number) 1 = some (o_lstore 3 1) := rfl
theorem e_M_number_2 : ct_tab (T_M_number) 2 = some (o_iload 1 1) := rfl
theorem e_M_number_3 : ct_tab (T_M_number) 3 = some (o_istore 5 2) := rfl
theorem e_M_number_5 : ct_tab (T_M_number) 5 = some (o_iload 5 2) := rfl
theorem e_M_number_7 : ct_tab (T_M_number) 7 = some (o_iload 1 1) := rfl
theorem e_M_number_8 : ct_tab (T_M_number) 8 = some (o_iload 2 1) := rfl
theorem e_M_number_9 : ct_tab (T_M_number) 9 = some (o_ii fun x y => x + y) := rfl
theorem e_M_number_10 : ct_tab (T_M_number) 10 = some (o_ic (fun x y => y ≤ x) (fun x y => ¬ y ≤ x) 33) := rfl
theorem e_M_number_13 : ct_tab (T_M_number) 13 = some (o_push (.long 256) 3) := rfl
theorem e_M_number_16 : ct_tab (T_M_number) 16 = some (o_lload 3 1) := rfl
theorem e_M_number_17 : ct_tab (T_M_number) 17 = some (o_ll fun x y => x * y) := rfl
theorem e_M_number_18 : ct_tab (T_M_number) 18 = some (o_aload 0 1) := rfl
theorem e_M_number_19 : ct_tab (T_M_number) 19 = some (o_iload 5 2) := rfl
theorem e_M_number_24 : ct_tab (T_M_number) 24 = some (o_i2l) := rfl
theorem e_M_number_25 : ct_tab (T_M_number) 25 = some (o_ll fun x y => x + y) := rfl
theorem e_M_number_26 : ct_tab (T_M_number) 26 = some (o_lstore 3 1) := rfl
theorem e_M_number_27 : ct_tab (T_M_number) 27 = some (o_iinc 5 1) := rfl
theorem e_M_number_30 : ct_tab (T_M_number) 30 = some (o_goto 5) := rfl
theorem e_M_number_33 : ct_tab (T_M_number) 33 = some (o_lload 3 1) := rfl
theorem cl_M_number_21 {l : ct_Lx} {d d1 : Nat} {Post Post1 : Option Value → ct_Sg → Prop} {lv : ct_Lv} {st : List Value} {g : ct_Sg} {bc bs c1 s1 : Nat} {a1 : Value} {h : Nat} (hsh : g.2.1 h = (10 + 4, 24)) (hM : ct_Me l M_M_byteAt d1 c1 s1 [.ref h, a1] g Post1) (hdd : d1 + 1 ≤ d) (hk : (st.map fun v => v.category).sum ≤ 8) (hcc : c1 ≤ bc) (hss : s1 ≤ bs) (kk : ∀ (v : Option Value) (g' : ct_Sg), Post1 v g' → ct_Wp l M_M_number d Post (24, lv, v.toList ++ st, g', bc - c1, bs - s1)) : ct_Wp l M_M_number d Post (21, lv, a1 :: .ref h :: st, g, bc, bs) := ct_Wp.callV (ci := 4) (N := 24) (T := ct_T4) (As := [a1]) lk_M_byteAt (Or.inl wd_357) wd_358 wd_359 rfl d_M_number_21 hsh hM rfl hdd hk hcc hss kk
theorem d_M_operand_0 : decode prog_7_method_43_code 0 = .ok (.aload_n 0, 1) := by decide +kernel
theorem d_M_operand_1 : decode prog_7_method_43_code 1 = .ok (.iload_n 1, 1) := by decide +kernel
theorem d_M_operand_2 : decode prog_7_method_43_code 2 = .ok (.iload_n 2, 1) := by decide +kernel
theorem d_M_operand_3 : decode prog_7_method_43_code 3 = .ok (.invokevirtual 183, 3) := by decide +kernel
theorem d_M_operand_6 : decode prog_7_method_43_code 6 = .ok (.istore 4, 2) := by decide +kernel
theorem d_M_operand_8 : decode prog_7_method_43_code 8 = .ok (.iload 4, 2) := by decide +kernel
theorem d_M_operand_10 : decode prog_7_method_43_code 10 = .ok (.ifCond .lt 12, 3) := by decide +kernel
theorem d_M_operand_13 : decode prog_7_method_43_code 13 = .ok (.iload_n 3, 1) := by decide +kernel
theorem d_M_operand_14 : decode prog_7_method_43_code 14 = .ok (.ifCond .lt 8, 3) := by decide +kernel
theorem d_M_operand_17 : decode prog_7_method_43_code 17 = .ok (.iload_n 3, 1) := by decide +kernel
theorem d_M_operand_18 : decode prog_7_method_43_code 18 = .ok (.iconst 1, 1) := by decide +kernel
theorem d_M_operand_19 : decode prog_7_method_43_code 19 = .ok (.if_icmp .le 5, 3) := by decide +kernel
theorem d_M_operand_22 : decode prog_7_method_43_code 22 = .ok (.lconst 0, 1) := by decide +kernel
theorem d_M_operand_23 : decode prog_7_method_43_code 23 = .ok (.lreturn, 1) := by decide +kernel
theorem d_M_operand_24 : decode prog_7_method_43_code 24 = .ok (.aload_n 0, 1) := by decide +kernel
theorem d_M_operand_25 : decode prog_7_method_43_code 25 = .ok (.iload 4, 2) := by decide +kernel
theorem d_M_operand_27 : decode prog_7_method_43_code 27 = .ok (.invokevirtual 56, 3) := by decide +kernel
theorem d_M_operand_30 : decode prog_7_method_43_code 30 = .ok (.istore 5, 2) := by decide +kernel
theorem d_M_operand_32 : decode prog_7_method_43_code 32 = .ok (.iload 5, 2) := by decide +kernel
theorem d_M_operand_34 : decode prog_7_method_43_code 34 = .ok (.invokestatic 85, 3) := by decide +kernel
theorem d_M_operand_37 : decode prog_7_method_43_code 37 = .ok (.istore 6, 2) := by decide +kernel
theorem d_M_operand_39 : decode prog_7_method_43_code 39 = .ok (.iload 5, 2) := by decide +kernel
theorem d_M_operand_41 : decode prog_7_method_43_code 41 = .ok (.bipush 16, 2) := by decide +kernel
theorem d_M_operand_43 : decode prog_7_method_43_code 43 = .ok (.if_icmp .eq 24, 3) := by decide +kernel
theorem d_M_operand_46 : decode prog_7_method_43_code 46 = .ok (.iload 5, 2) := by decide +kernel
theorem d_M_operand_48 : decode prog_7_method_43_code 48 = .ok (.bipush 17, 2) := by decide +kernel
theorem d_M_operand_50 : decode prog_7_method_43_code 50 = .ok (.if_icmp .eq 17, 3) := by decide +kernel
theorem d_M_operand_53 : decode prog_7_method_43_code 53 = .ok (.iload 5, 2) := by decide +kernel
theorem d_M_operand_55 : decode prog_7_method_43_code 55 = .ok (.bipush 52, 2) := by decide +kernel
theorem d_M_operand_57 : decode prog_7_method_43_code 57 = .ok (.if_icmp .eq 10, 3) := by decide +kernel
theorem d_M_operand_60 : decode prog_7_method_43_code 60 = .ok (.iload 5, 2) := by decide +kernel
theorem d_M_operand_62 : decode prog_7_method_43_code 62 = .ok (.bipush 7, 2) := by decide +kernel
theorem d_M_operand_64 : decode prog_7_method_43_code 64 = .ok (.if_icmp .ne 7, 3) := by decide +kernel
theorem d_M_operand_67 : decode prog_7_method_43_code 67 = .ok (.iconst 1, 1) := by decide +kernel
theorem d_M_operand_68 : decode prog_7_method_43_code 68 = .ok (.goto 4, 3) := by decide +kernel
theorem d_M_operand_71 : decode prog_7_method_43_code 71 = .ok (.iconst 0, 1) := by decide +kernel
theorem d_M_operand_72 : decode prog_7_method_43_code 72 = .ok (.istore 7, 2) := by decide +kernel
theorem d_M_operand_74 : decode prog_7_method_43_code 74 = .ok (.iload 7, 2) := by decide +kernel
theorem d_M_operand_76 : decode prog_7_method_43_code 76 = .ok (.ifCond .ne 22, 3) := by decide +kernel
theorem d_M_operand_79 : decode prog_7_method_43_code 79 = .ok (.iload_n 3, 1) := by decide +kernel
theorem d_M_operand_80 : decode prog_7_method_43_code 80 = .ok (.ifCond .ne 16, 3) := by decide +kernel
theorem d_M_operand_83 : decode prog_7_method_43_code 83 = .ok (.aload_n 0, 1) := by decide +kernel
theorem d_M_operand_84 : decode prog_7_method_43_code 84 = .ok (.iload 4, 2) := by decide +kernel
theorem d_M_operand_86 : decode prog_7_method_43_code 86 = .ok (.iconst 1, 1) := by decide +kernel
theorem d_M_operand_87 : decode prog_7_method_43_code 87 = .ok (.iadd, 1) := by decide +kernel
theorem d_M_operand_88 : decode prog_7_method_43_code 88 = .ok (.iload 6, 2) := by decide +kernel
theorem d_M_operand_90 : decode prog_7_method_43_code 90 = .ok (.invokevirtual 186, 3) := by decide +kernel
theorem d_M_operand_93 : decode prog_7_method_43_code 93 = .ok (.goto 4, 3) := by decide +kernel
theorem d_M_operand_96 : decode prog_7_method_43_code 96 = .ok (.lconst 0, 1) := by decide +kernel
theorem d_M_operand_97 : decode prog_7_method_43_code 97 = .ok (.lreturn, 1) := by decide +kernel
theorem d_M_operand_98 : decode prog_7_method_43_code 98 = .ok (.aload_n 0, 1) := by decide +kernel
theorem d_M_operand_99 : decode prog_7_method_43_code 99 = .ok (.iload 4, 2) := by decide +kernel
theorem d_M_operand_101 : decode prog_7_method_43_code 101 = .ok (.iconst 1, 1) := by decide +kernel
theorem d_M_operand_102 : decode prog_7_method_43_code 102 = .ok (.iadd, 1) := by decide +kernel
theorem d_M_operand_103 : decode prog_7_method_43_code 103 = .ok (.iload_n 3, 1) := by decide +kernel
theorem d_M_operand_104 : decode prog_7_method_43_code 104 = .ok (.iload 6, 2) := by decide +kernel
theorem d_M_operand_106 : decode prog_7_method_43_code 106 = .ok (.imul, 1) := by decide +kernel
theorem d_M_operand_107 : decode prog_7_method_43_code 107 = .ok (.iconst 2, 1) := by decide +kernel
theorem d_M_operand_108 : decode prog_7_method_43_code 108 = .ok (.idiv, 1) := by decide +kernel
theorem d_M_operand_109 : decode prog_7_method_43_code 109 = .ok (.iadd, 1) := by decide +kernel
theorem d_M_operand_110 : decode prog_7_method_43_code 110 = .ok (.iload 6, 2) := by decide +kernel
theorem d_M_operand_112 : decode prog_7_method_43_code 112 = .ok (.iconst 2, 1) := by decide +kernel
theorem d_M_operand_113 : decode prog_7_method_43_code 113 = .ok (.idiv, 1) := by decide +kernel
theorem d_M_operand_114 : decode prog_7_method_43_code 114 = .ok (.invokevirtual 186, 3) := by decide +kernel
theorem d_M_operand_117 : decode prog_7_method_43_code 117 = .ok (.lreturn, 1) := by decide +kernel
abbrev T_M_operand : List (Nat × ct_PT) := [(0, o_aload 0 1), (1, o_iload 1 1), (2, o_iload 2 1), (6, o_istore 4 2), (8, o_iload 4 2), (10, o_if (fun x => x < 0) (fun x => ¬ x < 0) 22), (13, o_iload 3 1), (14, o_if (fun x => x < 0) (fun x => ¬ x < 0) 22), (17, o_iload 3 1), (18, o_push (.int 1) 1), (19, o_ic (fun x y => x ≤ y) (fun x y => ¬ x ≤ y) 24), (22, o_push (.long 0) 1), (24, o_aload 0 1), (25, o_iload 4 2), (30, o_istore 5 2), (32, o_iload 5 2), (37, o_istore 6 2), (39, o_iload 5 2), (41, o_push (.int 16) 2), (43, o_ic (fun x y => x = y) (fun x y => ¬ x = y) 67), (46, o_iload 5 2), (48, o_push (.int 17) 2), (50, o_ic (fun x y => x = y) (fun x y => ¬ x = y) 67), (53, o_iload 5 2), (55, o_push (.int 52) 2), (57, o_ic (fun x y => x = y) (fun x y => ¬ x = y) 67), (60, o_iload 5 2), (62, o_push (.int 7) 2), (64, o_ic (fun x y => ¬ x = y) (fun x y => x = y) 71), (67, o_push (.int 1) 1), (68, o_goto 72), (71, o_push (.int 0) 1), (72, o_istore 7 2), (74, o_iload 7 2), (76, o_if (fun x => ¬ x = 0) (fun x => x = 0) 98), (79, o_iload 3 1), (80, o_if (fun x => ¬ x = 0) (fun x => x = 0) 96), (83, o_aload 0 1), (84, o_iload 4 2), (86, o_push (.int 1) 1), (87, o_ii fun x y => x + y), (88, o_iload 6 2), (93, o_goto 97), (96, o_push (.long 0) 1), (98, o_aload 0 1), (99, o_iload 4 2), (101, o_push (.int 1) 1), (102, o_ii fun x y => x + y), (103, o_iload 3 1), (104, o_iload 6 2), (106, o_ii fun x y => x * y), (107, o_push (.int 2) 1), (108, o_idiv), (109, o_ii fun x y => x + y), (110, o_iload 6 2), (112, o_push (.int 2) 1), (113, o_idiv)]
set_option maxRecDepth 100000 in
theorem A_M_operand (l : ct_Lx) : ct_al l M_M_operand (T_M_operand) := by
  refine ct_al.cons (so_aload_n d_M_operand_0 rfl) ?_
  refine ct_al.cons (so_iload_n d_M_operand_1 rfl) ?_
  refine ct_al.cons (so_iload_n d_M_operand_2 rfl) ?_
  refine ct_al.cons (so_istore d_M_operand_6 (by decide)) ?_
  refine ct_al.cons (so_iload d_M_operand_8) ?_
  refine ct_al.cons (so_if_lt d_M_operand_10 (by decide)) ?_
  refine ct_al.cons (so_iload_n d_M_operand_13 rfl) ?_
  refine ct_al.cons (so_if_lt d_M_operand_14 (by decide)) ?_
  refine ct_al.cons (so_iload_n d_M_operand_17 rfl) ?_
  refine ct_al.cons (so_iconst d_M_operand_18 (by decide)) ?_
  refine ct_al.cons (so_ic_le d_M_operand_19 (by decide)) ?_
  refine ct_al.cons (so_lconst d_M_operand_22 (by decide)) ?_
  refine ct_al.cons (so_aload_n d_M_operand_24 rfl) ?_
  refine ct_al.cons (so_iload d_M_operand_25) ?_
  refine ct_al.cons (so_istore d_M_operand_30 (by decide)) ?_
  refine ct_al.cons (so_iload d_M_operand_32) ?_
  refine ct_al.cons (so_istore d_M_operand_37 (by decide)) ?_
  refine ct_al.cons (so_iload d_M_operand_39) ?_
  refine ct_al.cons (so_bipush d_M_operand_41 (by decide)) ?_
  refine ct_al.cons (so_ic_eq d_M_operand_43 (by decide)) ?_
  refine ct_al.cons (so_iload d_M_operand_46) ?_
  refine ct_al.cons (so_bipush d_M_operand_48 (by decide)) ?_
  refine ct_al.cons (so_ic_eq d_M_operand_50 (by decide)) ?_
  refine ct_al.cons (so_iload d_M_operand_53) ?_
  refine ct_al.cons (so_bipush d_M_operand_55 (by decide)) ?_
  refine ct_al.cons (so_ic_eq d_M_operand_57 (by decide)) ?_
  refine ct_al.cons (so_iload d_M_operand_60) ?_
  refine ct_al.cons (so_bipush d_M_operand_62 (by decide)) ?_
  refine ct_al.cons (so_ic_ne d_M_operand_64 (by decide)) ?_
  refine ct_al.cons (so_iconst d_M_operand_67 (by decide)) ?_
  refine ct_al.cons (so_goto d_M_operand_68 (by decide)) ?_
  refine ct_al.cons (so_iconst d_M_operand_71 (by decide)) ?_
  refine ct_al.cons (so_istore d_M_operand_72 (by decide)) ?_
  refine ct_al.cons (so_iload d_M_operand_74) ?_
  refine ct_al.cons (so_if_ne d_M_operand_76 (by decide)) ?_
  refine ct_al.cons (so_iload_n d_M_operand_79 rfl) ?_
  refine ct_al.cons (so_if_ne d_M_operand_80 (by decide)) ?_
  refine ct_al.cons (so_aload_n d_M_operand_83 rfl) ?_
  refine ct_al.cons (so_iload d_M_operand_84) ?_
  refine ct_al.cons (so_iconst d_M_operand_86 (by decide)) ?_
  refine ct_al.cons (so_iadd d_M_operand_87) ?_
  refine ct_al.cons (so_iload d_M_operand_88) ?_
  refine ct_al.cons (so_goto d_M_operand_93 (by decide)) ?_
  refine ct_al.cons (so_lconst d_M_operand_96 (by decide)) ?_
  refine ct_al.cons (so_aload_n d_M_operand_98 rfl) ?_
  refine ct_al.cons (so_iload d_M_operand_99) ?_
  refine ct_al.cons (so_iconst d_M_operand_101 (by decide)) ?_
  refine ct_al.cons (so_iadd d_M_operand_102) ?_
  refine ct_al.cons (so_iload_n d_M_operand_103 rfl) ?_
  refine ct_al.cons (so_iload d_M_operand_104) ?_
  refine ct_al.cons (so_imul d_M_operand_106) ?_
  refine ct_al.cons (so_iconst d_M_operand_107 (by decide)) ?_
  refine ct_al.cons (so_idiv d_M_operand_108) ?_
  refine ct_al.cons (so_iadd d_M_operand_109) ?_
  refine ct_al.cons (so_iload d_M_operand_110) ?_
  refine ct_al.cons (so_iconst d_M_operand_112 (by decide)) ?_
  refine ct_al.cons (so_idiv d_M_operand_113) ?_
  exact ct_al.nil
theorem e_M_operand_0 : ct_tab (T_M_operand) 0 = some (o_aload 0 1) := rfl
theorem e_M_operand_1 : ct_tab (T_M_operand) 1 = some (o_iload 1 1) := rfl
theorem e_M_operand_2 : ct_tab (T_M_operand) 2 = some (o_iload 2 1) := rfl
theorem e_M_operand_6 : ct_tab (T_M_operand) 6 = some (o_istore 4 2) := rfl
theorem e_M_operand_8 : ct_tab (T_M_operand) 8 = some (o_iload 4 2) := rfl
theorem e_M_operand_10 : ct_tab (T_M_operand) 10 = some (o_if (fun x => x < 0) (fun x => ¬ x < 0) 22) := rfl
theorem e_M_operand_13 : ct_tab (T_M_operand) 13 = some (o_iload 3 1) := rfl
theorem e_M_operand_14 : ct_tab (T_M_operand) 14 = some (o_if (fun x => x < 0) (fun x => ¬ x < 0) 22) := rfl
theorem e_M_operand_17 : ct_tab (T_M_operand) 17 = some (o_iload 3 1) := rfl
theorem e_M_operand_18 : ct_tab (T_M_operand) 18 = some (o_push (.int 1) 1) := rfl
theorem e_M_operand_19 : ct_tab (T_M_operand) 19 = some (o_ic (fun x y => x ≤ y) (fun x y => ¬ x ≤ y) 24) := rfl
theorem e_M_operand_22 : ct_tab (T_M_operand) 22 = some (o_push (.long 0) 1) := rfl
theorem e_M_operand_24 : ct_tab (T_M_operand) 24 = some (o_aload 0 1) := rfl
theorem e_M_operand_25 : ct_tab (T_M_operand) 25 = some (o_iload 4 2) := rfl
theorem e_M_operand_30 : ct_tab (T_M_operand) 30 = some (o_istore 5 2) := rfl
theorem e_M_operand_32 : ct_tab (T_M_operand) 32 = some (o_iload 5 2) := rfl
theorem e_M_operand_37 : ct_tab (T_M_operand) 37 = some (o_istore 6 2) := rfl
theorem e_M_operand_39 : ct_tab (T_M_operand) 39 = some (o_iload 5 2) := rfl
theorem e_M_operand_41 : ct_tab (T_M_operand) 41 = some (o_push (.int 16) 2) := rfl
theorem e_M_operand_43 : ct_tab (T_M_operand) 43 = some (o_ic (fun x y => x = y) (fun x y => ¬ x = y) 67) := rfl
theorem e_M_operand_46 : ct_tab (T_M_operand) 46 = some (o_iload 5 2) := rfl
theorem e_M_operand_48 : ct_tab (T_M_operand) 48 = some (o_push (.int 17) 2) := rfl
theorem e_M_operand_50 : ct_tab (T_M_operand) 50 = some (o_ic (fun x y => x = y) (fun x y => ¬ x = y) 67) := rfl
theorem e_M_operand_53 : ct_tab (T_M_operand) 53 = some (o_iload 5 2) := rfl
theorem e_M_operand_55 : ct_tab (T_M_operand) 55 = some (o_push (.int 52) 2) := rfl
theorem e_M_operand_57 : ct_tab (T_M_operand) 57 = some (o_ic (fun x y => x = y) (fun x y => ¬ x = y) 67) := rfl
theorem e_M_operand_60 : ct_tab (T_M_operand) 60 = some (o_iload 5 2) := rfl
theorem e_M_operand_62 : ct_tab (T_M_operand) 62 = some (o_push (.int 7) 2) := rfl
theorem e_M_operand_64 : ct_tab (T_M_operand) 64 = some (o_ic (fun x y => ¬ x = y) (fun x y => x = y) 71) := rfl
theorem e_M_operand_67 : ct_tab (T_M_operand) 67 = some (o_push (.int 1) 1) := rfl
theorem e_M_operand_68 : ct_tab (T_M_operand) 68 = some (o_goto 72) := rfl
theorem e_M_operand_71 : ct_tab (T_M_operand) 71 = some (o_push (.int 0) 1) := rfl
theorem e_M_operand_72 : ct_tab (T_M_operand) 72 = some (o_istore 7 2) := rfl
theorem e_M_operand_74 : ct_tab (T_M_operand) 74 = some (o_iload 7 2) := rfl
theorem e_M_operand_76 : ct_tab (T_M_operand) 76 = some (o_if (fun x => ¬ x = 0) (fun x => x = 0) 98) := rfl
theorem e_M_operand_79 : ct_tab (T_M_operand) 79 = some (o_iload 3 1) := rfl
theorem e_M_operand_80 : ct_tab (T_M_operand) 80 = some (o_if (fun x => ¬ x = 0) (fun x => x = 0) 96) := rfl
theorem e_M_operand_83 : ct_tab (T_M_operand) 83 = some (o_aload 0 1) := rfl
theorem e_M_operand_84 : ct_tab (T_M_operand) 84 = some (o_iload 4 2) := rfl
theorem e_M_operand_86 : ct_tab (T_M_operand) 86 = some (o_push (.int 1) 1) := rfl
theorem e_M_operand_87 : ct_tab (T_M_operand) 87 = some (o_ii fun x y => x + y) := rfl
theorem e_M_operand_88 : ct_tab (T_M_operand) 88 = some (o_iload 6 2) := rfl
theorem e_M_operand_93 : ct_tab (T_M_operand) 93 = some (o_goto 97) := rfl
theorem e_M_operand_96 : ct_tab (T_M_operand) 96 = some (o_push (.long 0) 1) := rfl
theorem e_M_operand_98 : ct_tab (T_M_operand) 98 = some (o_aload 0 1) := rfl
theorem e_M_operand_99 : ct_tab (T_M_operand) 99 = some (o_iload 4 2) := rfl
theorem e_M_operand_101 : ct_tab (T_M_operand) 101 = some (o_push (.int 1) 1) := rfl
theorem e_M_operand_102 : ct_tab (T_M_operand) 102 = some (o_ii fun x y => x + y) := rfl
theorem e_M_operand_103 : ct_tab (T_M_operand) 103 = some (o_iload 3 1) := rfl
theorem e_M_operand_104 : ct_tab (T_M_operand) 104 = some (o_iload 6 2) := rfl
theorem e_M_operand_106 : ct_tab (T_M_operand) 106 = some (o_ii fun x y => x * y) := rfl
theorem e_M_operand_107 : ct_tab (T_M_operand) 107 = some (o_push (.int 2) 1) := rfl
theorem e_M_operand_108 : ct_tab (T_M_operand) 108 = some (o_idiv) := rfl
theorem e_M_operand_109 : ct_tab (T_M_operand) 109 = some (o_ii fun x y => x + y) := rfl
theorem e_M_operand_110 : ct_tab (T_M_operand) 110 = some (o_iload 6 2) := rfl
theorem e_M_operand_112 : ct_tab (T_M_operand) 112 = some (o_push (.int 2) 1) := rfl
theorem e_M_operand_113 : ct_tab (T_M_operand) 113 = some (o_idiv) := rfl
theorem cl_M_operand_3 {l : ct_Lx} {d d1 : Nat} {Post Post1 : Option Value → ct_Sg → Prop} {lv : ct_Lv} {st : List Value} {g : ct_Sg} {bc bs c1 s1 : Nat} {a1 a2 : Value} {h : Nat} (hsh : g.2.1 h = (10 + 4, 24)) (hM : ct_Me l M_M_instruction d1 c1 s1 [.ref h, a1, a2] g Post1) (hdd : d1 + 1 ≤ d) (hk : (st.map fun v => v.category).sum ≤ 8) (hcc : c1 ≤ bc) (hss : s1 ≤ bs) (kk : ∀ (v : Option Value) (g' : ct_Sg), Post1 v g' → ct_Wp l M_M_operand d Post (6, lv, v.toList ++ st, g', bc - c1, bs - s1)) : ct_Wp l M_M_operand d Post (3, lv, a2 :: a1 :: .ref h :: st, g, bc, bs) := ct_Wp.callV (ci := 4) (N := 24) (T := ct_T4) (As := [a1, a2]) lk_M_instruction (Or.inl wd_511) wd_512 wd_513 rfl d_M_operand_3 hsh hM rfl hdd hk hcc hss kk
theorem cl_M_operand_27 {l : ct_Lx} {d d1 : Nat} {Post Post1 : Option Value → ct_Sg → Prop} {lv : ct_Lv} {st : List Value} {g : ct_Sg} {bc bs c1 s1 : Nat} {a1 : Value} {h : Nat} (hsh : g.2.1 h = (10 + 4, 24)) (hM : ct_Me l M_M_byteAt d1 c1 s1 [.ref h, a1] g Post1) (hdd : d1 + 1 ≤ d) (hk : (st.map fun v => v.category).sum ≤ 8) (hcc : c1 ≤ bc) (hss : s1 ≤ bs) (kk : ∀ (v : Option Value) (g' : ct_Sg), Post1 v g' → ct_Wp l M_M_operand d Post (30, lv, v.toList ++ st, g', bc - c1, bs - s1)) : ct_Wp l M_M_operand d Post (27, lv, a1 :: .ref h :: st, g, bc, bs) := ct_Wp.callV (ci := 4) (N := 24) (T := ct_T4) (As := [a1]) lk_M_byteAt (Or.inl wd_357) wd_358 wd_359 rfl d_M_operand_27 hsh hM rfl hdd hk hcc hss kk
theorem cl_M_operand_34 {l : ct_Lx} {d d1 : Nat} {Post Post1 : Option Value → ct_Sg → Prop} {lv : ct_Lv} {st : List Value} {g : ct_Sg} {bc bs c1 s1 : Nat} {a1 : Value} (hM : ct_Me l M_M_operandBytes d1 c1 s1 [a1] g Post1) (hdd : d1 + 1 ≤ d) (hk : (st.map fun v => v.category).sum ≤ 8) (hcc : c1 ≤ bc) (hss : s1 ≤ bs) (kk : ∀ (v : Option Value) (g' : ct_Sg), Post1 v g' → ct_Wp l M_M_operand d Post (37, lv, v.toList ++ st, g', bc - c1, bs - s1)) : ct_Wp l M_M_operand d Post (34, lv, a1 :: st, g, bc, bs) := ct_Wp.callS (As := [a1]) lk_M_operandBytes (Or.inl wd_389) wd_390 d_M_operand_34 hM rfl hdd hk hcc hss kk
theorem cl_M_operand_90 {l : ct_Lx} {d d1 : Nat} {Post Post1 : Option Value → ct_Sg → Prop} {lv : ct_Lv} {st : List Value} {g : ct_Sg} {bc bs c1 s1 : Nat} {a1 a2 : Value} {h : Nat} (hsh : g.2.1 h = (10 + 4, 24)) (hM : ct_Me l M_M_number d1 c1 s1 [.ref h, a1, a2] g Post1) (hdd : d1 + 1 ≤ d) (hk : (st.map fun v => v.category).sum ≤ 8) (hcc : c1 ≤ bc) (hss : s1 ≤ bs) (kk : ∀ (v : Option Value) (g' : ct_Sg), Post1 v g' → ct_Wp l M_M_operand d Post (93, lv, v.toList ++ st, g', bc - c1, bs - s1)) : ct_Wp l M_M_operand d Post (90, lv, a2 :: a1 :: .ref h :: st, g, bc, bs) := ct_Wp.callV (ci := 4) (N := 24) (T := ct_T4) (As := [a1, a2]) lk_M_number (Or.inl wd_516) wd_517 wd_518 rfl d_M_operand_90 hsh hM rfl hdd hk hcc hss kk
theorem cl_M_operand_114 {l : ct_Lx} {d d1 : Nat} {Post Post1 : Option Value → ct_Sg → Prop} {lv : ct_Lv} {st : List Value} {g : ct_Sg} {bc bs c1 s1 : Nat} {a1 a2 : Value} {h : Nat} (hsh : g.2.1 h = (10 + 4, 24)) (hM : ct_Me l M_M_number d1 c1 s1 [.ref h, a1, a2] g Post1) (hdd : d1 + 1 ≤ d) (hk : (st.map fun v => v.category).sum ≤ 8) (hcc : c1 ≤ bc) (hss : s1 ≤ bs) (kk : ∀ (v : Option Value) (g' : ct_Sg), Post1 v g' → ct_Wp l M_M_operand d Post (117, lv, v.toList ++ st, g', bc - c1, bs - s1)) : ct_Wp l M_M_operand d Post (114, lv, a2 :: a1 :: .ref h :: st, g, bc, bs) := ct_Wp.callV (ci := 4) (N := 24) (T := ct_T4) (As := [a1, a2]) lk_M_number (Or.inl wd_516) wd_517 wd_518 rfl d_M_operand_114 hsh hM rfl hdd hk hcc hss kk
theorem d_M_write_0 : decode prog_7_method_44_code 0 = .ok (.aload_n 0, 1) := by decide +kernel
theorem d_M_write_1 : decode prog_7_method_44_code 1 = .ok (.getfield 167, 3) := by decide +kernel
theorem d_M_write_4 : decode prog_7_method_44_code 4 = .ok (.ifCond .ne 5, 3) := by decide +kernel
theorem d_M_write_7 : decode prog_7_method_44_code 7 = .ok (.iconst (-1), 1) := by decide +kernel
theorem d_M_write_8 : decode prog_7_method_44_code 8 = .ok (.ireturn, 1) := by decide +kernel
theorem d_M_write_9 : decode prog_7_method_44_code 9 = .ok (.iconst 0, 1) := by decide +kernel
theorem d_M_write_10 : decode prog_7_method_44_code 10 = .ok (.istore_n 1, 1) := by decide +kernel
theorem d_M_write_11 : decode prog_7_method_44_code 11 = .ok (.iload_n 1, 1) := by decide +kernel
theorem d_M_write_12 : decode prog_7_method_44_code 12 = .ok (.aload_n 0, 1) := by decide +kernel
theorem d_M_write_13 : decode prog_7_method_44_code 13 = .ok (.getfield 53, 3) := by decide +kernel
theorem d_M_write_16 : decode prog_7_method_44_code 16 = .ok (.if_icmp .ge 21, 3) := by decide +kernel
theorem d_M_write_19 : decode prog_7_method_44_code 19 = .ok (.aload_n 0, 1) := by decide +kernel
theorem d_M_write_20 : decode prog_7_method_44_code 20 = .ok (.getfield 36, 3) := by decide +kernel
theorem d_M_write_23 : decode prog_7_method_44_code 23 = .ok (.iload_n 1, 1) := by decide +kernel
theorem d_M_write_24 : decode prog_7_method_44_code 24 = .ok (.aload_n 0, 1) := by decide +kernel
theorem d_M_write_25 : decode prog_7_method_44_code 25 = .ok (.getfield 14, 3) := by decide +kernel
theorem d_M_write_28 : decode prog_7_method_44_code 28 = .ok (.iload_n 1, 1) := by decide +kernel
theorem d_M_write_29 : decode prog_7_method_44_code 29 = .ok (.baload, 1) := by decide +kernel
theorem d_M_write_30 : decode prog_7_method_44_code 30 = .ok (.bastore, 1) := by decide +kernel
theorem d_M_write_31 : decode prog_7_method_44_code 31 = .ok (.iinc 1 1, 3) := by decide +kernel
theorem d_M_write_34 : decode prog_7_method_44_code 34 = .ok (.goto (-23), 3) := by decide +kernel
theorem d_M_write_37 : decode prog_7_method_44_code 37 = .ok (.aload_n 0, 1) := by decide +kernel
theorem d_M_write_38 : decode prog_7_method_44_code 38 = .ok (.aload_n 0, 1) := by decide +kernel
theorem d_M_write_39 : decode prog_7_method_44_code 39 = .ok (.getfield 53, 3) := by decide +kernel
theorem d_M_write_42 : decode prog_7_method_44_code 42 = .ok (.putfield 190, 3) := by decide +kernel
theorem d_M_write_45 : decode prog_7_method_44_code 45 = .ok (.aload_n 0, 1) := by decide +kernel
theorem d_M_write_46 : decode prog_7_method_44_code 46 = .ok (.getfield 53, 3) := by decide +kernel
theorem d_M_write_49 : decode prog_7_method_44_code 49 = .ok (.ireturn, 1) := by decide +kernel
abbrev T_M_write : List (Nat × ct_PT) := [(0, o_aload 0 1), (1, o_getI 4 24 4), (4, o_if (fun x => ¬ x = 0) (fun x => x = 0) 9), (7, o_push (.int (-1)) 1), (9, o_push (.int 0) 1), (10, o_istore 1 1), (11, o_iload 1 1), (12, o_aload 0 1), (13, o_getI 4 24 3), (16, o_ic (fun x y => y ≤ x) (fun x y => ¬ y ≤ x) 37), (19, o_aload 0 1), (20, o_getR 4 24 21), (23, o_iload 1 1), (24, o_aload 0 1), (25, o_getR 4 24 2), (28, o_iload 1 1), (29, o_bald), (30, o_bast), (31, o_iinc 1 1), (34, o_goto 11), (37, o_aload 0 1), (38, o_aload 0 1), (39, o_getI 4 24 3), (42, o_putI 4 24 22), (45, o_aload 0 1), (46, o_getI 4 24 3)]
set_option maxRecDepth 100000 in
theorem A_M_write (l : ct_Lx) : ct_al l M_M_write (T_M_write) := by
  refine ct_al.cons (so_aload_n d_M_write_0 rfl) ?_
  refine ct_al.cons (so_getI (Cn := "CodeTablesModel") (T := ct_T4) kc_4 (by decide) rfl rfl wd_496 d_M_write_1) ?_
  refine ct_al.cons (so_if_ne d_M_write_4 (by decide)) ?_
  refine ct_al.cons (so_iconst d_M_write_7 (by decide)) ?_
  refine ct_al.cons (so_iconst d_M_write_9 (by decide)) ?_
  refine ct_al.cons (so_istore_n d_M_write_10 rfl (by decide)) ?_
  refine ct_al.cons (so_iload_n d_M_write_11 rfl) ?_
  refine ct_al.cons (so_aload_n d_M_write_12 rfl) ?_
  refine ct_al.cons (so_getI (Cn := "CodeTablesModel") (T := ct_T4) kc_4 (by decide) rfl rfl wd_353 d_M_write_13) ?_
  refine ct_al.cons (so_ic_ge d_M_write_16 (by decide)) ?_
  refine ct_al.cons (so_aload_n d_M_write_19 rfl) ?_
  refine ct_al.cons (so_getR (Cn := "CodeTablesModel") (T := ct_T4) kc_4 (by decide) rfl rfl wd_347 d_M_write_20) ?_
  refine ct_al.cons (so_iload_n d_M_write_23 rfl) ?_
  refine ct_al.cons (so_aload_n d_M_write_24 rfl) ?_
  refine ct_al.cons (so_getR (Cn := "CodeTablesModel") (T := ct_T4) kc_4 (by decide) rfl rfl wd_340 d_M_write_25) ?_
  refine ct_al.cons (so_iload_n d_M_write_28 rfl) ?_
  refine ct_al.cons (so_bald d_M_write_29) ?_
  refine ct_al.cons (so_bast d_M_write_30) ?_
  refine ct_al.cons (so_iinc d_M_write_31 (by decide) (by decide)) ?_
  refine ct_al.cons (so_goto d_M_write_34 (by decide)) ?_
  refine ct_al.cons (so_aload_n d_M_write_37 rfl) ?_
  refine ct_al.cons (so_aload_n d_M_write_38 rfl) ?_
  refine ct_al.cons (so_getI (Cn := "CodeTablesModel") (T := ct_T4) kc_4 (by decide) rfl rfl wd_353 d_M_write_39) ?_
  refine ct_al.cons (so_putI (Cn := "CodeTablesModel") (T := ct_T4) kc_4 (by decide) rfl rfl (Or.inl rfl) wd_519 d_M_write_42) ?_
  refine ct_al.cons (so_aload_n d_M_write_45 rfl) ?_
  refine ct_al.cons (so_getI (Cn := "CodeTablesModel") (T := ct_T4) kc_4 (by decide) rfl rfl wd_353 d_M_write_46) ?_
  exact ct_al.nil
theorem e_M_write_0 : ct_tab (T_M_write) 0 = some (o_aload 0 1) := rfl
theorem e_M_write_1 : ct_tab (T_M_write) 1 = some (o_getI 4 24 4) := rfl
theorem e_M_write_4 : ct_tab (T_M_write) 4 = some (o_if (fun x => ¬ x = 0) (fun x => x = 0) 9) := rfl
theorem e_M_write_7 : ct_tab (T_M_write) 7 = some (o_push (.int (-1)) 1) := rfl
theorem e_M_write_9 : ct_tab (T_M_write) 9 = some (o_push (.int 0) 1) := rfl
theorem e_M_write_10 : ct_tab (T_M_write) 10 = some (o_istore 1 1) := rfl
theorem e_M_write_11 : ct_tab (T_M_write) 11 = some (o_iload 1 1) := rfl
theorem e_M_write_12 : ct_tab (T_M_write) 12 = some (o_aload 0 1) := rfl
theorem e_M_write_13 : ct_tab (T_M_write) 13 = some (o_getI 4 24 3) := rfl
theorem e_M_write_16 : ct_tab (T_M_write) 16 = some (o_ic (fun x y => y ≤ x) (fun x y => ¬ y ≤ x) 37) := rfl
theorem e_M_write_19 : ct_tab (T_M_write) 19 = some (o_aload 0 1) := rfl
theorem e_M_write_20 : ct_tab (T_M_write) 20 = some (o_getR 4 24 21) := rfl
theorem e_M_write_23 : ct_tab (T_M_write) 23 = some (o_iload 1 1) := rfl
theorem e_M_write_24 : ct_tab (T_M_write) 24 = some (o_aload 0 1) := rfl
theorem e_M_write_25 : ct_tab (T_M_write) 25 = some (o_getR 4 24 2) := rfl
theorem e_M_write_28 : ct_tab (T_M_write) 28 = some (o_iload 1 1) := rfl
theorem e_M_write_29 : ct_tab (T_M_write) 29 = some (o_bald) := rfl
theorem e_M_write_30 : ct_tab (T_M_write) 30 = some (o_bast) := rfl
theorem e_M_write_31 : ct_tab (T_M_write) 31 = some (o_iinc 1 1) := rfl
theorem e_M_write_34 : ct_tab (T_M_write) 34 = some (o_goto 11) := rfl
theorem e_M_write_37 : ct_tab (T_M_write) 37 = some (o_aload 0 1) := rfl
theorem e_M_write_38 : ct_tab (T_M_write) 38 = some (o_aload 0 1) := rfl
theorem e_M_write_39 : ct_tab (T_M_write) 39 = some (o_getI 4 24 3) := rfl
theorem e_M_write_42 : ct_tab (T_M_write) 42 = some (o_putI 4 24 22) := rfl
theorem e_M_write_45 : ct_tab (T_M_write) 45 = some (o_aload 0 1) := rfl
theorem e_M_write_46 : ct_tab (T_M_write) 46 = some (o_getI 4 24 3) := rfl
theorem d_M_written_0 : decode prog_7_method_45_code 0 = .ok (.iload_n 1, 1) := by decide +kernel
theorem d_M_written_1 : decode prog_7_method_45_code 1 = .ok (.ifCond .lt 24, 3) := by decide +kernel
theorem d_M_written_4 : decode prog_7_method_45_code 4 = .ok (.iload_n 1, 1) := by decide +kernel
theorem d_M_written_5 : decode prog_7_method_45_code 5 = .ok (.aload_n 0, 1) := by decide +kernel
theorem d_M_written_6 : decode prog_7_method_45_code 6 = .ok (.getfield 190, 3) := by decide +kernel
theorem d_M_written_9 : decode prog_7_method_45_code 9 = .ok (.if_icmp .ge 16, 3) := by decide +kernel
theorem d_M_written_12 : decode prog_7_method_45_code 12 = .ok (.aload_n 0, 1) := by decide +kernel
theorem d_M_written_13 : decode prog_7_method_45_code 13 = .ok (.getfield 36, 3) := by decide +kernel
theorem d_M_written_16 : decode prog_7_method_45_code 16 = .ok (.iload_n 1, 1) := by decide +kernel
theorem d_M_written_17 : decode prog_7_method_45_code 17 = .ok (.baload, 1) := by decide +kernel
theorem d_M_written_18 : decode prog_7_method_45_code 18 = .ok (.sipush 255, 3) := by decide +kernel
theorem d_M_written_21 : decode prog_7_method_45_code 21 = .ok (.iand, 1) := by decide +kernel
theorem d_M_written_22 : decode prog_7_method_45_code 22 = .ok (.goto 4, 3) := by decide +kernel
theorem d_M_written_25 : decode prog_7_method_45_code 25 = .ok (.iconst (-1), 1) := by decide +kernel
theorem d_M_written_26 : decode prog_7_method_45_code 26 = .ok (.ireturn, 1) := by decide +kernel
abbrev T_M_written : List (Nat × ct_PT) := [(0, o_iload 1 1), (1, o_if (fun x => x < 0) (fun x => ¬ x < 0) 25), (4, o_iload 1 1), (5, o_aload 0 1), (6, o_getI 4 24 22), (9, o_ic (fun x y => y ≤ x) (fun x y => ¬ y ≤ x) 25), (12, o_aload 0 1), (13, o_getR 4 24 21), (16, o_iload 1 1), (17, o_bald), (18, o_push (.int 255) 3), (21, o_ii fun x y => x &&& y), (22, o_goto 26), (25, o_push (.int (-1)) 1)]
set_option maxRecDepth 100000 in
theorem A_M_written (l : ct_Lx) : ct_al l M_M_written (T_M_written) := by
  refine ct_al.cons (so_iload_n d_M_written_0 rfl) ?_
  refine ct_al.cons (so_if_lt d_M_written_1 (by decide)) ?_
  refine ct_al.cons (so_iload_n d_M_written_4 rfl) ?_
  refine ct_al.cons (so_aload_n d_M_written_5 rfl) ?_
  refine ct_al.cons (so_getI (Cn := "CodeTablesModel") (T := ct_T4) kc_4 (by decide) rfl rfl wd_519 d_M_written_6) ?_
  refine ct_al.cons (so_ic_ge d_M_written_9 (by decide)) ?_
  refine ct_al.cons (so_aload_n d_M_written_12 rfl) ?_
  refine ct_al.cons (so_getR (Cn := "CodeTablesModel") (T := ct_T4) kc_4 (by decide) rfl rfl wd_347 d_M_written_13) ?_
  refine ct_al.cons (so_iload_n d_M_written_16 rfl) ?_
  refine ct_al.cons (so_bald d_M_written_17) ?_
  refine ct_al.cons (so_sipush d_M_written_18 (by decide)) ?_
  refine ct_al.cons (so_iand d_M_written_21) ?_
  refine ct_al.cons (so_goto d_M_written_22 (by decide)) ?_
  refine ct_al.cons (so_iconst d_M_written_25 (by decide)) ?_
  exact ct_al.nil
theorem e_M_written_0 : ct_tab (T_M_written) 0 = some (o_iload 1 1) := rfl
theorem e_M_written_1 : ct_tab (T_M_written) 1 = some (o_if (fun x => x < 0) (fun x => ¬ x < 0) 25) := rfl
theorem e_M_written_4 : ct_tab (T_M_written) 4 = some (o_iload 1 1) := rfl
theorem e_M_written_5 : ct_tab (T_M_written) 5 = some (o_aload 0 1) := rfl
theorem e_M_written_6 : ct_tab (T_M_written) 6 = some (o_getI 4 24 22) := rfl
theorem e_M_written_9 : ct_tab (T_M_written) 9 = some (o_ic (fun x y => y ≤ x) (fun x y => ¬ y ≤ x) 25) := rfl
theorem e_M_written_12 : ct_tab (T_M_written) 12 = some (o_aload 0 1) := rfl
theorem e_M_written_13 : ct_tab (T_M_written) 13 = some (o_getR 4 24 21) := rfl
theorem e_M_written_16 : ct_tab (T_M_written) 16 = some (o_iload 1 1) := rfl
theorem e_M_written_17 : ct_tab (T_M_written) 17 = some (o_bald) := rfl
theorem e_M_written_18 : ct_tab (T_M_written) 18 = some (o_push (.int 255) 3) := rfl
theorem e_M_written_21 : ct_tab (T_M_written) 21 = some (o_ii fun x y => x &&& y) := rfl
theorem e_M_written_22 : ct_tab (T_M_written) 22 = some (o_goto 26) := rfl
theorem e_M_written_25 : ct_tab (T_M_written) 25 = some (o_push (.int (-1)) 1) := rfl
