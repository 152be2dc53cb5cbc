theorem d_R_init_0 : decode prog_2_method_1_code 0 = .ok (.aload_n 0, 1) := by decide +kernel
theorem d_R_init_1 : decode prog_2_method_1_code 1 = .ok (.invokespecial 3, 3) := by decide +kernel
theorem d_R_init_4 : decode prog_2_method_1_code 4 = .ok (.aload_n 0, 1) := by decide +kernel
theorem d_R_init_5 : decode prog_2_method_1_code 5 = .ok (.bipush 32, 2) := by decide +kernel
theorem d_R_init_7 : decode prog_2_method_1_code 7 = .ok (.newarray .int, 2) := by decide +kernel
theorem d_R_init_9 : decode prog_2_method_1_code 9 = .ok (.putfield 11, 3) := by decide +kernel
theorem d_R_init_12 : decode prog_2_method_1_code 12 = .ok (.aload_n 0, 1) := by decide +kernel
theorem d_R_init_13 : decode prog_2_method_1_code 13 = .ok (.bipush 32, 2) := by decide +kernel
theorem d_R_init_15 : decode prog_2_method_1_code 15 = .ok (.newarray .int, 2) := by decide +kernel
theorem d_R_init_17 : decode prog_2_method_1_code 17 = .ok (.putfield 17, 3) := by decide +kernel
theorem d_R_init_20 : decode prog_2_method_1_code 20 = .ok (.aload_n 0, 1) := by decide +kernel
theorem d_R_init_21 : decode prog_2_method_1_code 21 = .ok (.iconst 0, 1) := by decide +kernel
theorem d_R_init_22 : decode prog_2_method_1_code 22 = .ok (.newarray .byte, 2) := by decide +kernel
theorem d_R_init_24 : decode prog_2_method_1_code 24 = .ok (.putfield 20, 3) := by decide +kernel
theorem d_R_init_27 : decode prog_2_method_1_code 27 = .ok (.aload_n 0, 1) := by decide +kernel
theorem d_R_init_28 : decode prog_2_method_1_code 28 = .ok (.iconst 0, 1) := by decide +kernel
theorem d_R_init_29 : decode prog_2_method_1_code 29 = .ok (.putfield 24, 3) := by decide +kernel
theorem d_R_init_32 : decode prog_2_method_1_code 32 = .ok (.aload_n 0, 1) := by decide +kernel
theorem d_R_init_33 : decode prog_2_method_1_code 33 = .ok (.iconst 0, 1) := by decide +kernel
theorem d_R_init_34 : decode prog_2_method_1_code 34 = .ok (.putfield 28, 3) := by decide +kernel
theorem d_R_init_37 : decode prog_2_method_1_code 37 = .ok (.aload_n 0, 1) := by decide +kernel
theorem d_R_init_38 : decode prog_2_method_1_code 38 = .ok (.iconst 0, 1) := by decide +kernel
theorem d_R_init_39 : decode prog_2_method_1_code 39 = .ok (.putfield 31, 3) := by decide +kernel
theorem d_R_init_42 : decode prog_2_method_1_code 42 = .ok (.aload_n 0, 1) := by decide +kernel
theorem d_R_init_43 : decode prog_2_method_1_code 43 = .ok (.iconst 0, 1) := by decide +kernel
theorem d_R_init_44 : decode prog_2_method_1_code 44 = .ok (.putfield 35, 3) := by decide +kernel
theorem d_R_init_47 : decode prog_2_method_1_code 47 = .ok (.aload_n 0, 1) := by decide +kernel
theorem d_R_init_48 : decode prog_2_method_1_code 48 = .ok (.iconst 0, 1) := by decide +kernel
theorem d_R_init_49 : decode prog_2_method_1_code 49 = .ok (.putfield 38, 3) := by decide +kernel
theorem d_R_init_52 : decode prog_2_method_1_code 52 = .ok (.aload_n 0, 1) := by decide +kernel
theorem d_R_init_53 : decode prog_2_method_1_code 53 = .ok (.aload_n 1, 1) := by decide +kernel
theorem d_R_init_54 : decode prog_2_method_1_code 54 = .ok (.putfield 41, 3) := by decide +kernel
theorem d_R_init_57 : decode prog_2_method_1_code 57 = .ok (.return_, 1) := by decide +kernel
abbrev T_R_init : List (Nat × ct_PT) := [(0, o_aload 0 1), (1, o_oinit), (4, o_aload 0 1), (5, o_push (.int 32) 2), (7, o_newa 1), (9, o_putR 2 9 1), (12, o_aload 0 1), (13, o_push (.int 32) 2), (15, o_newa 1), (17, o_putR 2 9 2), (20, o_aload 0 1), (21, o_push (.int 0) 1), (22, o_newa 2), (24, o_putR 2 9 3), (27, o_aload 0 1), (28, o_push (.int 0) 1), (29, o_putI 2 9 4), (32, o_aload 0 1), (33, o_push (.int 0) 1), (34, o_putI 2 9 5), (37, o_aload 0 1), (38, o_push (.int 0) 1), (39, o_putZ 2 9 6), (42, o_aload 0 1), (43, o_push (.int 0) 1), (44, o_putI 2 9 7), (47, o_aload 0 1), (48, o_push (.int 0) 1), (49, o_putI 2 9 8), (52, o_aload 0 1), (53, o_aload 1 1), (54, o_putR 2 9 0)]
set_option maxRecDepth 100000 in
theorem A_R_init (l : ct_Lx) : ct_al l M_R_init (T_R_init) := by
  refine ct_al.cons (so_aload_n d_R_init_0 rfl) ?_
  refine ct_al.cons (so_oinit wd_46 wd_1 wd_2 d_R_init_1) ?_
  refine ct_al.cons (so_aload_n d_R_init_4 rfl) ?_
  refine ct_al.cons (so_bipush d_R_init_5 (by decide)) ?_
  refine ct_al.cons (so_newa (Or.inl ⟨rfl, rfl⟩) rfl wd_3 d_R_init_7) ?_
  refine ct_al.cons (so_putR (Cn := "CodeTables$Reader") (T := ct_T2) kc_2 (by decide) (Or.inr ⟨_, rfl⟩) rfl (Or.inr ⟨rfl, rfl, rfl⟩) wd_47 d_R_init_9) ?_
  refine ct_al.cons (so_aload_n d_R_init_12 rfl) ?_
  refine ct_al.cons (so_bipush d_R_init_13 (by decide)) ?_
  refine ct_al.cons (so_newa (Or.inl ⟨rfl, rfl⟩) rfl wd_3 d_R_init_15) ?_
  refine ct_al.cons (so_putR (Cn := "CodeTables$Reader") (T := ct_T2) kc_2 (by decide) (Or.inr ⟨_, rfl⟩) rfl (Or.inr ⟨rfl, rfl, rfl⟩) wd_48 d_R_init_17) ?_
  refine ct_al.cons (so_aload_n d_R_init_20 rfl) ?_
  refine ct_al.cons (so_iconst d_R_init_21 (by decide)) ?_
  refine ct_al.cons (so_newa (Or.inr (Or.inl ⟨rfl, rfl⟩)) rfl wd_12 d_R_init_22) ?_
  refine ct_al.cons (so_putR (Cn := "CodeTables$Reader") (T := ct_T2) kc_2 (by decide) (Or.inr ⟨_, rfl⟩) rfl (Or.inl rfl) wd_49 d_R_init_24) ?_
  refine ct_al.cons (so_aload_n d_R_init_27 rfl) ?_
  refine ct_al.cons (so_iconst d_R_init_28 (by decide)) ?_
  refine ct_al.cons (so_putI (Cn := "CodeTables$Reader") (T := ct_T2) kc_2 (by decide) rfl rfl (Or.inl rfl) wd_50 d_R_init_29) ?_
  refine ct_al.cons (so_aload_n d_R_init_32 rfl) ?_
  refine ct_al.cons (so_iconst d_R_init_33 (by decide)) ?_
  refine ct_al.cons (so_putI (Cn := "CodeTables$Reader") (T := ct_T2) kc_2 (by decide) rfl rfl (Or.inl rfl) wd_51 d_R_init_34) ?_
  refine ct_al.cons (so_aload_n d_R_init_37 rfl) ?_
  refine ct_al.cons (so_iconst d_R_init_38 (by decide)) ?_
  refine ct_al.cons (so_putZ (Cn := "CodeTables$Reader") (T := ct_T2) kc_2 (by decide) rfl rfl (Or.inl rfl) wd_52 d_R_init_39) ?_
  refine ct_al.cons (so_aload_n d_R_init_42 rfl) ?_
  refine ct_al.cons (so_iconst d_R_init_43 (by decide)) ?_
  refine ct_al.cons (so_putI (Cn := "CodeTables$Reader") (T := ct_T2) kc_2 (by decide) rfl rfl (Or.inl rfl) wd_53 d_R_init_44) ?_
  refine ct_al.cons (so_aload_n d_R_init_47 rfl) ?_
  refine ct_al.cons (so_iconst d_R_init_48 (by decide)) ?_
  refine ct_al.cons (so_putI (Cn := "CodeTables$Reader") (T := ct_T2) kc_2 (by decide) rfl rfl (Or.inl rfl) wd_54 d_R_init_49) ?_
  refine ct_al.cons (so_aload_n d_R_init_52 rfl) ?_
  refine ct_al.cons (so_aload_n d_R_init_53 rfl) ?_
  refine ct_al.cons (so_putR (Cn := "CodeTables$Reader") (T := ct_T2) kc_2 (by decide) (Or.inl ⟨_, rfl⟩) rfl (Or.inr ⟨rfl, rfl, rfl⟩) wd_55 d_R_init_54) ?_
  exact ct_al.nil
theorem e_R_init_0 : ct_tab (T_R_init) 0 = some (o_aload 0 1) := rfl
theorem e_R_init_1 : ct_tab (T_R_init) 1 = some (o_oinit) := rfl
theorem e_R_init_4 : ct_tab (T_R_init) 4 = some (o_aload 0 1) := rfl
theorem e_R_init_5 : ct_tab (T_R_init) 5 = some (o_push (.int 32) 2) := rfl
theorem e_R_init_7 : ct_tab (T_R_init) 7 = some (o_newa 1) := rfl
theorem e_R_init_9 : ct_tab (T_R_init) 9 = some (o_putR 2 9 1) := rfl
theorem e_R_init_12 : ct_tab (T_R_init) 12 = some (o_aload 0 1) := rfl
theorem e_R_init_13 : ct_tab (T_R_init) 13 = some (o_push (.int 32) 2) := rfl
theorem e_R_init_15 : ct_tab (T_R_init) 15 = some (o_newa 1) := rfl
theorem e_R_init_17 : ct_tab (T_R_init) 17 = some (o_putR 2 9 2) := rfl
theorem e_R_init_20 : ct_tab (T_R_init) 20 = some (o_aload 0 1) := rfl
theorem e_R_init_21 : ct_tab (T_R_init) 21 = some (o_push (.int 0) 1) := rfl
theorem e_R_init_22 : ct_tab (T_R_init) 22 = some (o_newa 2) := rfl
theorem e_R_init_24 : ct_tab (T_R_init) 24 = some (o_putR 2 9 3) := rfl
theorem e_R_init_27 : ct_tab (T_R_init) 27 = some (o_aload 0 1) := rfl
theorem e_R_init_28 : ct_tab (T_R_init) 28 = some (o_push (.int 0) 1) := rfl
theorem e_R_init_29 : ct_tab (T_R_init) 29 = some (o_putI 2 9 4) := rfl
theorem e_R_init_32 : ct_tab (T_R_init) 32 = some (o_aload 0 1) := rfl
theorem e_R_init_33 : ct_tab (T_R_init) 33 = some (o_push (.int 0) 1) := rfl
theorem e_R_init_34 : ct_tab (T_R_init) 34 = some (o_putI 2 9 5) := rfl
theorem e_R_init_37 : ct_tab (T_R_init) 37 = some (o_aload 0 1) := rfl
theorem e_R_init_38 : ct_tab (T_R_init) 38 = some (o_push (.int 0) 1) := rfl
theorem e_R_init_39 : ct_tab (T_R_init) 39 = some (o_putZ 2 9 6) := rfl
theorem e_R_init_42 : ct_tab (T_R_init) 42 = some (o_aload 0 1) := rfl
theorem e_R_init_43 : ct_tab (T_R_init) 43 = some (o_push (.int 0) 1) := rfl
theorem e_R_init_44 : ct_tab (T_R_init) 44 = some (o_putI 2 9 7) := rfl
theorem e_R_init_47 : ct_tab (T_R_init) 47 = some (o_aload 0 1) := rfl
theorem e_R_init_48 : ct_tab (T_R_init) 48 = some (o_push (.int 0) 1) := rfl
theorem e_R_init_49 : ct_tab (T_R_init) 49 = some (o_putI 2 9 8) := rfl
theorem e_R_init_52 : ct_tab (T_R_init) 52 = some (o_aload 0 1) := rfl
theorem e_R_init_53 : ct_tab (T_R_init) 53 = some (o_aload 1 1) := rfl
theorem e_R_init_54 : ct_tab (T_R_init) 54 = some (o_putR 2 9 0) := rfl
theorem d_R_begin_0 : decode prog_2_method_2_code 0 = .ok (.aload_n 0, 1) := by decide +kernel
theorem d_R_begin_1 : decode prog_2_method_2_code 1 = .ok (.aload_n 1, 1) := by decide +kernel
theorem d_R_begin_2 : decode prog_2_method_2_code 2 = .ok (.putfield 20, 3) := by decide +kernel
theorem d_R_begin_5 : decode prog_2_method_2_code 5 = .ok (.aload_n 0, 1) := by decide +kernel
theorem d_R_begin_6 : decode prog_2_method_2_code 6 = .ok (.iload_n 2, 1) := by decide +kernel
theorem d_R_begin_7 : decode prog_2_method_2_code 7 = .ok (.putfield 24, 3) := by decide +kernel
theorem d_R_begin_10 : decode prog_2_method_2_code 10 = .ok (.aload_n 0, 1) := by decide +kernel
theorem d_R_begin_11 : decode prog_2_method_2_code 11 = .ok (.iconst 0, 1) := by decide +kernel
theorem d_R_begin_12 : decode prog_2_method_2_code 12 = .ok (.putfield 35, 3) := by decide +kernel
theorem d_R_begin_15 : decode prog_2_method_2_code 15 = .ok (.aload_n 0, 1) := by decide +kernel
theorem d_R_begin_16 : decode prog_2_method_2_code 16 = .ok (.iload_n 2, 1) := by decide +kernel
theorem d_R_begin_17 : decode prog_2_method_2_code 17 = .ok (.putfield 38, 3) := by decide +kernel
theorem d_R_begin_20 : decode prog_2_method_2_code 20 = .ok (.return_, 1) := by decide +kernel
abbrev T_R_begin : List (Nat × ct_PT) := [(0, o_aload 0 1), (1, o_aload 1 1), (2, o_putR 2 9 3), (5, o_aload 0 1), (6, o_iload 2 1), (7, o_putI 2 9 4), (10, o_aload 0 1), (11, o_push (.int 0) 1), (12, o_putI 2 9 7), (15, o_aload 0 1), (16, o_iload 2 1), (17, o_putI 2 9 8)]
set_option maxRecDepth 100000 in
theorem A_R_begin (l : ct_Lx) : ct_al l M_R_begin (T_R_begin) := by
  refine ct_al.cons (so_aload_n d_R_begin_0 rfl) ?_
  refine ct_al.cons (so_aload_n d_R_begin_1 rfl) ?_
  refine ct_al.cons (so_putR (Cn := "CodeTables$Reader") (T := ct_T2) kc_2 (by decide) (Or.inr ⟨_, rfl⟩) rfl (Or.inl rfl) wd_49 d_R_begin_2) ?_
  refine ct_al.cons (so_aload_n d_R_begin_5 rfl) ?_
  refine ct_al.cons (so_iload_n d_R_begin_6 rfl) ?_
  refine ct_al.cons (so_putI (Cn := "CodeTables$Reader") (T := ct_T2) kc_2 (by decide) rfl rfl (Or.inl rfl) wd_50 d_R_begin_7) ?_
  refine ct_al.cons (so_aload_n d_R_begin_10 rfl) ?_
  refine ct_al.cons (so_iconst d_R_begin_11 (by decide)) ?_
  refine ct_al.cons (so_putI (Cn := "CodeTables$Reader") (T := ct_T2) kc_2 (by decide) rfl rfl (Or.inl rfl) wd_53 d_R_begin_12) ?_
  refine ct_al.cons (so_aload_n d_R_begin_15 rfl) ?_
  refine ct_al.cons (so_iload_n d_R_begin_16 rfl) ?_
  refine ct_al.cons (so_putI (Cn := "CodeTables$Reader") (T := ct_T2) kc_2 (by decide) rfl rfl (Or.inl rfl) wd_54 d_R_begin_17) ?_
  exact ct_al.nil
theorem e_R_begin_0 : ct_tab (T_R_begin) 0 = some (o_aload 0 1) := rfl
theorem e_R_begin_1 : ct_tab (T_R_begin) 1 = some (o_aload 1 1) := rfl
theorem e_R_begin_2 : ct_tab (T_R_begin) 2 = some (o_putR 2 9 3) := rfl
theorem e_R_begin_5 : ct_tab (T_R_begin) 5 = some (o_aload 0 1) := rfl
theorem e_R_begin_6 : ct_tab (T_R_begin) 6 = some (o_iload 2 1) := rfl
theorem e_R_begin_7 : ct_tab (T_R_begin) 7 = some (o_putI 2 9 4) := rfl
theorem e_R_begin_10 : ct_tab (T_R_begin) 10 = some (o_aload 0 1) := rfl
theorem e_R_begin_11 : ct_tab (T_R_begin) 11 = some (o_push (.int 0) 1) := rfl
theorem e_R_begin_12 : ct_tab (T_R_begin) 12 = some (o_putI 2 9 7) := rfl
theorem e_R_begin_15 : ct_tab (T_R_begin) 15 = some (o_aload 0 1) := rfl
theorem e_R_begin_16 : ct_tab (T_R_begin) 16 = some (o_iload 2 1) := rfl
theorem e_R_begin_17 : ct_tab (T_R_begin) 17 = some (o_putI 2 9 8) := rfl
theorem d_R_walk_0 : decode prog_2_method_3_code 0 = .ok (.aload_n 0, 1) := by decide +kernel
theorem d_R_walk_1 : decode prog_2_method_3_code 1 = .ok (.getfield 35, 3) := by decide +kernel
theorem d_R_walk_4 : decode prog_2_method_3_code 4 = .ok (.ifCond .eq 4, 3) := by decide +kernel
theorem d_R_walk_7 : decode prog_2_method_3_code 7 = .ok (.return_, 1) := by decide +kernel
theorem d_R_walk_8 : decode prog_2_method_3_code 8 = .ok (.aload_n 0, 1) := by decide +kernel
theorem d_R_walk_9 : decode prog_2_method_3_code 9 = .ok (.iload_n 1, 1) := by decide +kernel
theorem d_R_walk_10 : decode prog_2_method_3_code 10 = .ok (.putfield 31, 3) := by decide +kernel
theorem d_R_walk_13 : decode prog_2_method_3_code 13 = .ok (.aload_n 0, 1) := by decide +kernel
theorem d_R_walk_14 : decode prog_2_method_3_code 14 = .ok (.iconst 0, 1) := by decide +kernel
theorem d_R_walk_15 : decode prog_2_method_3_code 15 = .ok (.putfield 28, 3) := by decide +kernel
theorem d_R_walk_18 : decode prog_2_method_3_code 18 = .ok (.aload_n 0, 1) := by decide +kernel
theorem d_R_walk_19 : decode prog_2_method_3_code 19 = .ok (.invokevirtual 45, 3) := by decide +kernel
theorem d_R_walk_22 : decode prog_2_method_3_code 22 = .ok (.aload_n 0, 1) := by decide +kernel
theorem d_R_walk_23 : decode prog_2_method_3_code 23 = .ok (.getfield 41, 3) := by decide +kernel
theorem d_R_walk_26 : decode prog_2_method_3_code 26 = .ok (.getfield 48, 3) := by decide +kernel
theorem d_R_walk_29 : decode prog_2_method_3_code 29 = .ok (.iconst 0, 1) := by decide +kernel
theorem d_R_walk_30 : decode prog_2_method_3_code 30 = .ok (.aload_n 0, 1) := by decide +kernel
theorem d_R_walk_31 : decode prog_2_method_3_code 31 = .ok (.iconst 2, 1) := by decide +kernel
theorem d_R_walk_32 : decode prog_2_method_3_code 32 = .ok (.invokevirtual 51, 3) := by decide +kernel
theorem d_R_walk_35 : decode prog_2_method_3_code 35 = .ok (.l2i, 1) := by decide +kernel
theorem d_R_walk_36 : decode prog_2_method_3_code 36 = .ok (.iastore, 1) := by decide +kernel
theorem d_R_walk_37 : decode prog_2_method_3_code 37 = .ok (.aload_n 0, 1) := by decide +kernel
theorem d_R_walk_38 : decode prog_2_method_3_code 38 = .ok (.invokevirtual 55, 3) := by decide +kernel
theorem d_R_walk_41 : decode prog_2_method_3_code 41 = .ok (.aload_n 0, 1) := by decide +kernel
theorem d_R_walk_42 : decode prog_2_method_3_code 42 = .ok (.invokevirtual 58, 3) := by decide +kernel
theorem d_R_walk_45 : decode prog_2_method_3_code 45 = .ok (.aload_n 0, 1) := by decide +kernel
theorem d_R_walk_46 : decode prog_2_method_3_code 46 = .ok (.invokevirtual 61, 3) := by decide +kernel
theorem d_R_walk_49 : decode prog_2_method_3_code 49 = .ok (.aload_n 0, 1) := by decide +kernel
theorem d_R_walk_50 : decode prog_2_method_3_code 50 = .ok (.invokevirtual 64, 3) := by decide +kernel
theorem d_R_walk_53 : decode prog_2_method_3_code 53 = .ok (.aload_n 0, 1) := by decide +kernel
theorem d_R_walk_54 : decode prog_2_method_3_code 54 = .ok (.invokevirtual 67, 3) := by decide +kernel
theorem d_R_walk_57 : decode prog_2_method_3_code 57 = .ok (.aload_n 0, 1) := by decide +kernel
theorem d_R_walk_58 : decode prog_2_method_3_code 58 = .ok (.getfield 28, 3) := by decide +kernel
theorem d_R_walk_61 : decode prog_2_method_3_code 61 = .ok (.aload_n 0, 1) := by decide +kernel
theorem d_R_walk_62 : decode prog_2_method_3_code 62 = .ok (.getfield 24, 3) := by decide +kernel
theorem d_R_walk_65 : decode prog_2_method_3_code 65 = .ok (.if_icmp .ge 13, 3) := by decide +kernel
theorem d_R_walk_68 : decode prog_2_method_3_code 68 = .ok (.aload_n 0, 1) := by decide +kernel
theorem d_R_walk_69 : decode prog_2_method_3_code 69 = .ok (.bipush 6, 2) := by decide +kernel
theorem d_R_walk_71 : decode prog_2_method_3_code 71 = .ok (.aload_n 0, 1) := by decide +kernel
theorem d_R_walk_72 : decode prog_2_method_3_code 72 = .ok (.getfield 28, 3) := by decide +kernel
theorem d_R_walk_75 : decode prog_2_method_3_code 75 = .ok (.invokevirtual 70, 3) := by decide +kernel
theorem d_R_walk_78 : decode prog_2_method_3_code 78 = .ok (.return_, 1) := by decide +kernel
abbrev T_R_walk : List (Nat × ct_PT) := [(0, o_aload 0 1), (1, o_getI 2 9 7), (4, o_if (fun x => x = 0) (fun x => ¬ x = 0) 8), (8, o_aload 0 1), (9, o_iload 1 1), (10, o_putZ 2 9 6), (13, o_aload 0 1), (14, o_push (.int 0) 1), (15, o_putI 2 9 5), (18, o_aload 0 1), (22, o_aload 0 1), (23, o_getR 2 9 0), (26, o_getR 1 10 0), (29, o_push (.int 0) 1), (30, o_aload 0 1), (31, o_push (.int 2) 1), (35, o_l2i), (36, o_iast), (37, o_aload 0 1), (41, o_aload 0 1), (45, o_aload 0 1), (49, o_aload 0 1), (53, o_aload 0 1), (57, o_aload 0 1), (58, o_getI 2 9 5), (61, o_aload 0 1), (62, o_getI 2 9 4), (65, o_ic (fun x y => y ≤ x) (fun x y => ¬ y ≤ x) 78), (68, o_aload 0 1), (69, o_push (.int 6) 2), (71, o_aload 0 1), (72, o_getI 2 9 5)]
set_option maxRecDepth 100000 in
theorem A_R_walk (l : ct_Lx) : ct_al l M_R_walk (T_R_walk) := by
  refine ct_al.cons (so_aload_n d_R_walk_0 rfl) ?_
  refine ct_al.cons (so_getI (Cn := "CodeTables$Reader") (T := ct_T2) kc_2 (by decide) rfl rfl wd_53 d_R_walk_1) ?_
  refine ct_al.cons (so_if_eq d_R_walk_4 (by decide)) ?_
  refine ct_al.cons (so_aload_n d_R_walk_8 rfl) ?_
  refine ct_al.cons (so_iload_n d_R_walk_9 rfl) ?_
  refine ct_al.cons (so_putZ (Cn := "CodeTables$Reader") (T := ct_T2) kc_2 (by decide) rfl rfl (Or.inl rfl) wd_52 d_R_walk_10) ?_
  refine ct_al.cons (so_aload_n d_R_walk_13 rfl) ?_
  refine ct_al.cons (so_iconst d_R_walk_14 (by decide)) ?_
  refine ct_al.cons (so_putI (Cn := "CodeTables$Reader") (T := ct_T2) kc_2 (by decide) rfl rfl (Or.inl rfl) wd_51 d_R_walk_15) ?_
  refine ct_al.cons (so_aload_n d_R_walk_18 rfl) ?_
  refine ct_al.cons (so_aload_n d_R_walk_22 rfl) ?_
  refine ct_al.cons (so_getR (Cn := "CodeTables$Reader") (T := ct_T2) kc_2 (by decide) rfl rfl wd_55 d_R_walk_23) ?_
  refine ct_al.cons (so_getR (Cn := "CodeTables$Tables") (T := ct_T1) kc_1 (by decide) rfl rfl wd_62 d_R_walk_26) ?_
  refine ct_al.cons (so_iconst d_R_walk_29 (by decide)) ?_
  refine ct_al.cons (so_aload_n d_R_walk_30 rfl) ?_
  refine ct_al.cons (so_iconst d_R_walk_31 (by decide)) ?_
  refine ct_al.cons (so_l2i d_R_walk_35) ?_
  refine ct_al.cons (so_iast d_R_walk_36) ?_
  refine ct_al.cons (so_aload_n d_R_walk_37 rfl) ?_
  refine ct_al.cons (so_aload_n d_R_walk_41 rfl) ?_
  refine ct_al.cons (so_aload_n d_R_walk_45 rfl) ?_
  refine ct_al.cons (so_aload_n d_R_walk_49 rfl) ?_
  refine ct_al.cons (so_aload_n d_R_walk_53 rfl) ?_
  refine ct_al.cons (so_aload_n d_R_walk_57 rfl) ?_
  refine ct_al.cons (so_getI (Cn := "CodeTables$Reader") (T := ct_T2) kc_2 (by decide) rfl rfl wd_51 d_R_walk_58) ?_
  refine ct_al.cons (so_aload_n d_R_walk_61 rfl) ?_
  refine ct_al.cons (so_getI (Cn := "CodeTables$Reader") (T := ct_T2) kc_2 (by decide) rfl rfl wd_50 d_R_walk_62) ?_
  refine ct_al.cons (so_ic_ge d_R_walk_65 (by decide)) ?_
  refine ct_al.cons (so_aload_n d_R_walk_68 rfl) ?_
  refine ct_al.cons (so_bipush d_R_walk_69 (by decide)) ?_
  refine ct_al.cons (so_aload_n d_R_walk_71 rfl) ?_
  refine ct_al.cons (so_getI (Cn := "CodeTables$Reader") (T := ct_T2) kc_2 (by decide) rfl rfl wd_51 d_R_walk_72) ?_
  exact ct_al.nil
theorem e_R_walk_0 : ct_tab (T_R_walk) 0 = some (o_aload 0 1) := rfl
theorem e_R_walk_1 : ct_tab (T_R_walk) 1 = some (o_getI 2 9 7) := rfl
theorem e_R_walk_4 : ct_tab (T_R_walk) 4 = some (o_if (fun x => x = 0) (fun x => ¬ x = 0) 8) := rfl
theorem e_R_walk_8 : ct_tab (T_R_walk) 8 = some (o_aload 0 1) := rfl
theorem e_R_walk_9 : ct_tab (T_R_walk) 9 = some (o_iload 1 1) := rfl
theorem e_R_walk_10 : ct_tab (T_R_walk) 10 = some (o_putZ 2 9 6) := rfl
theorem e_R_walk_13 : ct_tab (T_R_walk) 13 = some (o_aload 0 1) := rfl
theorem e_R_walk_14 : ct_tab (T_R_walk) 14 = some (o_push (.int 0) 1) := rfl
theorem e_R_walk_15 : ct_tab (T_R_walk) 15 = some (o_putI 2 9 5) := rfl
theorem e_R_walk_18 : ct_tab (T_R_walk) 18 = some (o_aload 0 1) := rfl
theorem e_R_walk_22 : ct_tab (T_R_walk) 22 = some (o_aload 0 1) := rfl
theorem e_R_walk_23 : ct_tab (T_R_walk) 23 = some (o_getR 2 9 0) := rfl
theorem e_R_walk_26 : ct_tab (T_R_walk) 26 = some (o_getR 1 10 0) := rfl
theorem e_R_walk_29 : ct_tab (T_R_walk) 29 = some (o_push (.int 0) 1) := rfl
theorem e_R_walk_30 : ct_tab (T_R_walk) 30 = some (o_aload 0 1) := rfl
theorem e_R_walk_31 : ct_tab (T_R_walk) 31 = some (o_push (.int 2) 1) := rfl
theorem e_R_walk_35 : ct_tab (T_R_walk) 35 = some (o_l2i) := rfl
theorem e_R_walk_36 : ct_tab (T_R_walk) 36 = some (o_iast) := rfl
theorem e_R_walk_37 : ct_tab (T_R_walk) 37 = some (o_aload 0 1) := rfl
theorem e_R_walk_41 : ct_tab (T_R_walk) 41 = some (o_aload 0 1) := rfl
theorem e_R_walk_45 : ct_tab (T_R_walk) 45 = some (o_aload 0 1) := rfl
theorem e_R_walk_49 : ct_tab (T_R_walk) 49 = some (o_aload 0 1) := rfl
theorem e_R_walk_53 : ct_tab (T_R_walk) 53 = some (o_aload 0 1) := rfl
theorem e_R_walk_57 : ct_tab (T_R_walk) 57 = some (o_aload 0 1) := rfl
theorem e_R_walk_58 : ct_tab (T_R_walk) 58 = some (o_getI 2 9 5) := rfl
theorem e_R_walk_61 : ct_tab (T_R_walk) 61 = some (o_aload 0 1) := rfl
theorem e_R_walk_62 : ct_tab (T_R_walk) 62 = some (o_getI 2 9 4) := rfl
theorem e_R_walk_65 : ct_tab (T_R_walk) 65 = some (o_ic (fun x y => y ≤ x) (fun x y => ¬ y ≤ x) 78) := rfl
theorem e_R_walk_68 : ct_tab (T_R_walk) 68 = some (o_aload 0 1) := rfl
theorem e_R_walk_69 : ct_tab (T_R_walk) 69 = some (o_push (.int 6) 2) := rfl
theorem e_R_walk_71 : ct_tab (T_R_walk) 71 = some (o_aload 0 1) := rfl
theorem e_R_walk_72 : ct_tab (T_R_walk) 72 = some (o_getI 2 9 5) := rfl
theorem cl_R_walk_19 {l : ct_Lx} {d d1 : Nat} {Post Post1 : Option Value → ct_Sg → Prop} {lv : ct_Lv} {st : List Value} {g : ct_Sg} {bc bs c1 s1 : Nat} {h : Nat} (hsh : g.2.1 h = (10 + 2, 9)) (hM : ct_Me l M_R_readMark d1 c1 s1 [.ref h] g Post1) (hdd : d1 + 1 ≤ d) (hk : (st.map fun v => v.category).sum ≤ 8) (hcc : c1 ≤ bc) (hss : s1 ≤ bs) (kk : ∀ (v : Option Value) (g' : ct_Sg), Post1 v g' → ct_Wp l M_R_walk d Post (22, lv, v.toList ++ st, g', bc - c1, bs - s1)) : ct_Wp l M_R_walk d Post (19, lv, .ref h :: st, g, bc, bs) := ct_Wp.callV (ci := 2) (N := 9) (T := ct_T2) (As := []) lk_R_readMark (Or.inl wd_59) wd_60 wd_61 rfl d_R_walk_19 hsh hM rfl hdd hk hcc hss kk
theorem cl_R_walk_32 {l : ct_Lx} {d d1 : Nat} {Post Post1 : Option Value → ct_Sg → Prop} {lv : ct_Lv} {st : List Value} {g : ct_Sg} {bc bs c1 s1 : Nat} {a1 : Value} {h : Nat} (hsh : g.2.1 h = (10 + 2, 9)) (hM : ct_Me l M_R_take d1 c1 s1 [.ref h, a1] g Post1) (hdd : d1 + 1 ≤ d) (hk : (st.map fun v => v.category).sum ≤ 8) (hcc : c1 ≤ bc) (hss : s1 ≤ bs) (kk : ∀ (v : Option Value) (g' : ct_Sg), Post1 v g' → ct_Wp l M_R_walk d Post (35, lv, v.toList ++ st, g', bc - c1, bs - s1)) : ct_Wp l M_R_walk d Post (32, lv, a1 :: .ref h :: st, g, bc, bs) := ct_Wp.callV (ci := 2) (N := 9) (T := ct_T2) (As := [a1]) lk_R_take (Or.inl wd_65) wd_66 wd_67 rfl d_R_walk_32 hsh hM rfl hdd hk hcc hss kk
theorem cl_R_walk_38 {l : ct_Lx} {d d1 : Nat} {Post Post1 : Option Value → ct_Sg → Prop} {lv : ct_Lv} {st : List Value} {g : ct_Sg} {bc bs c1 s1 : Nat} {h : Nat} (hsh : g.2.1 h = (10 + 2, 9)) (hM : ct_Me l M_R_readStructures d1 c1 s1 [.ref h] g Post1) (hdd : d1 + 1 ≤ d) (hk : (st.map fun v => v.category).sum ≤ 8) (hcc : c1 ≤ bc) (hss : s1 ≤ bs) (kk : ∀ (v : Option Value) (g' : ct_Sg), Post1 v g' → ct_Wp l M_R_walk d Post (41, lv, v.toList ++ st, g', bc - c1, bs - s1)) : ct_Wp l M_R_walk d Post (38, lv, .ref h :: st, g, bc, bs) := ct_Wp.callV (ci := 2) (N := 9) (T := ct_T2) (As := []) lk_R_readStructures (Or.inl wd_70) wd_71 wd_72 rfl d_R_walk_38 hsh hM rfl hdd hk hcc hss kk
theorem cl_R_walk_42 {l : ct_Lx} {d d1 : Nat} {Post Post1 : Option Value → ct_Sg → Prop} {lv : ct_Lv} {st : List Value} {g : ct_Sg} {bc bs c1 s1 : Nat} {h : Nat} (hsh : g.2.1 h = (10 + 2, 9)) (hM : ct_Me l M_R_readForeignStructures d1 c1 s1 [.ref h] g Post1) (hdd : d1 + 1 ≤ d) (hk : (st.map fun v => v.category).sum ≤ 8) (hcc : c1 ≤ bc) (hss : s1 ≤ bs) (kk : ∀ (v : Option Value) (g' : ct_Sg), Post1 v g' → ct_Wp l M_R_walk d Post (45, lv, v.toList ++ st, g', bc - c1, bs - s1)) : ct_Wp l M_R_walk d Post (42, lv, .ref h :: st, g, bc, bs) := ct_Wp.callV (ci := 2) (N := 9) (T := ct_T2) (As := []) lk_R_readForeignStructures (Or.inl wd_75) wd_76 wd_77 rfl d_R_walk_42 hsh hM rfl hdd hk hcc hss kk
theorem cl_R_walk_46 {l : ct_Lx} {d d1 : Nat} {Post Post1 : Option Value → ct_Sg → Prop} {lv : ct_Lv} {st : List Value} {g : ct_Sg} {bc bs c1 s1 : Nat} {h : Nat} (hsh : g.2.1 h = (10 + 2, 9)) (hM : ct_Me l M_R_readForeignFunctions d1 c1 s1 [.ref h] g Post1) (hdd : d1 + 1 ≤ d) (hk : (st.map fun v => v.category).sum ≤ 8) (hcc : c1 ≤ bc) (hss : s1 ≤ bs) (kk : ∀ (v : Option Value) (g' : ct_Sg), Post1 v g' → ct_Wp l M_R_walk d Post (49, lv, v.toList ++ st, g', bc - c1, bs - s1)) : ct_Wp l M_R_walk d Post (46, lv, .ref h :: st, g, bc, bs) := ct_Wp.callV (ci := 2) (N := 9) (T := ct_T2) (As := []) lk_R_readForeignFunctions (Or.inl wd_80) wd_81 wd_82 rfl d_R_walk_46 hsh hM rfl hdd hk hcc hss kk
theorem cl_R_walk_50 {l : ct_Lx} {d d1 : Nat} {Post Post1 : Option Value → ct_Sg → Prop} {lv : ct_Lv} {st : List Value} {g : ct_Sg} {bc bs c1 s1 : Nat} {h : Nat} (hsh : g.2.1 h = (10 + 2, 9)) (hM : ct_Me l M_R_readElements d1 c1 s1 [.ref h] g Post1) (hdd : d1 + 1 ≤ d) (hk : (st.map fun v => v.category).sum ≤ 8) (hcc : c1 ≤ bc) (hss : s1 ≤ bs) (kk : ∀ (v : Option Value) (g' : ct_Sg), Post1 v g' → ct_Wp l M_R_walk d Post (53, lv, v.toList ++ st, g', bc - c1, bs - s1)) : ct_Wp l M_R_walk d Post (50, lv, .ref h :: st, g, bc, bs) := ct_Wp.callV (ci := 2) (N := 9) (T := ct_T2) (As := []) lk_R_readElements (Or.inl wd_85) wd_86 wd_87 rfl d_R_walk_50 hsh hM rfl hdd hk hcc hss kk
theorem cl_R_walk_54 {l : ct_Lx} {d d1 : Nat} {Post Post1 : Option Value → ct_Sg → Prop} {lv : ct_Lv} {st : List Value} {g : ct_Sg} {bc bs c1 s1 : Nat} {h : Nat} (hsh : g.2.1 h = (10 + 2, 9)) (hM : ct_Me l M_R_readFunctions d1 c1 s1 [.ref h] g Post1) (hdd : d1 + 1 ≤ d) (hk : (st.map fun v => v.category).sum ≤ 8) (hcc : c1 ≤ bc) (hss : s1 ≤ bs) (kk : ∀ (v : Option Value) (g' : ct_Sg), Post1 v g' → ct_Wp l M_R_walk d Post (57, lv, v.toList ++ st, g', bc - c1, bs - s1)) : ct_Wp l M_R_walk d Post (54, lv, .ref h :: st, g, bc, bs) := ct_Wp.callV (ci := 2) (N := 9) (T := ct_T2) (As := []) lk_R_readFunctions (Or.inl wd_90) wd_91 wd_92 rfl d_R_walk_54 hsh hM rfl hdd hk hcc hss kk
theorem cl_R_walk_75 {l : ct_Lx} {d d1 : Nat} {Post Post1 : Option Value → ct_Sg → Prop} {lv : ct_Lv} {st : List Value} {g : ct_Sg} {bc bs c1 s1 : Nat} {a1 a2 : Value} {h : Nat} (hsh : g.2.1 h = (10 + 2, 9)) (hM : ct_Me l M_R_fail d1 c1 s1 [.ref h, a1, a2] g Post1) (hdd : d1 + 1 ≤ d) (hk : (st.map fun v => v.category).sum ≤ 8) (hcc : c1 ≤ bc) (hss : s1 ≤ bs) (kk : ∀ (v : Option Value) (g' : ct_Sg), Post1 v g' → ct_Wp l M_R_walk d Post (78, lv, v.toList ++ st, g', bc - c1, bs - s1)) : ct_Wp l M_R_walk d Post (75, lv, a2 :: a1 :: .ref h :: st, g, bc, bs) := ct_Wp.callV (ci := 2) (N := 9) (T := ct_T2) (As := [a1, a2]) lk_R_fail (Or.inl wd_95) wd_96 wd_97 rfl d_R_walk_75 hsh hM rfl hdd hk hcc hss kk
theorem d_R_readMark_0 : decode prog_2_method_4_code 0 = .ok (.iconst 0, 1) := by decide +kernel
theorem d_R_readMark_1 : decode prog_2_method_4_code 1 = .ok (.istore_n 1, 1) := by decide +kernel
theorem d_R_readMark_2 : decode prog_2_method_4_code 2 = .ok (.iload_n 1, 1) := by decide +kernel
theorem d_R_readMark_3 : decode prog_2_method_4_code 3 = .ok (.getstatic 74, 3) := by decide +kernel
theorem d_R_readMark_6 : decode prog_2_method_4_code 6 = .ok (.arraylength, 1) := by decide +kernel
theorem d_R_readMark_7 : decode prog_2_method_4_code 7 = .ok (.if_icmp .ge 35, 3) := by decide +kernel
theorem d_R_readMark_10 : decode prog_2_method_4_code 10 = .ok (.aload_n 0, 1) := by decide +kernel
theorem d_R_readMark_11 : decode prog_2_method_4_code 11 = .ok (.getfield 28, 3) := by decide +kernel
theorem d_R_readMark_14 : decode prog_2_method_4_code 14 = .ok (.istore_n 2, 1) := by decide +kernel
theorem d_R_readMark_15 : decode prog_2_method_4_code 15 = .ok (.aload_n 0, 1) := by decide +kernel
theorem d_R_readMark_16 : decode prog_2_method_4_code 16 = .ok (.iconst 1, 1) := by decide +kernel
theorem d_R_readMark_17 : decode prog_2_method_4_code 17 = .ok (.invokevirtual 51, 3) := by decide +kernel
theorem d_R_readMark_20 : decode prog_2_method_4_code 20 = .ok (.getstatic 74, 3) := by decide +kernel
theorem d_R_readMark_23 : decode prog_2_method_4_code 23 = .ok (.iload_n 1, 1) := by decide +kernel
theorem d_R_readMark_24 : decode prog_2_method_4_code 24 = .ok (.iaload, 1) := by decide +kernel
theorem d_R_readMark_25 : decode prog_2_method_4_code 25 = .ok (.i2l, 1) := by decide +kernel
theorem d_R_readMark_26 : decode prog_2_method_4_code 26 = .ok (.lcmp, 1) := by decide +kernel
theorem d_R_readMark_27 : decode prog_2_method_4_code 27 = .ok (.ifCond .eq 9, 3) := by decide +kernel
theorem d_R_readMark_30 : decode prog_2_method_4_code 30 = .ok (.aload_n 0, 1) := by decide +kernel
theorem d_R_readMark_31 : decode prog_2_method_4_code 31 = .ok (.iconst 1, 1) := by decide +kernel
theorem d_R_readMark_32 : decode prog_2_method_4_code 32 = .ok (.iload_n 2, 1) := by decide +kernel
theorem d_R_readMark_33 : decode prog_2_method_4_code 33 = .ok (.invokevirtual 70, 3) := by decide +kernel
theorem d_R_readMark_36 : decode prog_2_method_4_code 36 = .ok (.iinc 1 1, 3) := by decide +kernel
theorem d_R_readMark_39 : decode prog_2_method_4_code 39 = .ok (.goto (-37), 3) := by decide +kernel
theorem d_R_readMark_42 : decode prog_2_method_4_code 42 = .ok (.return_, 1) := by decide +kernel
abbrev T_R_readMark : List (Nat × ct_PT) := [(0, o_push (.int 0) 1), (1, o_istore 1 1), (2, o_iload 1 1), (3, o_push (.ref 0) 3), (6, o_mlen), (7, o_ic (fun x y => y ≤ x) (fun x y => ¬ y ≤ x) 42), (10, o_aload 0 1), (11, o_getI 2 9 5), (14, o_istore 2 1), (15, o_aload 0 1), (16, o_push (.int 1) 1), (20, o_push (.ref 0) 3), (23, o_iload 1 1), (24, o_mald), (25, o_i2l), (26, o_lcmp), (27, o_if (fun x => x = 0) (fun x => ¬ x = 0) 36), (30, o_aload 0 1), (31, o_push (.int 1) 1), (32, o_iload 2 1), (36, o_iinc 1 1), (39, o_goto 2)]
set_option maxRecDepth 100000 in
theorem A_R_readMark (l : ct_Lx) : ct_al l M_R_readMark (T_R_readMark) := by
  refine ct_al.cons (so_iconst d_R_readMark_0 (by decide)) ?_
  refine ct_al.cons (so_istore_n d_R_readMark_1 rfl (by decide)) ?_
  refine ct_al.cons (so_iload_n d_R_readMark_2 rfl) ?_
  refine ct_al.cons (so_gmark nw_0 d_R_readMark_3) ?_
  refine ct_al.cons (so_mlen d_R_readMark_6) ?_
  refine ct_al.cons (so_ic_ge d_R_readMark_7 (by decide)) ?_
  refine ct_al.cons (so_aload_n d_R_readMark_10 rfl) ?_
  refine ct_al.cons (so_getI (Cn := "CodeTables$Reader") (T := ct_T2) kc_2 (by decide) rfl rfl wd_51 d_R_readMark_11) ?_
  refine ct_al.cons (so_istore_n d_R_readMark_14 rfl (by decide)) ?_
  refine ct_al.cons (so_aload_n d_R_readMark_15 rfl) ?_
  refine ct_al.cons (so_iconst d_R_readMark_16 (by decide)) ?_
  refine ct_al.cons (so_gmark nw_0 d_R_readMark_20) ?_
  refine ct_al.cons (so_iload_n d_R_readMark_23 rfl) ?_
  refine ct_al.cons (so_mald d_R_readMark_24) ?_
  refine ct_al.cons (so_i2l d_R_readMark_25) ?_
  refine ct_al.cons (so_lcmp d_R_readMark_26) ?_
  refine ct_al.cons (so_if_eq d_R_readMark_27 (by decide)) ?_
  refine ct_al.cons (so_aload_n d_R_readMark_30 rfl) ?_
  refine ct_al.cons (so_iconst d_R_readMark_31 (by decide)) ?_
  refine ct_al.cons (so_iload_n d_R_readMark_32 rfl) ?_
  refine ct_al.cons (so_iinc d_R_readMark_36 (by decide) (by decide)) ?_
  refine ct_al.cons (so_goto d_R_readMark_39 (by decide)) ?_
  exact ct_al.nil
theorem e_R_readMark_0 : ct_tab (T_R_readMark) 0 = some (o_push (.int 0) 1) := rfl
theorem e_R_readMark_1 : ct_tab (T_R_readMark) 1 = some (o_istore 1 1) := rfl
theorem e_R_readMark_2 : ct_tab (T_R_readMark) 2 = some (o_iload 1 1) := rfl
theorem e_R_readMark_3 : ct_tab (T_R_readMark) 3 = some (o_push (.ref 0) 3) := rfl
theorem e_R_readMark_6 : ct_tab (T_R_readMark) 6 = some (o_mlen) := rfl
theorem e_R_readMark_7 : ct_tab (T_R_readMark) 7 = some (o_ic (fun x y => y ≤ x) (fun x y => ¬ y ≤ x) 42) := rfl
theorem e_R_readMark_10 : ct_tab (T_R_readMark) 10 = some (o_aload 0 1) := rfl
theorem e_R_readMark_11 : ct_tab (T_R_readMark) 11 = some (o_getI 2 9 5) := rfl
theorem e_R_readMark_14 : ct_tab (T_R_readMark) 14 = some (o_istore 2 1) := rfl
theorem e_R_readMark_15 : ct_tab (T_R_readMark) 15 = some (o_aload 0 1) := rfl
theorem e_R_readMark_16 : ct_tab (T_R_readMark) 16 = some (o_push (.int 1) 1) := rfl
theorem e_R_readMark_20 : ct_tab (T_R_readMark) 20 = some (o_push (.ref 0) 3) := rfl
theorem e_R_readMark_23 : ct_tab (T_R_readMark) 23 = some (o_iload 1 1) := rfl
theorem e_R_readMark_24 : ct_tab (T_R_readMark) 24 = some (o_mald) := rfl
theorem e_R_readMark_25 : ct_tab (T_R_readMark) 25 = some (o_i2l) := rfl
theorem e_R_readMark_26 : ct_tab (T_R_readMark) 26 = some (o_lcmp) := rfl
theorem e_R_readMark_27 : ct_tab (T_R_readMark) 27 = some (o_if (fun x => x = 0) (fun x => ¬ x = 0) 36) := rfl
theorem e_R_readMark_30 : ct_tab (T_R_readMark) 30 = some (o_aload 0 1) := rfl
theorem e_R_readMark_31 : ct_tab (T_R_readMark) 31 = some (o_push (.int 1) 1) := rfl
theorem e_R_readMark_32 : ct_tab (T_R_readMark) 32 = some (o_iload 2 1) := rfl
theorem e_R_readMark_36 : ct_tab (T_R_readMark) 36 = some (o_iinc 1 1) := rfl
theorem e_R_readMark_39 : ct_tab (T_R_readMark) 39 = some (o_goto 2) := rfl
theorem cl_R_readMark_17 {l : ct_Lx} {d d1 : Nat} {Post Post1 : Option Value → ct_Sg → Prop} {lv : ct_Lv} {st : List Value} {g : ct_Sg} {bc bs c1 s1 : Nat} {a1 : Value} {h : Nat} (hsh : g.2.1 h = (10 + 2, 9)) (hM : ct_Me l M_R_take d1 c1 s1 [.ref h, a1] g Post1) (hdd : d1 + 1 ≤ d) (hk : (st.map fun v => v.category).sum ≤ 8) (hcc : c1 ≤ bc) (hss : s1 ≤ bs) (kk : ∀ (v : Option Value) (g' : ct_Sg), Post1 v g' → ct_Wp l M_R_readMark d Post (20, lv, v.toList ++ st, g', bc - c1, bs - s1)) : ct_Wp l M_R_readMark d Post (17, lv, a1 :: .ref h :: st, g, bc, bs) := ct_Wp.callV (ci := 2) (N := 9) (T := ct_T2) (As := [a1]) lk_R_take (Or.inl wd_65) wd_66 wd_67 rfl d_R_readMark_17 hsh hM rfl hdd hk hcc hss kk
theorem cl_R_readMark_33 {l : ct_Lx} {d d1 : Nat} {Post Post1 : Option Value → ct_Sg → Prop} {lv : ct_Lv} {st : List Value} {g : ct_Sg} {bc bs c1 s1 : Nat} {a1 a2 : Value} {h : Nat} (hsh : g.2.1 h = (10 + 2, 9)) (hM : ct_Me l M_R_fail d1 c1 s1 [.ref h, a1, a2] g Post1) (hdd : d1 + 1 ≤ d) (hk : (st.map fun v => v.category).sum ≤ 8) (hcc : c1 ≤ bc) (hss : s1 ≤ bs) (kk : ∀ (v : Option Value) (g' : ct_Sg), Post1 v g' → ct_Wp l M_R_readMark d Post (36, lv, v.toList ++ st, g', bc - c1, bs - s1)) : ct_Wp l M_R_readMark d Post (33, lv, a2 :: a1 :: .ref h :: st, g, bc, bs) := ct_Wp.callV (ci := 2) (N := 9) (T := ct_T2) (As := [a1, a2]) lk_R_fail (Or.inl wd_95) wd_96 wd_97 rfl d_R_readMark_33 hsh hM rfl hdd hk hcc hss kk
theorem d_R_readStructures_0 : decode prog_2_method_5_code 0 = .ok (.aload_n 0, 1) := by decide +kernel
theorem d_R_readStructures_1 : decode prog_2_method_5_code 1 = .ok (.iconst 1, 1) := by decide +kernel
theorem d_R_readStructures_2 : decode prog_2_method_5_code 2 = .ok (.iconst 0, 1) := by decide +kernel
theorem d_R_readStructures_3 : decode prog_2_method_5_code 3 = .ok (.bipush 32, 2) := by decide +kernel
theorem d_R_readStructures_5 : decode prog_2_method_5_code 5 = .ok (.invokevirtual 77, 3) := by decide +kernel
theorem d_R_readStructures_8 : decode prog_2_method_5_code 8 = .ok (.istore_n 1, 1) := by decide +kernel
theorem d_R_readStructures_9 : decode prog_2_method_5_code 9 = .ok (.aload_n 0, 1) := by decide +kernel
theorem d_R_readStructures_10 : decode prog_2_method_5_code 10 = .ok (.getfield 41, 3) := by decide +kernel
theorem d_R_readStructures_13 : decode prog_2_method_5_code 13 = .ok (.getfield 48, 3) := by decide +kernel
theorem d_R_readStructures_16 : decode prog_2_method_5_code 16 = .ok (.iconst 1, 1) := by decide +kernel
theorem d_R_readStructures_17 : decode prog_2_method_5_code 17 = .ok (.iload_n 1, 1) := by decide +kernel
theorem d_R_readStructures_18 : decode prog_2_method_5_code 18 = .ok (.iastore, 1) := by decide +kernel
theorem d_R_readStructures_19 : decode prog_2_method_5_code 19 = .ok (.iconst 0, 1) := by decide +kernel
theorem d_R_readStructures_20 : decode prog_2_method_5_code 20 = .ok (.istore_n 2, 1) := by decide +kernel
theorem d_R_readStructures_21 : decode prog_2_method_5_code 21 = .ok (.iload_n 2, 1) := by decide +kernel
theorem d_R_readStructures_22 : decode prog_2_method_5_code 22 = .ok (.iload_n 1, 1) := by decide +kernel
theorem d_R_readStructures_23 : decode prog_2_method_5_code 23 = .ok (.if_icmp .ge 103, 3) := by decide +kernel
theorem d_R_readStructures_26 : decode prog_2_method_5_code 26 = .ok (.aload_n 0, 1) := by decide +kernel
theorem d_R_readStructures_27 : decode prog_2_method_5_code 27 = .ok (.getfield 35, 3) := by decide +kernel
theorem d_R_readStructures_30 : decode prog_2_method_5_code 30 = .ok (.ifCond .ne 96, 3) := by decide +kernel
theorem d_R_readStructures_33 : decode prog_2_method_5_code 33 = .ok (.iload_n 2, 1) := by decide +kernel
theorem d_R_readStructures_34 : decode prog_2_method_5_code 34 = .ok (.iconst 4, 1) := by decide +kernel
theorem d_R_readStructures_35 : decode prog_2_method_5_code 35 = .ok (.imul, 1) := by decide +kernel
theorem d_R_readStructures_36 : decode prog_2_method_5_code 36 = .ok (.istore_n 3, 1) := by decide +kernel
theorem d_R_readStructures_37 : decode prog_2_method_5_code 37 = .ok (.aload_n 0, 1) := by decide +kernel
theorem d_R_readStructures_38 : decode prog_2_method_5_code 38 = .ok (.getfield 11, 3) := by decide +kernel
theorem d_R_readStructures_41 : decode prog_2_method_5_code 41 = .ok (.iload_n 2, 1) := by decide +kernel
theorem d_R_readStructures_42 : decode prog_2_method_5_code 42 = .ok (.aload_n 0, 1) := by decide +kernel
theorem d_R_readStructures_43 : decode prog_2_method_5_code 43 = .ok (.getfield 28, 3) := by decide +kernel
theorem d_R_readStructures_46 : decode prog_2_method_5_code 46 = .ok (.iastore, 1) := by decide +kernel
theorem d_R_readStructures_47 : decode prog_2_method_5_code 47 = .ok (.aload_n 0, 1) := by decide +kernel
theorem d_R_readStructures_48 : decode prog_2_method_5_code 48 = .ok (.getfield 41, 3) := by decide +kernel
theorem d_R_readStructures_51 : decode prog_2_method_5_code 51 = .ok (.getfield 81, 3) := by decide +kernel
theorem d_R_readStructures_54 : decode prog_2_method_5_code 54 = .ok (.iload_n 3, 1) := by decide +kernel
theorem d_R_readStructures_55 : decode prog_2_method_5_code 55 = .ok (.iconst 0, 1) := by decide +kernel
theorem d_R_readStructures_56 : decode prog_2_method_5_code 56 = .ok (.iadd, 1) := by decide +kernel
theorem d_R_readStructures_57 : decode prog_2_method_5_code 57 = .ok (.aload_n 0, 1) := by decide +kernel
theorem d_R_readStructures_58 : decode prog_2_method_5_code 58 = .ok (.iconst 1, 1) := by decide +kernel
theorem d_R_readStructures_59 : decode prog_2_method_5_code 59 = .ok (.iconst 0, 1) := by decide +kernel
theorem d_R_readStructures_60 : decode prog_2_method_5_code 60 = .ok (.bipush 15, 2) := by decide +kernel
theorem d_R_readStructures_62 : decode prog_2_method_5_code 62 = .ok (.invokevirtual 77, 3) := by decide +kernel
theorem d_R_readStructures_65 : decode prog_2_method_5_code 65 = .ok (.iastore, 1) := by decide +kernel
theorem d_R_readStructures_66 : decode prog_2_method_5_code 66 = .ok (.aload_n 0, 1) := by decide +kernel
theorem d_R_readStructures_67 : decode prog_2_method_5_code 67 = .ok (.getfield 41, 3) := by decide +kernel
theorem d_R_readStructures_70 : decode prog_2_method_5_code 70 = .ok (.getfield 81, 3) := by decide +kernel
theorem d_R_readStructures_73 : decode prog_2_method_5_code 73 = .ok (.iload_n 3, 1) := by decide +kernel
theorem d_R_readStructures_74 : decode prog_2_method_5_code 74 = .ok (.iconst 1, 1) := by decide +kernel
theorem d_R_readStructures_75 : decode prog_2_method_5_code 75 = .ok (.iadd, 1) := by decide +kernel
theorem d_R_readStructures_76 : decode prog_2_method_5_code 76 = .ok (.aload_n 0, 1) := by decide +kernel
theorem d_R_readStructures_77 : decode prog_2_method_5_code 77 = .ok (.aload_n 0, 1) := by decide +kernel
theorem d_R_readStructures_78 : decode prog_2_method_5_code 78 = .ok (.getfield 41, 3) := by decide +kernel
theorem d_R_readStructures_81 : decode prog_2_method_5_code 81 = .ok (.getfield 84, 3) := by decide +kernel
theorem d_R_readStructures_84 : decode prog_2_method_5_code 84 = .ok (.iload_n 2, 1) := by decide +kernel
theorem d_R_readStructures_85 : decode prog_2_method_5_code 85 = .ok (.bipush 16, 2) := by decide +kernel
theorem d_R_readStructures_87 : decode prog_2_method_5_code 87 = .ok (.imul, 1) := by decide +kernel
theorem d_R_readStructures_88 : decode prog_2_method_5_code 88 = .ok (.iconst 1, 1) := by decide +kernel
theorem d_R_readStructures_89 : decode prog_2_method_5_code 89 = .ok (.bipush 16, 2) := by decide +kernel
theorem d_R_readStructures_91 : decode prog_2_method_5_code 91 = .ok (.iconst 0, 1) := by decide +kernel
theorem d_R_readStructures_92 : decode prog_2_method_5_code 92 = .ok (.invokevirtual 88, 3) := by decide +kernel
theorem d_R_readStructures_95 : decode prog_2_method_5_code 95 = .ok (.iastore, 1) := by decide +kernel
theorem d_R_readStructures_96 : decode prog_2_method_5_code 96 = .ok (.aload_n 0, 1) := by decide +kernel
theorem d_R_readStructures_97 : decode prog_2_method_5_code 97 = .ok (.getfield 41, 3) := by decide +kernel
theorem d_R_readStructures_100 : decode prog_2_method_5_code 100 = .ok (.getfield 81, 3) := by decide +kernel
theorem d_R_readStructures_103 : decode prog_2_method_5_code 103 = .ok (.iload_n 3, 1) := by decide +kernel
theorem d_R_readStructures_104 : decode prog_2_method_5_code 104 = .ok (.iconst 2, 1) := by decide +kernel
theorem d_R_readStructures_105 : decode prog_2_method_5_code 105 = .ok (.iadd, 1) := by decide +kernel
theorem d_R_readStructures_106 : decode prog_2_method_5_code 106 = .ok (.iconst (-1), 1) := by decide +kernel
theorem d_R_readStructures_107 : decode prog_2_method_5_code 107 = .ok (.iastore, 1) := by decide +kernel
theorem d_R_readStructures_108 : decode prog_2_method_5_code 108 = .ok (.aload_n 0, 1) := by decide +kernel
theorem d_R_readStructures_109 : decode prog_2_method_5_code 109 = .ok (.getfield 41, 3) := by decide +kernel
theorem d_R_readStructures_112 : decode prog_2_method_5_code 112 = .ok (.getfield 81, 3) := by decide +kernel
theorem d_R_readStructures_115 : decode prog_2_method_5_code 115 = .ok (.iload_n 3, 1) := by decide +kernel
theorem d_R_readStructures_116 : decode prog_2_method_5_code 116 = .ok (.iconst 3, 1) := by decide +kernel
theorem d_R_readStructures_117 : decode prog_2_method_5_code 117 = .ok (.iadd, 1) := by decide +kernel
theorem d_R_readStructures_118 : decode prog_2_method_5_code 118 = .ok (.iconst (-1), 1) := by decide +kernel
theorem d_R_readStructures_119 : decode prog_2_method_5_code 119 = .ok (.iastore, 1) := by decide +kernel
theorem d_R_readStructures_120 : decode prog_2_method_5_code 120 = .ok (.iinc 2 1, 3) := by decide +kernel
theorem d_R_readStructures_123 : decode prog_2_method_5_code 123 = .ok (.goto (-102), 3) := by decide +kernel
theorem d_R_readStructures_126 : decode prog_2_method_5_code 126 = .ok (.return_, 1) := by decide +kernel
abbrev T_R_readStructures : List (Nat × ct_PT) := [(0, o_aload 0 1), (1, o_push (.int 1) 1), (2, o_push (.int 0) 1), (3, o_push (.int 32) 2), (8, o_istore 1 1), (9, o_aload 0 1), (10, o_getR 2 9 0), (13, o_getR 1 10 0), (16, o_push (.int 1) 1), (17, o_iload 1 1), (18, o_iast), (19, o_push (.int 0) 1), (20, o_istore 2 1), (21, o_iload 2 1), (22, o_iload 1 1), (23, o_ic (fun x y => y ≤ x) (fun x y => ¬ y ≤ x) 126), (26, o_aload 0 1), (27, o_getI 2 9 7), (30, o_if (fun x => ¬ x = 0) (fun x => x = 0) 126), (33, o_iload 2 1), (34, o_push (.int 4) 1), (35, o_ii fun x y => x * y), (36, o_istore 3 1), (37, o_aload 0 1), (38, o_getR 2 9 1), (41, o_iload 2 1), (42, o_aload 0 1), (43, o_getI 2 9 5), (46, o_iast), (47, o_aload 0 1), (48, o_getR 2 9 0), (51, o_getR 1 10 1), (54, o_iload 3 1), (55, o_push (.int 0) 1), (56, o_ii fun x y => x + y), (57, o_aload 0 1), (58, o_push (.int 1) 1), (59, o_push (.int 0) 1), (60, o_push (.int 15) 2), (65, o_iast), (66, o_aload 0 1), (67, o_getR 2 9 0), (70, o_getR 1 10 1), (73, o_iload 3 1), (74, o_push (.int 1) 1), (75, o_ii fun x y => x + y), (76, o_aload 0 1), (77, o_aload 0 1), (78, o_getR 2 9 0), (81, o_getR 1 10 2), (84, o_iload 2 1), (85, o_push (.int 16) 2), (87, o_ii fun x y => x * y), (88, o_push (.int 1) 1), (89, o_push (.int 16) 2), (91, o_push (.int 0) 1), (95, o_iast), (96, o_aload 0 1), (97, o_getR 2 9 0), (100, o_getR 1 10 1), (103, o_iload 3 1), (104, o_push (.int 2) 1), (105, o_ii fun x y => x + y), (106, o_push (.int (-1)) 1), (107, o_iast), (108, o_aload 0 1), (109, o_getR 2 9 0), (112, o_getR 1 10 1), (115, o_iload 3 1), (116, o_push (.int 3) 1), (117, o_ii fun x y => x + y), (118, o_push (.int (-1)) 1), (119, o_iast), (120, o_iinc 2 1), (123, o_goto 21)]
set_option maxRecDepth 100000 in
theorem A_R_readStructures (l : ct_Lx) : ct_al l M_R_readStructures (T_R_readStructures) := by
  refine ct_al.cons (so_aload_n d_R_readStructures_0 rfl) ?_
  refine ct_al.cons (so_iconst d_R_readStructures_1 (by decide)) ?_
  refine ct_al.cons (so_iconst d_R_readStructures_2 (by decide)) ?_
  refine ct_al.cons (so_bipush d_R_readStructures_3 (by decide)) ?_
  refine ct_al.cons (so_istore_n d_R_readStructures_8 rfl (by decide)) ?_
  refine ct_al.cons (so_aload_n d_R_readStructures_9 rfl) ?_
  refine ct_al.cons (so_getR (Cn := "CodeTables$Reader") (T := ct_T2) kc_2 (by decide) rfl rfl wd_55 d_R_readStructures_10) ?_
  refine ct_al.cons (so_getR (Cn := "CodeTables$Tables") (T := ct_T1) kc_1 (by decide) rfl rfl wd_62 d_R_readStructures_13) ?_
  refine ct_al.cons (so_iconst d_R_readStructures_16 (by decide)) ?_
  refine ct_al.cons (so_iload_n d_R_readStructures_17 rfl) ?_
  refine ct_al.cons (so_iast d_R_readStructures_18) ?_
  refine ct_al.cons (so_iconst d_R_readStructures_19 (by decide)) ?_
  refine ct_al.cons (so_istore_n d_R_readStructures_20 rfl (by decide)) ?_
  refine ct_al.cons (so_iload_n d_R_readStructures_21 rfl) ?_
  refine ct_al.cons (so_iload_n d_R_readStructures_22 rfl) ?_
  refine ct_al.cons (so_ic_ge d_R_readStructures_23 (by decide)) ?_
  refine ct_al.cons (so_aload_n d_R_readStructures_26 rfl) ?_
  refine ct_al.cons (so_getI (Cn := "CodeTables$Reader") (T := ct_T2) kc_2 (by decide) rfl rfl wd_53 d_R_readStructures_27) ?_
  refine ct_al.cons (so_if_ne d_R_readStructures_30 (by decide)) ?_
  refine ct_al.cons (so_iload_n d_R_readStructures_33 rfl) ?_
  refine ct_al.cons (so_iconst d_R_readStructures_34 (by decide)) ?_
  refine ct_al.cons (so_imul d_R_readStructures_35) ?_
  refine ct_al.cons (so_istore_n d_R_readStructures_36 rfl (by decide)) ?_
  refine ct_al.cons (so_aload_n d_R_readStructures_37 rfl) ?_
  refine ct_al.cons (so_getR (Cn := "CodeTables$Reader") (T := ct_T2) kc_2 (by decide) rfl rfl wd_47 d_R_readStructures_38) ?_
  refine ct_al.cons (so_iload_n d_R_readStructures_41 rfl) ?_
  refine ct_al.cons (so_aload_n d_R_readStructures_42 rfl) ?_
  refine ct_al.cons (so_getI (Cn := "CodeTables$Reader") (T := ct_T2) kc_2 (by decide) rfl rfl wd_51 d_R_readStructures_43) ?_
  refine ct_al.cons (so_iast d_R_readStructures_46) ?_
  refine ct_al.cons (so_aload_n d_R_readStructures_47 rfl) ?_
  refine ct_al.cons (so_getR (Cn := "CodeTables$Reader") (T := ct_T2) kc_2 (by decide) rfl rfl wd_55 d_R_readStructures_48) ?_
  refine ct_al.cons (so_getR (Cn := "CodeTables$Tables") (T := ct_T1) kc_1 (by decide) rfl rfl wd_103 d_R_readStructures_51) ?_
  refine ct_al.cons (so_iload_n d_R_readStructures_54 rfl) ?_
  refine ct_al.cons (so_iconst d_R_readStructures_55 (by decide)) ?_
  refine ct_al.cons (so_iadd d_R_readStructures_56) ?_
  refine ct_al.cons (so_aload_n d_R_readStructures_57 rfl) ?_
  refine ct_al.cons (so_iconst d_R_readStructures_58 (by decide)) ?_
  refine ct_al.cons (so_iconst d_R_readStructures_59 (by decide)) ?_
  refine ct_al.cons (so_bipush d_R_readStructures_60 (by decide)) ?_
  refine ct_al.cons (so_iast d_R_readStructures_65) ?_
  refine ct_al.cons (so_aload_n d_R_readStructures_66 rfl) ?_
  refine ct_al.cons (so_getR (Cn := "CodeTables$Reader") (T := ct_T2) kc_2 (by decide) rfl rfl wd_55 d_R_readStructures_67) ?_
  refine ct_al.cons (so_getR (Cn := "CodeTables$Tables") (T := ct_T1) kc_1 (by decide) rfl rfl wd_103 d_R_readStructures_70) ?_
  refine ct_al.cons (so_iload_n d_R_readStructures_73 rfl) ?_
  refine ct_al.cons (so_iconst d_R_readStructures_74 (by decide)) ?_
  refine ct_al.cons (so_iadd d_R_readStructures_75) ?_
  refine ct_al.cons (so_aload_n d_R_readStructures_76 rfl) ?_
  refine ct_al.cons (so_aload_n d_R_readStructures_77 rfl) ?_
  refine ct_al.cons (so_getR (Cn := "CodeTables$Reader") (T := ct_T2) kc_2 (by decide) rfl rfl wd_55 d_R_readStructures_78) ?_
  refine ct_al.cons (so_getR (Cn := "CodeTables$Tables") (T := ct_T1) kc_1 (by decide) rfl rfl wd_104 d_R_readStructures_81) ?_
  refine ct_al.cons (so_iload_n d_R_readStructures_84 rfl) ?_
  refine ct_al.cons (so_bipush d_R_readStructures_85 (by decide)) ?_
  refine ct_al.cons (so_imul d_R_readStructures_87) ?_
  refine ct_al.cons (so_iconst d_R_readStructures_88 (by decide)) ?_
  refine ct_al.cons (so_bipush d_R_readStructures_89 (by decide)) ?_
  refine ct_al.cons (so_iconst d_R_readStructures_91 (by decide)) ?_
  refine ct_al.cons (so_iast d_R_readStructures_95) ?_
  refine ct_al.cons (so_aload_n d_R_readStructures_96 rfl) ?_
  refine ct_al.cons (so_getR (Cn := "CodeTables$Reader") (T := ct_T2) kc_2 (by decide) rfl rfl wd_55 d_R_readStructures_97) ?_
  refine ct_al.cons (so_getR (Cn := "CodeTables$Tables") (T := ct_T1) kc_1 (by decide) rfl rfl wd_103 d_R_readStructures_100) ?_
  refine ct_al.cons (so_iload_n d_R_readStructures_103 rfl) ?_
  refine ct_al.cons (so_iconst d_R_readStructures_104 (by decide)) ?_
  refine ct_al.cons (so_iadd d_R_readStructures_105) ?_
  refine ct_al.cons (so_iconst d_R_readStructures_106 (by decide)) ?_
  refine ct_al.cons (so_iast d_R_readStructures_107) ?_
  refine ct_al.cons (so_aload_n d_R_readStructures_108 rfl) ?_
  refine ct_al.cons (so_getR (Cn := "CodeTables$Reader") (T := ct_T2) kc_2 (by decide) rfl rfl wd_55 d_R_readStructures_109) ?_
  refine ct_al.cons (so_getR (Cn := "CodeTables$Tables") (T := ct_T1) kc_1 (by decide) rfl rfl wd_103 d_R_readStructures_112) ?_
  refine ct_al.cons (so_iload_n d_R_readStructures_115 rfl) ?_
  refine ct_al.cons (so_iconst d_R_readStructures_116 (by decide)) ?_
  refine ct_al.cons (so_iadd d_R_readStructures_117) ?_
  refine ct_al.cons (so_iconst d_R_readStructures_118 (by decide)) ?_
  refine ct_al.cons (so_iast d_R_readStructures_119) ?_
  refine ct_al.cons (so_iinc d_R_readStructures_120 (by decide) (by decide)) ?_
  refine ct_al.cons (so_goto d_R_readStructures_123 (by decide)) ?_
  exact ct_al.nil
theorem e_R_readStructures_0 : ct_tab (T_R_readStructures) 0 = some (o_aload 0 1) := rfl
theorem e_R_readStructures_1 : ct_tab (T_R_readStructures) 1 = some (o_push (.int 1) 1) := rfl
theorem e_R_readStructures_2 : ct_tab (T_R_readStructures) 2 = some (o_push (.int 0) 1) := rfl
theorem e_R_readStructures_3 : ct_tab (T_R_readStructures) 3 = some (o_push (.int 32) 2) := rfl
theorem e_R_readStructures_8 : ct_tab (T_R_readStructures) 8 = some (o_istore 1 1) := rfl
theorem e_R_readStructures_9 : ct_tab (T_R_readStructures) 9 = some (o_aload 0 1) := rfl
theorem e_R_readStructures_10 : ct_tab (T_R_readStructures) 10 = some (o_getR 2 9 0) := rfl
theorem e_R_readStructures_13 : ct_tab (T_R_readStructures) 13 = some (o_getR 1 10 0) := rfl
theorem e_R_readStructures_16 : ct_tab (T_R_readStructures) 16 = some (o_push (.int 1) 1) := rfl
theorem e_R_readStructures_17 : ct_tab (T_R_readStructures) 17 = some (o_iload 1 1) := rfl
theorem e_R_readStructures_18 : ct_tab (T_R_readStructures) 18 = some (o_iast) := rfl
theorem e_R_readStructures_19 : ct_tab (T_R_readStructures) 19 = some (o_push (.int 0) 1) := rfl
theorem e_R_readStructures_20 : ct_tab (T_R_readStructures) 20 = some (o_istore 2 1) := rfl
theorem e_R_readStructures_21 : ct_tab (T_R_readStructures) 21 = some (o_iload 2 1) := rfl
theorem e_R_readStructures_22 : ct_tab (T_R_readStructures) 22 = some (o_iload 1 1) := rfl
theorem e_R_readStructures_23 : ct_tab (T_R_readStructures) 23 = some (o_ic (fun x y => y ≤ x) (fun x y => ¬ y ≤ x) 126) := rfl
theorem e_R_readStructures_26 : ct_tab (T_R_readStructures) 26 = some (o_aload 0 1) := rfl
theorem e_R_readStructures_27 : ct_tab (T_R_readStructures) 27 = some (o_getI 2 9 7) := rfl
theorem e_R_readStructures_30 : ct_tab (T_R_readStructures) 30 = some (o_if (fun x => ¬ x = 0) (fun x => x = 0) 126) := rfl
theorem e_R_readStructures_33 : ct_tab (T_R_readStructures) 33 = some (o_iload 2 1) := rfl
theorem e_R_readStructures_34 : ct_tab (T_R_readStructures) 34 = some (o_push (.int 4) 1) := rfl
theorem e_R_readStructures_35 : ct_tab (T_R_readStructures) 35 = some (o_ii fun x y => x * y) := rfl
theorem e_R_readStructures_36 : ct_tab (T_R_readStructures) 36 = some (o_istore 3 1) := rfl
theorem e_R_readStructures_37 : ct_tab (T_R_readStructures) 37 = some (o_aload 0 1) := rfl
theorem e_R_readStructures_38 : ct_tab (T_R_readStructures) 38 = some (o_getR 2 9 1) := rfl
theorem e_R_readStructures_41 : ct_tab (T_R_readStructures) 41 = some (o_iload 2 1) := rfl
theorem e_R_readStructures_42 : ct_tab (T_R_readStructures) 42 = some (o_aload 0 1) := rfl
theorem e_R_readStructures_43 : ct_tab (T_R_readStructures) 43 = some (o_getI 2 9 5) := rfl
theorem e_R_readStructures_46 : ct_tab (T_R_readStructures) 46 = some (o_iast) := rfl
theorem e_R_readStructures_47 : ct_tab (T_R_readStructures) 47 = some (o_aload 0 1) := rfl
theorem e_R_readStructures_48 : ct_tab (T_R_readStructures) 48 = some (o_getR 2 9 0) := rfl
theorem e_R_readStructures_51 : ct_tab (T_R_readStructures) 51 = some (o_getR 1 10 1) := rfl
theorem e_R_readStructures_54 : ct_tab (T_R_readStructures) 54 = some (o_iload 3 1) := rfl
theorem e_R_readStructures_55 : ct_tab (T_R_readStructures) 55 = some (o_push (.int 0) 1) := rfl
theorem e_R_readStructures_56 : ct_tab (T_R_readStructures) 56 = some (o_ii fun x y => x + y) := rfl
theorem e_R_readStructures_57 : ct_tab (T_R_readStructures) 57 = some (o_aload 0 1) := rfl
theorem e_R_readStructures_58 : ct_tab (T_R_readStructures) 58 = some (o_push (.int 1) 1) := rfl
theorem e_R_readStructures_59 : ct_tab (T_R_readStructures) 59 = some (o_push (.int 0) 1) := rfl
theorem e_R_readStructures_60 : ct_tab (T_R_readStructures) 60 = some (o_push (.int 15) 2) := rfl
theorem e_R_readStructures_65 : ct_tab (T_R_readStructures) 65 = some (o_iast) := rfl
theorem e_R_readStructures_66 : ct_tab (T_R_readStructures) 66 = some (o_aload 0 1) := rfl
theorem e_R_readStructures_67 : ct_tab (T_R_readStructures) 67 = some (o_getR 2 9 0) := rfl
theorem e_R_readStructures_70 : ct_tab (T_R_readStructures) 70 = some (o_getR 1 10 1) := rfl
theorem e_R_readStructures_73 : ct_tab (T_R_readStructures) 73 = some (o_iload 3 1) := rfl
theorem e_R_readStructures_74 : ct_tab (T_R_readStructures) 74 = some (o_push (.int 1) 1) := rfl
theorem e_R_readStructures_75 : ct_tab (T_R_readStructures) 75 = some (o_ii fun x y => x + y) := rfl
theorem e_R_readStructures_76 : ct_tab (T_R_readStructures) 76 = some (o_aload 0 1) := rfl
theorem e_R_readStructures_77 : ct_tab (T_R_readStructures) 77 = some (o_aload 0 1) := rfl
theorem e_R_readStructures_78 : ct_tab (T_R_readStructures) 78 = some (o_getR 2 9 0) := rfl
theorem e_R_readStructures_81 : ct_tab (T_R_readStructures) 81 = some (o_getR 1 10 2) := rfl
theorem e_R_readStructures_84 : ct_tab (T_R_readStructures) 84 = some (o_iload 2 1) := rfl
theorem e_R_readStructures_85 : ct_tab (T_R_readStructures) 85 = some (o_push (.int 16) 2) := rfl
theorem e_R_readStructures_87 : ct_tab (T_R_readStructures) 87 = some (o_ii fun x y => x * y) := rfl
theorem e_R_readStructures_88 : ct_tab (T_R_readStructures) 88 = some (o_push (.int 1) 1) := rfl
theorem e_R_readStructures_89 : ct_tab (T_R_readStructures) 89 = some (o_push (.int 16) 2) := rfl
theorem e_R_readStructures_91 : ct_tab (T_R_readStructures) 91 = some (o_push (.int 0) 1) := rfl
theorem e_R_readStructures_95 : ct_tab (T_R_readStructures) 95 = some (o_iast) := rfl
theorem e_R_readStructures_96 : ct_tab (T_R_readStructures) 96 = some (o_aload 0 1) := rfl
theorem e_R_readStructures_97 : ct_tab (T_R_readStructures) 97 = some (o_getR 2 9 0) := rfl
theorem e_R_readStructures_100 : ct_tab (T_R_readStructures) 100 = some (o_getR 1 10 1) := rfl
theorem e_R_readStructures_103 : ct_tab (T_R_readStructures) 103 = some (o_iload 3 1) := rfl
theorem e_R_readStructures_104 : ct_tab (T_R_readStructures) 104 = some (o_push (.int 2) 1) := rfl
theorem e_R_readStructures_105 : ct_tab (T_R_readStructures) 105 = some (o_ii fun x y => x + y) := rfl
theorem e_R_readStructures_106 : ct_tab (T_R_readStructures) 106 = some (o_push (.int (-1)) 1) := rfl
theorem e_R_readStructures_107 : ct_tab (T_R_readStructures) 107 = some (o_iast) := rfl
theorem e_R_readStructures_108 : ct_tab (T_R_readStructures) 108 = some (o_aload 0 1) := rfl
theorem e_R_readStructures_109 : ct_tab (T_R_readStructures) 109 = some (o_getR 2 9 0) := rfl
theorem e_R_readStructures_112 : ct_tab (T_R_readStructures) 112 = some (o_getR 1 10 1) := rfl
theorem e_R_readStructures_115 : ct_tab (T_R_readStructures) 115 = some (o_iload 3 1) := rfl
theorem e_R_readStructures_116 : ct_tab (T_R_readStructures) 116 = some (o_push (.int 3) 1) := rfl
theorem e_R_readStructures_117 : ct_tab (T_R_readStructures) 117 = some (o_ii fun x y => x + y) := rfl
theorem e_R_readStructures_118 : ct_tab (T_R_readStructures) 118 = some (o_push (.int (-1)) 1) := rfl
theorem e_R_readStructures_119 : ct_tab (T_R_readStructures) 119 = some (o_iast) := rfl
theorem e_R_readStructures_120 : ct_tab (T_R_readStructures) 120 = some (o_iinc 2 1) := rfl
theorem e_R_readStructures_123 : ct_tab (T_R_readStructures) 123 = some (o_goto 21) := rfl
theorem cl_R_readStructures_5 {l : ct_Lx} {d d1 : Nat} {Post Post1 : Option Value → ct_Sg → Prop} {lv : ct_Lv} {st : List Value} {g : ct_Sg} {bc bs c1 s1 : Nat} {a1 a2 a3 : Value} {h : Nat} (hsh : g.2.1 h = (10 + 2, 9)) (hM : ct_Me l M_R_takeWithin d1 c1 s1 [.ref h, a1, a2, a3] g Post1) (hdd : d1 + 1 ≤ d) (hk : (st.map fun v => v.category).sum ≤ 8) (hcc : c1 ≤ bc) (hss : s1 ≤ bs) (kk : ∀ (v : Option Value) (g' : ct_Sg), Post1 v g' → ct_Wp l M_R_readStructures d Post (8, lv, v.toList ++ st, g', bc - c1, bs - s1)) : ct_Wp l M_R_readStructures d Post (5, lv, a3 :: a2 :: a1 :: .ref h :: st, g, bc, bs) := ct_Wp.callV (ci := 2) (N := 9) (T := ct_T2) (As := [a1, a2, a3]) lk_R_takeWithin (Or.inl wd_100) wd_101 wd_102 rfl d_R_readStructures_5 hsh hM rfl hdd hk hcc hss kk
theorem cl_R_readStructures_62 {l : ct_Lx} {d d1 : Nat} {Post Post1 : Option Value → ct_Sg → Prop} {lv : ct_Lv} {st : List Value} {g : ct_Sg} {bc bs c1 s1 : Nat} {a1 a2 a3 : Value} {h : Nat} (hsh : g.2.1 h = (10 + 2, 9)) (hM : ct_Me l M_R_takeWithin d1 c1 s1 [.ref h, a1, a2, a3] g Post1) (hdd : d1 + 1 ≤ d) (hk : (st.map fun v => v.category).sum ≤ 8) (hcc : c1 ≤ bc) (hss : s1 ≤ bs) (kk : ∀ (v : Option Value) (g' : ct_Sg), Post1 v g' → ct_Wp l M_R_readStructures d Post (65, lv, v.toList ++ st, g', bc - c1, bs - s1)) : ct_Wp l M_R_readStructures d Post (62, lv, a3 :: a2 :: a1 :: .ref h :: st, g, bc, bs) := ct_Wp.callV (ci := 2) (N := 9) (T := ct_T2) (As := [a1, a2, a3]) lk_R_takeWithin (Or.inl wd_100) wd_101 wd_102 rfl d_R_readStructures_62 hsh hM rfl hdd hk hcc hss kk
theorem cl_R_readStructures_92 {l : ct_Lx} {d d1 : Nat} {Post Post1 : Option Value → ct_Sg → Prop} {lv : ct_Lv} {st : List Value} {g : ct_Sg} {bc bs c1 s1 : Nat} {a1 a2 a3 a4 a5 : Value} {h : Nat} (hsh : g.2.1 h = (10 + 2, 9)) (hM : ct_Me l M_R_takeTypes d1 c1 s1 [.ref h, a1, a2, a3, a4, a5] g Post1) (hdd : d1 + 1 ≤ d) (hk : (st.map fun v => v.category).sum ≤ 8) (hcc : c1 ≤ bc) (hss : s1 ≤ bs) (kk : ∀ (v : Option Value) (g' : ct_Sg), Post1 v g' → ct_Wp l M_R_readStructures d Post (95, lv, v.toList ++ st, g', bc - c1, bs - s1)) : ct_Wp l M_R_readStructures d Post (92, lv, a5 :: a4 :: a3 :: a2 :: a1 :: .ref h :: st, g, bc, bs) := ct_Wp.callV (ci := 2) (N := 9) (T := ct_T2) (As := [a1, a2, a3, a4, a5]) lk_R_takeTypes (Or.inl wd_107) wd_108 wd_109 rfl d_R_readStructures_92 hsh hM rfl hdd hk hcc hss kk
theorem d_R_readForeignStructures_0 : decode prog_2_method_6_code 0 = .ok (.aload_n 0, 1) := by decide +kernel
theorem d_R_readForeignStructures_1 : decode prog_2_method_6_code 1 = .ok (.iconst 1, 1) := by decide +kernel
theorem d_R_readForeignStructures_2 : decode prog_2_method_6_code 2 = .ok (.iconst 0, 1) := by decide +kernel
theorem d_R_readForeignStructures_3 : decode prog_2_method_6_code 3 = .ok (.bipush 32, 2) := by decide +kernel
theorem d_R_readForeignStructures_5 : decode prog_2_method_6_code 5 = .ok (.invokevirtual 77, 3) := by decide +kernel
theorem d_R_readForeignStructures_8 : decode prog_2_method_6_code 8 = .ok (.istore_n 1, 1) := by decide +kernel
theorem d_R_readForeignStructures_9 : decode prog_2_method_6_code 9 = .ok (.aload_n 0, 1) := by decide +kernel
theorem d_R_readForeignStructures_10 : decode prog_2_method_6_code 10 = .ok (.getfield 41, 3) := by decide +kernel
theorem d_R_readForeignStructures_13 : decode prog_2_method_6_code 13 = .ok (.getfield 48, 3) := by decide +kernel
theorem d_R_readForeignStructures_16 : decode prog_2_method_6_code 16 = .ok (.iconst 2, 1) := by decide +kernel
theorem d_R_readForeignStructures_17 : decode prog_2_method_6_code 17 = .ok (.iload_n 1, 1) := by decide +kernel
theorem d_R_readForeignStructures_18 : decode prog_2_method_6_code 18 = .ok (.iastore, 1) := by decide +kernel
theorem d_R_readForeignStructures_19 : decode prog_2_method_6_code 19 = .ok (.iconst 0, 1) := by decide +kernel
theorem d_R_readForeignStructures_20 : decode prog_2_method_6_code 20 = .ok (.istore_n 2, 1) := by decide +kernel
theorem d_R_readForeignStructures_21 : decode prog_2_method_6_code 21 = .ok (.iload_n 2, 1) := by decide +kernel
theorem d_R_readForeignStructures_22 : decode prog_2_method_6_code 22 = .ok (.iload_n 1, 1) := by decide +kernel
theorem d_R_readForeignStructures_23 : decode prog_2_method_6_code 23 = .ok (.if_icmp .ge 95, 3) := by decide +kernel
theorem d_R_readForeignStructures_26 : decode prog_2_method_6_code 26 = .ok (.aload_n 0, 1) := by decide +kernel
theorem d_R_readForeignStructures_27 : decode prog_2_method_6_code 27 = .ok (.getfield 35, 3) := by decide +kernel
theorem d_R_readForeignStructures_30 : decode prog_2_method_6_code 30 = .ok (.ifCond .ne 88, 3) := by decide +kernel
theorem d_R_readForeignStructures_33 : decode prog_2_method_6_code 33 = .ok (.aload_n 0, 1) := by decide +kernel
theorem d_R_readForeignStructures_34 : decode prog_2_method_6_code 34 = .ok (.getfield 41, 3) := by decide +kernel
theorem d_R_readForeignStructures_37 : decode prog_2_method_6_code 37 = .ok (.getfield 48, 3) := by decide +kernel
theorem d_R_readForeignStructures_40 : decode prog_2_method_6_code 40 = .ok (.iconst 1, 1) := by decide +kernel
theorem d_R_readForeignStructures_41 : decode prog_2_method_6_code 41 = .ok (.iaload, 1) := by decide +kernel
theorem d_R_readForeignStructures_42 : decode prog_2_method_6_code 42 = .ok (.iload_n 2, 1) := by decide +kernel
theorem d_R_readForeignStructures_43 : decode prog_2_method_6_code 43 = .ok (.iadd, 1) := by decide +kernel
theorem d_R_readForeignStructures_44 : decode prog_2_method_6_code 44 = .ok (.iconst 4, 1) := by decide +kernel
theorem d_R_readForeignStructures_45 : decode prog_2_method_6_code 45 = .ok (.imul, 1) := by decide +kernel
theorem d_R_readForeignStructures_46 : decode prog_2_method_6_code 46 = .ok (.istore_n 3, 1) := by decide +kernel
theorem d_R_readForeignStructures_47 : decode prog_2_method_6_code 47 = .ok (.aload_n 0, 1) := by decide +kernel
theorem d_R_readForeignStructures_48 : decode prog_2_method_6_code 48 = .ok (.getfield 41, 3) := by decide +kernel
theorem d_R_readForeignStructures_51 : decode prog_2_method_6_code 51 = .ok (.getfield 81, 3) := by decide +kernel
theorem d_R_readForeignStructures_54 : decode prog_2_method_6_code 54 = .ok (.iload_n 3, 1) := by decide +kernel
theorem d_R_readForeignStructures_55 : decode prog_2_method_6_code 55 = .ok (.iconst 2, 1) := by decide +kernel
theorem d_R_readForeignStructures_56 : decode prog_2_method_6_code 56 = .ok (.iadd, 1) := by decide +kernel
theorem d_R_readForeignStructures_57 : decode prog_2_method_6_code 57 = .ok (.aload_n 0, 1) := by decide +kernel
theorem d_R_readForeignStructures_58 : decode prog_2_method_6_code 58 = .ok (.iconst 2, 1) := by decide +kernel
theorem d_R_readForeignStructures_59 : decode prog_2_method_6_code 59 = .ok (.invokevirtual 51, 3) := by decide +kernel
theorem d_R_readForeignStructures_62 : decode prog_2_method_6_code 62 = .ok (.l2i, 1) := by decide +kernel
theorem d_R_readForeignStructures_63 : decode prog_2_method_6_code 63 = .ok (.iastore, 1) := by decide +kernel
theorem d_R_readForeignStructures_64 : decode prog_2_method_6_code 64 = .ok (.aload_n 0, 1) := by decide +kernel
theorem d_R_readForeignStructures_65 : decode prog_2_method_6_code 65 = .ok (.getfield 41, 3) := by decide +kernel
theorem d_R_readForeignStructures_68 : decode prog_2_method_6_code 68 = .ok (.getfield 81, 3) := by decide +kernel
theorem d_R_readForeignStructures_71 : decode prog_2_method_6_code 71 = .ok (.iload_n 3, 1) := by decide +kernel
theorem d_R_readForeignStructures_72 : decode prog_2_method_6_code 72 = .ok (.iconst 3, 1) := by decide +kernel
theorem d_R_readForeignStructures_73 : decode prog_2_method_6_code 73 = .ok (.iadd, 1) := by decide +kernel
theorem d_R_readForeignStructures_74 : decode prog_2_method_6_code 74 = .ok (.aload_n 0, 1) := by decide +kernel
theorem d_R_readForeignStructures_75 : decode prog_2_method_6_code 75 = .ok (.iconst 1, 1) := by decide +kernel
theorem d_R_readForeignStructures_76 : decode prog_2_method_6_code 76 = .ok (.invokevirtual 51, 3) := by decide +kernel
theorem d_R_readForeignStructures_79 : decode prog_2_method_6_code 79 = .ok (.l2i, 1) := by decide +kernel
theorem d_R_readForeignStructures_80 : decode prog_2_method_6_code 80 = .ok (.iastore, 1) := by decide +kernel
theorem d_R_readForeignStructures_81 : decode prog_2_method_6_code 81 = .ok (.aload_n 0, 1) := by decide +kernel
theorem d_R_readForeignStructures_82 : decode prog_2_method_6_code 82 = .ok (.getfield 41, 3) := by decide +kernel
theorem d_R_readForeignStructures_85 : decode prog_2_method_6_code 85 = .ok (.getfield 81, 3) := by decide +kernel
theorem d_R_readForeignStructures_88 : decode prog_2_method_6_code 88 = .ok (.iload_n 3, 1) := by decide +kernel
theorem d_R_readForeignStructures_89 : decode prog_2_method_6_code 89 = .ok (.iconst 0, 1) := by decide +kernel
theorem d_R_readForeignStructures_90 : decode prog_2_method_6_code 90 = .ok (.iadd, 1) := by decide +kernel
theorem d_R_readForeignStructures_91 : decode prog_2_method_6_code 91 = .ok (.aload_n 0, 1) := by decide +kernel
theorem d_R_readForeignStructures_92 : decode prog_2_method_6_code 92 = .ok (.iconst 1, 1) := by decide +kernel
theorem d_R_readForeignStructures_93 : decode prog_2_method_6_code 93 = .ok (.iconst 0, 1) := by decide +kernel
theorem d_R_readForeignStructures_94 : decode prog_2_method_6_code 94 = .ok (.bipush 15, 2) := by decide +kernel
theorem d_R_readForeignStructures_96 : decode prog_2_method_6_code 96 = .ok (.invokevirtual 77, 3) := by decide +kernel
theorem d_R_readForeignStructures_99 : decode prog_2_method_6_code 99 = .ok (.iastore, 1) := by decide +kernel
theorem d_R_readForeignStructures_100 : decode prog_2_method_6_code 100 = .ok (.aload_n 0, 1) := by decide +kernel
theorem d_R_readForeignStructures_101 : decode prog_2_method_6_code 101 = .ok (.getfield 41, 3) := by decide +kernel
theorem d_R_readForeignStructures_104 : decode prog_2_method_6_code 104 = .ok (.getfield 81, 3) := by decide +kernel
theorem d_R_readForeignStructures_107 : decode prog_2_method_6_code 107 = .ok (.iload_n 3, 1) := by decide +kernel
theorem d_R_readForeignStructures_108 : decode prog_2_method_6_code 108 = .ok (.iconst 1, 1) := by decide +kernel
theorem d_R_readForeignStructures_109 : decode prog_2_method_6_code 109 = .ok (.iadd, 1) := by decide +kernel
theorem d_R_readForeignStructures_110 : decode prog_2_method_6_code 110 = .ok (.iconst 0, 1) := by decide +kernel
theorem d_R_readForeignStructures_111 : decode prog_2_method_6_code 111 = .ok (.iastore, 1) := by decide +kernel
theorem d_R_readForeignStructures_112 : decode prog_2_method_6_code 112 = .ok (.iinc 2 1, 3) := by decide +kernel
theorem d_R_readForeignStructures_115 : decode prog_2_method_6_code 115 = .ok (.goto (-94), 3) := by decide +kernel
theorem d_R_readForeignStructures_118 : decode prog_2_method_6_code 118 = .ok (.return_, 1) := by decide +kernel
abbrev T_R_readForeignStructures : List (Nat × ct_PT) := [(0, o_aload 0 1), (1, o_push (.int 1) 1), (2, o_push (.int 0) 1), (3, o_push (.int 32) 2), (8, o_istore 1 1), (9, o_aload 0 1), (10, o_getR 2 9 0), (13, o_getR 1 10 0), (16, o_push (.int 2) 1), (17, o_iload 1 1), (18, o_iast), (19, o_push (.int 0) 1), (20, o_istore 2 1), (21, o_iload 2 1), (22, o_iload 1 1), (23, o_ic (fun x y => y ≤ x) (fun x y => ¬ y ≤ x) 118), (26, o_aload 0 1), (27, o_getI 2 9 7), (30, o_if (fun x => ¬ x = 0) (fun x => x = 0) 118), (33, o_aload 0 1), (34, o_getR 2 9 0), (37, o_getR 1 10 0), (40, o_push (.int 1) 1), (41, o_iald), (42, o_iload 2 1), (43, o_ii fun x y => x + y), (44, o_push (.int 4) 1), (45, o_ii fun x y => x * y), (46, o_istore 3 1), (47, o_aload 0 1), (48, o_getR 2 9 0), (51, o_getR 1 10 1), (54, o_iload 3 1), (55, o_push (.int 2) 1), (56, o_ii fun x y => x + y), (57, o_aload 0 1), (58, o_push (.int 2) 1), (62, o_l2i), (63, o_iast), (64, o_aload 0 1), (65, o_getR 2 9 0), (68, o_getR 1 10 1), (71, o_iload 3 1), (72, o_push (.int 3) 1), (73, o_ii fun x y => x + y), (74, o_aload 0 1), (75, o_push (.int 1) 1), (79, o_l2i), (80, o_iast), (81, o_aload 0 1), (82, o_getR 2 9 0), (85, o_getR 1 10 1), (88, o_iload 3 1), (89, o_push (.int 0) 1), (90, o_ii fun x y => x + y), (91, o_aload 0 1), (92, o_push (.int 1) 1), (93, o_push (.int 0) 1), (94, o_push (.int 15) 2), (99, o_iast), (100, o_aload 0 1), (101, o_getR 2 9 0), (104, o_getR 1 10 1), (107, o_iload 3 1), (108, o_push (.int 1) 1), (109, o_ii fun x y => x + y), (110, o_push (.int 0) 1), (111, o_iast), (112, o_iinc 2 1), (115, o_goto 21)]
set_option maxRecDepth 100000 in
theorem A_R_readForeignStructures (l : ct_Lx) : ct_al l M_R_readForeignStructures (T_R_readForeignStructures) := by
  refine ct_al.cons (so_aload_n d_R_readForeignStructures_0 rfl) ?_
  refine ct_al.cons (so_iconst d_R_readForeignStructures_1 (by decide)) ?_
  refine ct_al.cons (so_iconst d_R_readForeignStructures_2 (by decide)) ?_
  refine ct_al.cons (so_bipush d_R_readForeignStructures_3 (by decide)) ?_
  refine ct_al.cons (so_istore_n d_R_readForeignStructures_8 rfl (by decide)) ?_
  refine ct_al.cons (so_aload_n d_R_readForeignStructures_9 rfl) ?_
  refine ct_al.cons (so_getR (Cn := "CodeTables$Reader") (T := ct_T2) kc_2 (by decide) rfl rfl wd_55 d_R_readForeignStructures_10) ?_
  refine ct_al.cons (so_getR (Cn := "CodeTables$Tables") (T := ct_T1) kc_1 (by decide) rfl rfl wd_62 d_R_readForeignStructures_13) ?_
  refine ct_al.cons (so_iconst d_R_readForeignStructures_16 (by decide)) ?_
  refine ct_al.cons (so_iload_n d_R_readForeignStructures_17 rfl) ?_
  refine ct_al.cons (so_iast d_R_readForeignStructures_18) ?_
  refine ct_al.cons (so_iconst d_R_readForeignStructures_19 (by decide)) ?_
  refine ct_al.cons (so_istore_n d_R_readForeignStructures_20 rfl (by decide)) ?_
  refine ct_al.cons (so_iload_n d_R_readForeignStructures_21 rfl) ?_
  refine ct_al.cons (so_iload_n d_R_readForeignStructures_22 rfl) ?_
  refine ct_al.cons (so_ic_ge d_R_readForeignStructures_23 (by decide)) ?_
  refine ct_al.cons (so_aload_n d_R_readForeignStructures_26 rfl) ?_
  refine ct_al.cons (so_getI (Cn := "CodeTables$Reader") (T := ct_T2) kc_2 (by decide) rfl rfl wd_53 d_R_readForeignStructures_27) ?_
  refine ct_al.cons (so_if_ne d_R_readForeignStructures_30 (by decide)) ?_
  refine ct_al.cons (so_aload_n d_R_readForeignStructures_33 rfl) ?_
  refine ct_al.cons (so_getR (Cn := "CodeTables$Reader") (T := ct_T2) kc_2 (by decide) rfl rfl wd_55 d_R_readForeignStructures_34) ?_
  refine ct_al.cons (so_getR (Cn := "CodeTables$Tables") (T := ct_T1) kc_1 (by decide) rfl rfl wd_62 d_R_readForeignStructures_37) ?_
  refine ct_al.cons (so_iconst d_R_readForeignStructures_40 (by decide)) ?_
  refine ct_al.cons (so_iald d_R_readForeignStructures_41) ?_
  refine ct_al.cons (so_iload_n d_R_readForeignStructures_42 rfl) ?_
  refine ct_al.cons (so_iadd d_R_readForeignStructures_43) ?_
  refine ct_al.cons (so_iconst d_R_readForeignStructures_44 (by decide)) ?_
  refine ct_al.cons (so_imul d_R_readForeignStructures_45) ?_
  refine ct_al.cons (so_istore_n d_R_readForeignStructures_46 rfl (by decide)) ?_
  refine ct_al.cons (so_aload_n d_R_readForeignStructures_47 rfl) ?_
  refine ct_al.cons (so_getR (Cn := "CodeTables$Reader") (T := ct_T2) kc_2 (by decide) rfl rfl wd_55 d_R_readForeignStructures_48) ?_
  refine ct_al.cons (so_getR (Cn := "CodeTables$Tables") (T := ct_T1) kc_1 (by decide) rfl rfl wd_103 d_R_readForeignStructures_51) ?_
  refine ct_al.cons (so_iload_n d_R_readForeignStructures_54 rfl) ?_
  refine ct_al.cons (so_iconst d_R_readForeignStructures_55 (by decide)) ?_
  refine ct_al.cons (so_iadd d_R_readForeignStructures_56) ?_
  refine ct_al.cons (so_aload_n d_R_readForeignStructures_57 rfl) ?_
  refine ct_al.cons (so_iconst d_R_readForeignStructures_58 (by decide)) ?_
  refine ct_al.cons (so_l2i d_R_readForeignStructures_62) ?_
  refine ct_al.cons (so_iast d_R_readForeignStructures_63) ?_
  refine ct_al.cons (so_aload_n d_R_readForeignStructures_64 rfl) ?_
  refine ct_al.cons (so_getR (Cn := "CodeTables$Reader") (T := ct_T2) kc_2 (by decide) rfl rfl wd_55 d_R_readForeignStructures_65) ?_
  refine ct_al.cons (so_getR (Cn := "CodeTables$Tables") (T := ct_T1) kc_1 (by decide) rfl rfl wd_103 d_R_readForeignStructures_68) ?_
  refine ct_al.cons (so_iload_n d_R_readForeignStructures_71 rfl) ?_
  refine ct_al.cons (so_iconst d_R_readForeignStructures_72 (by decide)) ?_
  refine ct_al.cons (so_iadd d_R_readForeignStructures_73) ?_
  refine ct_al.cons (so_aload_n d_R_readForeignStructures_74 rfl) ?_
  refine ct_al.cons (so_iconst d_R_readForeignStructures_75 (by decide)) ?_
  refine ct_al.cons (so_l2i d_R_readForeignStructures_79) ?_
  refine ct_al.cons (so_iast d_R_readForeignStructures_80) ?_
  refine ct_al.cons (so_aload_n d_R_readForeignStructures_81 rfl) ?_
  refine ct_al.cons (so_getR (Cn := "CodeTables$Reader") (T := ct_T2) kc_2 (by decide) rfl rfl wd_55 d_R_readForeignStructures_82) ?_
  refine ct_al.cons (so_getR (Cn := "CodeTables$Tables") (T := ct_T1) kc_1 (by decide) rfl rfl wd_103 d_R_readForeignStructures_85) ?_
  refine ct_al.cons (so_iload_n d_R_readForeignStructures_88 rfl) ?_
  refine ct_al.cons (so_iconst d_R_readForeignStructures_89 (by decide)) ?_
  refine ct_al.cons (so_iadd d_R_readForeignStructures_90) ?_
  refine ct_al.cons (so_aload_n d_R_readForeignStructures_91 rfl) ?_
  refine ct_al.cons (so_iconst d_R_readForeignStructures_92 (by decide)) ?_
  refine ct_al.cons (so_iconst d_R_readForeignStructures_93 (by decide)) ?_
  refine ct_al.cons (so_bipush d_R_readForeignStructures_94 (by decide)) ?_
  refine ct_al.cons (so_iast d_R_readForeignStructures_99) ?_
  refine ct_al.cons (so_aload_n d_R_readForeignStructures_100 rfl) ?_
  refine ct_al.cons (so_getR (Cn := "CodeTables$Reader") (T := ct_T2) kc_2 (by decide) rfl rfl wd_55 d_R_readForeignStructures_101) ?_
  refine ct_al.cons (so_getR (Cn := "CodeTables$Tables") (T := ct_T1) kc_1 (by decide) rfl rfl wd_103 d_R_readForeignStructures_104) ?_
  refine ct_al.cons (so_iload_n d_R_readForeignStructures_107 rfl) ?_
  refine ct_al.cons (so_iconst d_R_readForeignStructures_108 (by decide)) ?_
  refine ct_al.cons (so_iadd d_R_readForeignStructures_109) ?_
  refine ct_al.cons (so_iconst d_R_readForeignStructures_110 (by decide)) ?_
  refine ct_al.cons (so_iast d_R_readForeignStructures_111) ?_
  refine ct_al.cons (so_iinc d_R_readForeignStructures_112 (by decide) (by decide)) ?_
  refine ct_al.cons (so_goto d_R_readForeignStructures_115 (by decide)) ?_
  exact ct_al.nil
theorem e_R_readForeignStructures_0 : ct_tab (T_R_readForeignStructures) 0 = some (o_aload 0 1) := rfl
theorem e_R_readForeignStructures_1 : ct_tab (T_R_readForeignStructures) 1 = some (o_push (.int 1) 1) := rfl
theorem e_R_readForeignStructures_2 : ct_tab (T_R_readForeignStructures) 2 = some (o_push (.int 0) 1) := rfl
theorem e_R_readForeignStructures_3 : ct_tab (T_R_readForeignStructures) 3 = some (o_push (.int 32) 2) := rfl
theorem e_R_readForeignStructures_8 : ct_tab (T_R_readForeignStructures) 8 = some (o_istore 1 1) := rfl
theorem e_R_readForeignStructures_9 : ct_tab (T_R_readForeignStructures) 9 = some (o_aload 0 1) := rfl
theorem e_R_readForeignStructures_10 : ct_tab (T_R_readForeignStructures) 10 = some (o_getR 2 9 0) := rfl
theorem e_R_readForeignStructures_13 : ct_tab (T_R_readForeignStructures) 13 = some (o_getR 1 10 0) := rfl
theorem e_R_readForeignStructures_16 : ct_tab (T_R_readForeignStructures) 16 = some (o_push (.int 2) 1) := rfl
theorem e_R_readForeignStructures_17 : ct_tab (T_R_readForeignStructures) 17 = some (o_iload 1 1) := rfl
theorem e_R_readForeignStructures_18 : ct_tab (T_R_readForeignStructures) 18 = some (o_iast) := rfl
theorem e_R_readForeignStructures_19 : ct_tab (T_R_readForeignStructures) 19 = some (o_push (.int 0) 1) := rfl
theorem e_R_readForeignStructures_20 : ct_tab (T_R_readForeignStructures) 20 = some (o_istore 2 1) := rfl
theorem e_R_readForeignStructures_21 : ct_tab (T_R_readForeignStructures) 21 = some (o_iload 2 1) := rfl
theorem e_R_readForeignStructures_22 : ct_tab (T_R_readForeignStructures) 22 = some (o_iload 1 1) := rfl
theorem e_R_readForeignStructures_23 : ct_tab (T_R_readForeignStructures) 23 = some (o_ic (fun x y => y ≤ x) (fun x y => ¬ y ≤ x) 118) := rfl
theorem e_R_readForeignStructures_26 : ct_tab (T_R_readForeignStructures) 26 = some (o_aload 0 1) := rfl
theorem e_R_readForeignStructures_27 : ct_tab (T_R_readForeignStructures) 27 = some (o_getI 2 9 7) := rfl
theorem e_R_readForeignStructures_30 : ct_tab (T_R_readForeignStructures) 30 = some (o_if (fun x => ¬ x = 0) (fun x => x = 0) 118) := rfl
theorem e_R_readForeignStructures_33 : ct_tab (T_R_readForeignStructures) 33 = some (o_aload 0 1) := rfl
theorem e_R_readForeignStructures_34 : ct_tab (T_R_readForeignStructures) 34 = some (o_getR 2 9 0) := rfl
theorem e_R_readForeignStructures_37 : ct_tab (T_R_readForeignStructures) 37 = some (o_getR 1 10 0) := rfl
theorem e_R_readForeignStructures_40 : ct_tab (T_R_readForeignStructures) 40 = some (o_push (.int 1) 1) := rfl
theorem e_R_readForeignStructures_41 : ct_tab (T_R_readForeignStructures) 41 = some (o_iald) := rfl
theorem e_R_readForeignStructures_42 : ct_tab (T_R_readForeignStructures) 42 = some (o_iload 2 1) := rfl
theorem e_R_readForeignStructures_43 : ct_tab (T_R_readForeignStructures) 43 = some (o_ii fun x y => x + y) := rfl
theorem e_R_readForeignStructures_44 : ct_tab (T_R_readForeignStructures) 44 = some (o_push (.int 4) 1) := rfl
theorem e_R_readForeignStructures_45 : ct_tab (T_R_readForeignStructures) 45 = some (o_ii fun x y => x * y) := rfl
theorem e_R_readForeignStructures_46 : ct_tab (T_R_readForeignStructures) 46 = some (o_istore 3 1) := rfl
theorem e_R_readForeignStructures_47 : ct_tab (T_R_readForeignStructures) 47 = some (o_aload 0 1) := rfl
theorem e_R_readForeignStructures_48 : ct_tab (T_R_readForeignStructures) 48 = some (o_getR 2 9 0) := rfl
theorem e_R_readForeignStructures_51 : ct_tab (T_R_readForeignStructures) 51 = some (o_getR 1 10 1) := rfl
theorem e_R_readForeignStructures_54 : ct_tab (T_R_readForeignStructures) 54 = some (o_iload 3 1) := rfl
theorem e_R_readForeignStructures_55 : ct_tab (T_R_readForeignStructures) 55 = some (o_push (.int 2) 1) := rfl
theorem e_R_readForeignStructures_56 : ct_tab (T_R_readForeignStructures) 56 = some (o_ii fun x y => x + y) := rfl
theorem e_R_readForeignStructures_57 : ct_tab (T_R_readForeignStructures) 57 = some (o_aload 0 1) := rfl
theorem e_R_readForeignStructures_58 : ct_tab (T_R_readForeignStructures) 58 = some (o_push (.int 2) 1) := rfl
theorem e_R_readForeignStructures_62 : ct_tab (T_R_readForeignStructures) 62 = some (o_l2i) := rfl
theorem e_R_readForeignStructures_63 : ct_tab (T_R_readForeignStructures) 63 = some (o_iast) := rfl
theorem e_R_readForeignStructures_64 : ct_tab (T_R_readForeignStructures) 64 = some (o_aload 0 1) := rfl
theorem e_R_readForeignStructures_65 : ct_tab (T_R_readForeignStructures) 65 = some (o_getR 2 9 0) := rfl
theorem e_R_readForeignStructures_68 : ct_tab (T_R_readForeignStructures) 68 = some (o_getR 1 10 1) := rfl
theorem e_R_readForeignStructures_71 : ct_tab (T_R_readForeignStructures) 71 = some (o_iload 3 1) := rfl
theorem e_R_readForeignStructures_72 : ct_tab (T_R_readForeignStructures) 72 = some (o_push (.int 3) 1) := rfl
theorem e_R_readForeignStructures_73 : ct_tab (T_R_readForeignStructures) 73 = some (o_ii fun x y => x + y) := rfl
theorem e_R_readForeignStructures_74 : ct_tab (T_R_readForeignStructures) 74 = some (o_aload 0 1) := rfl
theorem e_R_readForeignStructures_75 : ct_tab (T_R_readForeignStructures) 75 = some (o_push (.int 1) 1) := rfl
theorem e_R_readForeignStructures_79 : ct_tab (T_R_readForeignStructures) 79 = some (o_l2i) := rfl
theorem e_R_readForeignStructures_80 : ct_tab (T_R_readForeignStructures) 80 = some (o_iast) := rfl
theorem e_R_readForeignStructures_81 : ct_tab (T_R_readForeignStructures) 81 = some (o_aload 0 1) := rfl
theorem e_R_readForeignStructures_82 : ct_tab (T_R_readForeignStructures) 82 = some (o_getR 2 9 0) := rfl
theorem e_R_readForeignStructures_85 : ct_tab (T_R_readForeignStructures) 85 = some (o_getR 1 10 1) := rfl
theorem e_R_readForeignStructures_88 : ct_tab (T_R_readForeignStructures) 88 = some (o_iload 3 1) := rfl
theorem e_R_readForeignStructures_89 : ct_tab (T_R_readForeignStructures) 89 = some (o_push (.int 0) 1) := rfl
theorem e_R_readForeignStructures_90 : ct_tab (T_R_readForeignStructures) 90 = some (o_ii fun x y => x + y) := rfl
theorem e_R_readForeignStructures_91 : ct_tab (T_R_readForeignStructures) 91 = some (o_aload 0 1) := rfl
theorem e_R_readForeignStructures_92 : ct_tab (T_R_readForeignStructures) 92 = some (o_push (.int 1) 1) := rfl
theorem e_R_readForeignStructures_93 : ct_tab (T_R_readForeignStructures) 93 = some (o_push (.int 0) 1) := rfl
theorem e_R_readForeignStructures_94 : ct_tab (T_R_readForeignStructures) 94 = some (o_push (.int 15) 2) := rfl
theorem e_R_readForeignStructures_99 : ct_tab (T_R_readForeignStructures) 99 = some (o_iast) := rfl
theorem e_R_readForeignStructures_100 : ct_tab (T_R_readForeignStructures) 100 = some (o_aload 0 1) := rfl
theorem e_R_readForeignStructures_101 : ct_tab (T_R_readForeignStructures) 101 = some (o_getR 2 9 0) := rfl
theorem e_R_readForeignStructures_104 : ct_tab (T_R_readForeignStructures) 104 = some (o_getR 1 10 1) := rfl
theorem e_R_readForeignStructures_107 : ct_tab (T_R_readForeignStructures) 107 = some (o_iload 3 1) := rfl
theorem e_R_readForeignStructures_108 : ct_tab (T_R_readForeignStructures) 108 = some (o_push (.int 1) 1) := rfl
theorem e_R_readForeignStructures_109 : ct_tab (T_R_readForeignStructures) 109 = some (o_ii fun x y => x + y) := rfl
theorem e_R_readForeignStructures_110 : ct_tab (T_R_readForeignStructures) 110 = some (o_push (.int 0) 1) := rfl
theorem e_R_readForeignStructures_111 : ct_tab (T_R_readForeignStructures) 111 = some (o_iast) := rfl
theorem e_R_readForeignStructures_112 : ct_tab (T_R_readForeignStructures) 112 = some (o_iinc 2 1) := rfl
theorem e_R_readForeignStructures_115 : ct_tab (T_R_readForeignStructures) 115 = some (o_goto 21) := rfl
theorem cl_R_readForeignStructures_5 {l : ct_Lx} {d d1 : Nat} {Post Post1 : Option Value → ct_Sg → Prop} {lv : ct_Lv} {st : List Value} {g : ct_Sg} {bc bs c1 s1 : Nat} {a1 a2 a3 : Value} {h : Nat} (hsh : g.2.1 h = (10 + 2, 9)) (hM : ct_Me l M_R_takeWithin d1 c1 s1 [.ref h, a1, a2, a3] g Post1) (hdd : d1 + 1 ≤ d) (hk : (st.map fun v => v.category).sum ≤ 8) (hcc : c1 ≤ bc) (hss : s1 ≤ bs) (kk : ∀ (v : Option Value) (g' : ct_Sg), Post1 v g' → ct_Wp l M_R_readForeignStructures d Post (8, lv, v.toList ++ st, g', bc - c1, bs - s1)) : ct_Wp l M_R_readForeignStructures d Post (5, lv, a3 :: a2 :: a1 :: .ref h :: st, g, bc, bs) := ct_Wp.callV (ci := 2) (N := 9) (T := ct_T2) (As := [a1, a2, a3]) lk_R_takeWithin (Or.inl wd_100) wd_101 wd_102 rfl d_R_readForeignStructures_5 hsh hM rfl hdd hk hcc hss kk
theorem cl_R_readForeignStructures_59 {l : ct_Lx} {d d1 : Nat} {Post Post1 : Option Value → ct_Sg → Prop} {lv : ct_Lv} {st : List Value} {g : ct_Sg} {bc bs c1 s1 : Nat} {a1 : Value} {h : Nat} (hsh : g.2.1 h = (10 + 2, 9)) (hM : ct_Me l M_R_take d1 c1 s1 [.ref h, a1] g Post1) (hdd : d1 + 1 ≤ d) (hk : (st.map fun v => v.category).sum ≤ 8) (hcc : c1 ≤ bc) (hss : s1 ≤ bs) (kk : ∀ (v : Option Value) (g' : ct_Sg), Post1 v g' → ct_Wp l M_R_readForeignStructures d Post (62, lv, v.toList ++ st, g', bc - c1, bs - s1)) : ct_Wp l M_R_readForeignStructures d Post (59, lv, a1 :: .ref h :: st, g, bc, bs) := ct_Wp.callV (ci := 2) (N := 9) (T := ct_T2) (As := [a1]) lk_R_take (Or.inl wd_65) wd_66 wd_67 rfl d_R_readForeignStructures_59 hsh hM rfl hdd hk hcc hss kk
theorem cl_R_readForeignStructures_76 {l : ct_Lx} {d d1 : Nat} {Post Post1 : Option Value → ct_Sg → Prop} {lv : ct_Lv} {st : List Value} {g : ct_Sg} {bc bs c1 s1 : Nat} {a1 : Value} {h : Nat} (hsh : g.2.1 h = (10 + 2, 9)) (hM : ct_Me l M_R_take d1 c1 s1 [.ref h, a1] g Post1) (hdd : d1 + 1 ≤ d) (hk : (st.map fun v => v.category).sum ≤ 8) (hcc : c1 ≤ bc) (hss : s1 ≤ bs) (kk : ∀ (v : Option Value) (g' : ct_Sg), Post1 v g' → ct_Wp l M_R_readForeignStructures d Post (79, lv, v.toList ++ st, g', bc - c1, bs - s1)) : ct_Wp l M_R_readForeignStructures d Post (76, lv, a1 :: .ref h :: st, g, bc, bs) := ct_Wp.callV (ci := 2) (N := 9) (T := ct_T2) (As := [a1]) lk_R_take (Or.inl wd_65) wd_66 wd_67 rfl d_R_readForeignStructures_76 hsh hM rfl hdd hk hcc hss kk
theorem cl_R_readForeignStructures_96 {l : ct_Lx} {d d1 : Nat} {Post Post1 : Option Value → ct_Sg → Prop} {lv : ct_Lv} {st : List Value} {g : ct_Sg} {bc bs c1 s1 : Nat} {a1 a2 a3 : Value} {h : Nat} (hsh : g.2.1 h = (10 + 2, 9)) (hM : ct_Me l M_R_takeWithin d1 c1 s1 [.ref h, a1, a2, a3] g Post1) (hdd : d1 + 1 ≤ d) (hk : (st.map fun v => v.category).sum ≤ 8) (hcc : c1 ≤ bc) (hss : s1 ≤ bs) (kk : ∀ (v : Option Value) (g' : ct_Sg), Post1 v g' → ct_Wp l M_R_readForeignStructures d Post (99, lv, v.toList ++ st, g', bc - c1, bs - s1)) : ct_Wp l M_R_readForeignStructures d Post (96, lv, a3 :: a2 :: a1 :: .ref h :: st, g, bc, bs) := ct_Wp.callV (ci := 2) (N := 9) (T := ct_T2) (As := [a1, a2, a3]) lk_R_takeWithin (Or.inl wd_100) wd_101 wd_102 rfl d_R_readForeignStructures_96 hsh hM rfl hdd hk hcc hss kk
theorem d_R_readForeignFunctions_0 : decode prog_2_method_7_code 0 = .ok (.aload_n 0, 1) := by decide +kernel
theorem d_R_readForeignFunctions_1 : decode prog_2_method_7_code 1 = .ok (.iconst 1, 1) := by decide +kernel
theorem d_R_readForeignFunctions_2 : decode prog_2_method_7_code 2 = .ok (.iconst 0, 1) := by decide +kernel
theorem d_R_readForeignFunctions_3 : decode prog_2_method_7_code 3 = .ok (.bipush 32, 2) := by decide +kernel
theorem d_R_readForeignFunctions_5 : decode prog_2_method_7_code 5 = .ok (.invokevirtual 77, 3) := by decide +kernel
theorem d_R_readForeignFunctions_8 : decode prog_2_method_7_code 8 = .ok (.istore_n 1, 1) := by decide +kernel
theorem d_R_readForeignFunctions_9 : decode prog_2_method_7_code 9 = .ok (.aload_n 0, 1) := by decide +kernel
theorem d_R_readForeignFunctions_10 : decode prog_2_method_7_code 10 = .ok (.getfield 41, 3) := by decide +kernel
theorem d_R_readForeignFunctions_13 : decode prog_2_method_7_code 13 = .ok (.getfield 48, 3) := by decide +kernel
theorem d_R_readForeignFunctions_16 : decode prog_2_method_7_code 16 = .ok (.iconst 3, 1) := by decide +kernel
theorem d_R_readForeignFunctions_17 : decode prog_2_method_7_code 17 = .ok (.iload_n 1, 1) := by decide +kernel
theorem d_R_readForeignFunctions_18 : decode prog_2_method_7_code 18 = .ok (.iastore, 1) := by decide +kernel
theorem d_R_readForeignFunctions_19 : decode prog_2_method_7_code 19 = .ok (.iconst 0, 1) := by decide +kernel
theorem d_R_readForeignFunctions_20 : decode prog_2_method_7_code 20 = .ok (.istore_n 2, 1) := by decide +kernel
theorem d_R_readForeignFunctions_21 : decode prog_2_method_7_code 21 = .ok (.iload_n 2, 1) := by decide +kernel
theorem d_R_readForeignFunctions_22 : decode prog_2_method_7_code 22 = .ok (.iload_n 1, 1) := by decide +kernel
theorem d_R_readForeignFunctions_23 : decode prog_2_method_7_code 23 = .ok (.if_icmp .ge 95, 3) := by decide +kernel
theorem d_R_readForeignFunctions_26 : decode prog_2_method_7_code 26 = .ok (.aload_n 0, 1) := by decide +kernel
theorem d_R_readForeignFunctions_27 : decode prog_2_method_7_code 27 = .ok (.getfield 35, 3) := by decide +kernel
theorem d_R_readForeignFunctions_30 : decode prog_2_method_7_code 30 = .ok (.ifCond .ne 88, 3) := by decide +kernel
theorem d_R_readForeignFunctions_33 : decode prog_2_method_7_code 33 = .ok (.bipush 64, 2) := by decide +kernel
theorem d_R_readForeignFunctions_35 : decode prog_2_method_7_code 35 = .ok (.iload_n 2, 1) := by decide +kernel
theorem d_R_readForeignFunctions_36 : decode prog_2_method_7_code 36 = .ok (.iadd, 1) := by decide +kernel
theorem d_R_readForeignFunctions_37 : decode prog_2_method_7_code 37 = .ok (.istore_n 3, 1) := by decide +kernel
theorem d_R_readForeignFunctions_38 : decode prog_2_method_7_code 38 = .ok (.iload_n 3, 1) := by decide +kernel
theorem d_R_readForeignFunctions_39 : decode prog_2_method_7_code 39 = .ok (.bipush 7, 2) := by decide +kernel
theorem d_R_readForeignFunctions_41 : decode prog_2_method_7_code 41 = .ok (.imul, 1) := by decide +kernel
theorem d_R_readForeignFunctions_42 : decode prog_2_method_7_code 42 = .ok (.istore 4, 2) := by decide +kernel
theorem d_R_readForeignFunctions_44 : decode prog_2_method_7_code 44 = .ok (.aload_n 0, 1) := by decide +kernel
theorem d_R_readForeignFunctions_45 : decode prog_2_method_7_code 45 = .ok (.getfield 41, 3) := by decide +kernel
theorem d_R_readForeignFunctions_48 : decode prog_2_method_7_code 48 = .ok (.getfield 92, 3) := by decide +kernel
theorem d_R_readForeignFunctions_51 : decode prog_2_method_7_code 51 = .ok (.iload 4, 2) := by decide +kernel
theorem d_R_readForeignFunctions_53 : decode prog_2_method_7_code 53 = .ok (.iconst 5, 1) := by decide +kernel
theorem d_R_readForeignFunctions_54 : decode prog_2_method_7_code 54 = .ok (.iadd, 1) := by decide +kernel
theorem d_R_readForeignFunctions_55 : decode prog_2_method_7_code 55 = .ok (.aload_n 0, 1) := by decide +kernel
theorem d_R_readForeignFunctions_56 : decode prog_2_method_7_code 56 = .ok (.iconst 2, 1) := by decide +kernel
theorem d_R_readForeignFunctions_57 : decode prog_2_method_7_code 57 = .ok (.invokevirtual 51, 3) := by decide +kernel
theorem d_R_readForeignFunctions_60 : decode prog_2_method_7_code 60 = .ok (.l2i, 1) := by decide +kernel
theorem d_R_readForeignFunctions_61 : decode prog_2_method_7_code 61 = .ok (.iastore, 1) := by decide +kernel
theorem d_R_readForeignFunctions_62 : decode prog_2_method_7_code 62 = .ok (.aload_n 0, 1) := by decide +kernel
theorem d_R_readForeignFunctions_63 : decode prog_2_method_7_code 63 = .ok (.getfield 41, 3) := by decide +kernel
theorem d_R_readForeignFunctions_66 : decode prog_2_method_7_code 66 = .ok (.getfield 92, 3) := by decide +kernel
theorem d_R_readForeignFunctions_69 : decode prog_2_method_7_code 69 = .ok (.iload 4, 2) := by decide +kernel
theorem d_R_readForeignFunctions_71 : decode prog_2_method_7_code 71 = .ok (.bipush 6, 2) := by decide +kernel
theorem d_R_readForeignFunctions_73 : decode prog_2_method_7_code 73 = .ok (.iadd, 1) := by decide +kernel
theorem d_R_readForeignFunctions_74 : decode prog_2_method_7_code 74 = .ok (.aload_n 0, 1) := by decide +kernel
theorem d_R_readForeignFunctions_75 : decode prog_2_method_7_code 75 = .ok (.iconst 1, 1) := by decide +kernel
theorem d_R_readForeignFunctions_76 : decode prog_2_method_7_code 76 = .ok (.invokevirtual 51, 3) := by decide +kernel
theorem d_R_readForeignFunctions_79 : decode prog_2_method_7_code 79 = .ok (.l2i, 1) := by decide +kernel
theorem d_R_readForeignFunctions_80 : decode prog_2_method_7_code 80 = .ok (.iastore, 1) := by decide +kernel
theorem d_R_readForeignFunctions_81 : decode prog_2_method_7_code 81 = .ok (.aload_n 0, 1) := by decide +kernel
theorem d_R_readForeignFunctions_82 : decode prog_2_method_7_code 82 = .ok (.iload_n 3, 1) := by decide +kernel
theorem d_R_readForeignFunctions_83 : decode prog_2_method_7_code 83 = .ok (.invokevirtual 95, 3) := by decide +kernel
theorem d_R_readForeignFunctions_86 : decode prog_2_method_7_code 86 = .ok (.aload_n 0, 1) := by decide +kernel
theorem d_R_readForeignFunctions_87 : decode prog_2_method_7_code 87 = .ok (.getfield 41, 3) := by decide +kernel
theorem d_R_readForeignFunctions_90 : decode prog_2_method_7_code 90 = .ok (.getfield 92, 3) := by decide +kernel
theorem d_R_readForeignFunctions_93 : decode prog_2_method_7_code 93 = .ok (.iload 4, 2) := by decide +kernel
theorem d_R_readForeignFunctions_95 : decode prog_2_method_7_code 95 = .ok (.iconst 3, 1) := by decide +kernel
theorem d_R_readForeignFunctions_96 : decode prog_2_method_7_code 96 = .ok (.iadd, 1) := by decide +kernel
theorem d_R_readForeignFunctions_97 : decode prog_2_method_7_code 97 = .ok (.iconst 0, 1) := by decide +kernel
theorem d_R_readForeignFunctions_98 : decode prog_2_method_7_code 98 = .ok (.iastore, 1) := by decide +kernel
theorem d_R_readForeignFunctions_99 : decode prog_2_method_7_code 99 = .ok (.aload_n 0, 1) := by decide +kernel
theorem d_R_readForeignFunctions_100 : decode prog_2_method_7_code 100 = .ok (.getfield 41, 3) := by decide +kernel
theorem d_R_readForeignFunctions_103 : decode prog_2_method_7_code 103 = .ok (.getfield 92, 3) := by decide +kernel
theorem d_R_readForeignFunctions_106 : decode prog_2_method_7_code 106 = .ok (.iload 4, 2) := by decide +kernel
theorem d_R_readForeignFunctions_108 : decode prog_2_method_7_code 108 = .ok (.iconst 4, 1) := by decide +kernel
theorem d_R_readForeignFunctions_109 : decode prog_2_method_7_code 109 = .ok (.iadd, 1) := by decide +kernel
theorem d_R_readForeignFunctions_110 : decode prog_2_method_7_code 110 = .ok (.iconst 0, 1) := by decide +kernel
theorem d_R_readForeignFunctions_111 : decode prog_2_method_7_code 111 = .ok (.iastore, 1) := by decide +kernel
theorem d_R_readForeignFunctions_112 : decode prog_2_method_7_code 112 = .ok (.iinc 2 1, 3) := by decide +kernel
theorem d_R_readForeignFunctions_115 : decode prog_2_method_7_code 115 = .ok (.goto (-94), 3) := by decide +kernel
theorem d_R_readForeignFunctions_118 : decode prog_2_method_7_code 118 = .ok (.return_, 1) := by decide +kernel
abbrev T_R_readForeignFunctions : List (Nat × ct_PT) := [(0, o_aload 0 1), (1, o_push (.int 1) 1), (2, o_push (.int 0) 1), (3, o_push (.int 32) 2), (8, o_istore 1 1), (9, o_aload 0 1), (10, o_getR 2 9 0), (13, o_getR 1 10 0), (16, o_push (.int 3) 1), (17, o_iload 1 1), (18, o_iast), (19, o_push (.int 0) 1), (20, o_istore 2 1), (21, o_iload 2 1), (22, o_iload 1 1), (23, o_ic (fun x y => y ≤ x) (fun x y => ¬ y ≤ x) 118), (26, o_aload 0 1), (27, o_getI 2 9 7), (30, o_if (fun x => ¬ x = 0) (fun x => x = 0) 118), (33, o_push (.int 64) 2), (35, o_iload 2 1), (36, o_ii fun x y => x + y), (37, o_istore 3 1), (38, o_iload 3 1), (39, o_push (.int 7) 2), (41, o_ii fun x y => x * y), (42, o_istore 4 2), (44, o_aload 0 1), (45, o_getR 2 9 0), (48, o_getR 1 10 3), (51, o_iload 4 2), (53, o_push (.int 5) 1), (54, o_ii fun x y => x + y), (55, o_aload 0 1), (56, o_push (.int 2) 1), (60, o_l2i), (61, o_iast), (62, o_aload 0 1), (63, o_getR 2 9 0), (66, o_getR 1 10 3), (69, o_iload 4 2), (71, o_push (.int 6) 2), (73, o_ii fun x y => x + y), (74, o_aload 0 1), (75, o_push (.int 1) 1), (79, o_l2i), (80, o_iast), (81, o_aload 0 1), (82, o_iload 3 1), (86, o_aload 0 1), (87, o_getR 2 9 0), (90, o_getR 1 10 3), (93, o_iload 4 2), (95, o_push (.int 3) 1), (96, o_ii fun x y => x + y), (97, o_push (.int 0) 1), (98, o_iast), (99, o_aload 0 1), (100, o_getR 2 9 0), (103, o_getR 1 10 3), (106, o_iload 4 2), (108, o_push (.int 4) 1), (109, o_ii fun x y => x + y), (110, o_push (.int 0) 1), (111, o_iast), (112, o_iinc 2 1), (115, o_goto 21)]
set_option maxRecDepth 100000 in
theorem A_R_readForeignFunctions (l : ct_Lx) : ct_al l M_R_readForeignFunctions (T_R_readForeignFunctions) := by
  refine ct_al.cons (so_aload_n d_R_readForeignFunctions_0 rfl) ?_
  refine ct_al.cons (so_iconst d_R_readForeignFunctions_1 (by decide)) ?_
  refine ct_al.cons (so_iconst d_R_readForeignFunctions_2 (by decide)) ?_
  refine ct_al.cons (so_bipush d_R_readForeignFunctions_3 (by decide)) ?_
  refine ct_al.cons (so_istore_n d_R_readForeignFunctions_8 rfl (by decide)) ?_
  refine ct_al.cons (so_aload_n d_R_readForeignFunctions_9 rfl) ?_
  refine ct_al.cons (so_getR (Cn := "CodeTables$Reader") (T := ct_T2) kc_2 (by decide) rfl rfl wd_55 d_R_readForeignFunctions_10) ?_
  refine ct_al.cons (so_getR (Cn := "CodeTables$Tables") (T := ct_T1) kc_1 (by decide) rfl rfl wd_62 d_R_readForeignFunctions_13) ?_
  refine ct_al.cons (so_iconst d_R_readForeignFunctions_16 (by decide)) ?_
  refine ct_al.cons (so_iload_n d_R_readForeignFunctions_17 rfl) ?_
  refine ct_al.cons (so_iast d_R_readForeignFunctions_18) ?_
  refine ct_al.cons (so_iconst d_R_readForeignFunctions_19 (by decide)) ?_
  refine ct_al.cons (so_istore_n d_R_readForeignFunctions_20 rfl (by decide)) ?_
  refine ct_al.cons (so_iload_n d_R_readForeignFunctions_21 rfl) ?_
  refine ct_al.cons (so_iload_n d_R_readForeignFunctions_22 rfl) ?_
  refine ct_al.cons (so_ic_ge d_R_readForeignFunctions_23 (by decide)) ?_
  refine ct_al.cons (so_aload_n d_R_readForeignFunctions_26 rfl) ?_
  refine ct_al.cons (so_getI (Cn := "CodeTables$Reader") (T := ct_T2) kc_2 (by decide) rfl rfl wd_53 d_R_readForeignFunctions_27) ?_
  refine ct_al.cons (so_if_ne d_R_readForeignFunctions_30 (by decide)) ?_
  refine ct_al.cons (so_bipush d_R_readForeignFunctions_33 (by decide)) ?_
  refine ct_al.cons (so_iload_n d_R_readForeignFunctions_35 rfl) ?_
  refine ct_al.cons (so_iadd d_R_readForeignFunctions_36) ?_
  refine ct_al.cons (so_istore_n d_R_readForeignFunctions_37 rfl (by decide)) ?_
  refine ct_al.cons (so_iload_n d_R_readForeignFunctions_38 rfl) ?_
  refine ct_al.cons (so_bipush d_R_readForeignFunctions_39 (by decide)) ?_
  refine ct_al.cons (so_imul d_R_readForeignFunctions_41) ?_
  refine ct_al.cons (so_istore d_R_readForeignFunctions_42 (by decide)) ?_
  refine ct_al.cons (so_aload_n d_R_readForeignFunctions_44 rfl) ?_
  refine ct_al.cons (so_getR (Cn := "CodeTables$Reader") (T := ct_T2) kc_2 (by decide) rfl rfl wd_55 d_R_readForeignFunctions_45) ?_
  refine ct_al.cons (so_getR (Cn := "CodeTables$Tables") (T := ct_T1) kc_1 (by decide) rfl rfl wd_110 d_R_readForeignFunctions_48) ?_
  refine ct_al.cons (so_iload d_R_readForeignFunctions_51) ?_
  refine ct_al.cons (so_iconst d_R_readForeignFunctions_53 (by decide)) ?_
  refine ct_al.cons (so_iadd d_R_readForeignFunctions_54) ?_
  refine ct_al.cons (so_aload_n d_R_readForeignFunctions_55 rfl) ?_
  refine ct_al.cons (so_iconst d_R_readForeignFunctions_56 (by decide)) ?_
  refine ct_al.cons (so_l2i d_R_readForeignFunctions_60) ?_
  refine ct_al.cons (so_iast d_R_readForeignFunctions_61) ?_
  refine ct_al.cons (so_aload_n d_R_readForeignFunctions_62 rfl) ?_
  refine ct_al.cons (so_getR (Cn := "CodeTables$Reader") (T := ct_T2) kc_2 (by decide) rfl rfl wd_55 d_R_readForeignFunctions_63) ?_
  refine ct_al.cons (so_getR (Cn := "CodeTables$Tables") (T := ct_T1) kc_1 (by decide) rfl rfl wd_110 d_R_readForeignFunctions_66) ?_
  refine ct_al.cons (so_iload d_R_readForeignFunctions_69) ?_
  refine ct_al.cons (so_bipush d_R_readForeignFunctions_71 (by decide)) ?_
  refine ct_al.cons (so_iadd d_R_readForeignFunctions_73) ?_
  refine ct_al.cons (so_aload_n d_R_readForeignFunctions_74 rfl) ?_
  refine ct_al.cons (so_iconst d_R_readForeignFunctions_75 (by decide)) ?_
  refine ct_al.cons (so_l2i d_R_readForeignFunctions_79) ?_
  refine ct_al.cons (so_iast d_R_readForeignFunctions_80) ?_
  refine ct_al.cons (so_aload_n d_R_readForeignFunctions_81 rfl) ?_
  refine ct_al.cons (so_iload_n d_R_readForeignFunctions_82 rfl) ?_
  refine ct_al.cons (so_aload_n d_R_readForeignFunctions_86 rfl) ?_
  refine ct_al.cons (so_getR (Cn := "CodeTables$Reader") (T := ct_T2) kc_2 (by decide) rfl rfl wd_55 d_R_readForeignFunctions_87) ?_
  refine ct_al.cons (so_getR (Cn := "CodeTables$Tables") (T := ct_T1) kc_1 (by decide) rfl rfl wd_110 d_R_readForeignFunctions_90) ?_
  refine ct_al.cons (so_iload d_R_readForeignFunctions_93) ?_
  refine ct_al.cons (so_iconst d_R_readForeignFunctions_95 (by decide)) ?_
  refine ct_al.cons (so_iadd d_R_readForeignFunctions_96) ?_
  refine ct_al.cons (so_iconst d_R_readForeignFunctions_97 (by decide)) ?_
  refine ct_al.cons (so_iast d_R_readForeignFunctions_98) ?_
  refine ct_al.cons (so_aload_n d_R_readForeignFunctions_99 rfl) ?_
  refine ct_al.cons (so_getR (Cn := "CodeTables$Reader") (T := ct_T2) kc_2 (by decide) rfl rfl wd_55 d_R_readForeignFunctions_100) ?_
  refine ct_al.cons (so_getR (Cn := "CodeTables$Tables") (T := ct_T1) kc_1 (by decide) rfl rfl wd_110 d_R_readForeignFunctions_103) ?_
  refine ct_al.cons (so_iload d_R_readForeignFunctions_106) ?_
  refine ct_al.cons (so_iconst d_R_readForeignFunctions_108 (by decide)) ?_
  refine ct_al.cons (so_iadd d_R_readForeignFunctions_109) ?_
  refine ct_al.cons (so_iconst d_R_readForeignFunctions_110 (by decide)) ?_
  refine ct_al.cons (so_iast d_R_readForeignFunctions_111) ?_
  refine ct_al.cons (so_iinc d_R_readForeignFunctions_112 (by decide) (by decide)) ?_
  refine ct_al.cons (so_goto d_R_readForeignFunctions_115 (by decide)) ?_
  exact ct_al.nil
theorem e_R_readForeignFunctions_0 : ct_tab (T_R_readForeignFunctions) 0 = some (o_aload 0 1) := rfl
theorem e_R_readForeignFunctions_1 : ct_tab (T_R_readForeignFunctions) 1 = some (o_push (.int 1) 1) := rfl
theorem e_R_readForeignFunctions_2 : ct_tab (T_R_readForeignFunctions) 2 = some (o_push (.int 0) 1) := rfl
theorem e_R_readForeignFunctions_3 : ct_tab (T_R_readForeignFunctions) 3 = some (o_push (.int 32) 2) := rfl
theorem e_R_readForeignFunctions_8 : ct_tab (T_R_readForeignFunctions) 8 = some (o_istore 1 1) := rfl
theorem e_R_readForeignFunctions_9 : ct_tab (T_R_readForeignFunctions) 9 = some (o_aload 0 1) := rfl
theorem e_R_readForeignFunctions_10 : ct_tab (T_R_readForeignFunctions) 10 = some (o_getR 2 9 0) := rfl
theorem e_R_readForeignFunctions_13 : ct_tab (T_R_readForeignFunctions) 13 = some (o_getR 1 10 0) := rfl
theorem e_R_readForeignFunctions_16 : ct_tab (T_R_readForeignFunctions) 16 = some (o_push (.int 3) 1) := rfl
theorem e_R_readForeignFunctions_17 : ct_tab (T_R_readForeignFunctions) 17 = some (o_iload 1 1) := rfl
theorem e_R_readForeignFunctions_18 : ct_tab (T_R_readForeignFunctions) 18 = some (o_iast) := rfl
theorem e_R_readForeignFunctions_19 : ct_tab (T_R_readForeignFunctions) 19 = some (o_push (.int 0) 1) := rfl
theorem e_R_readForeignFunctions_20 : ct_tab (T_R_readForeignFunctions) 20 = some (o_istore 2 1) := rfl
theorem e_R_readForeignFunctions_21 : ct_tab (T_R_readForeignFunctions) 21 = some (o_iload 2 1) := rfl
theorem e_R_readForeignFunctions_22 : ct_tab (T_R_readForeignFunctions) 22 = some (o_iload 1 1) := rfl
theorem e_R_readForeignFunctions_23 : ct_tab (T_R_readForeignFunctions) 23 = some (o_ic (fun x y => y ≤ x) (fun x y => ¬ y ≤ x) 118) := rfl
theorem e_R_readForeignFunctions_26 : ct_tab (T_R_readForeignFunctions) 26 = some (o_aload 0 1) := rfl
theorem e_R_readForeignFunctions_27 : ct_tab (T_R_readForeignFunctions) 27 = some (o_getI 2 9 7) := rfl
theorem e_R_readForeignFunctions_30 : ct_tab (T_R_readForeignFunctions) 30 = some (o_if (fun x => ¬ x = 0) (fun x => x = 0) 118) := rfl
theorem e_R_readForeignFunctions_33 : ct_tab (T_R_readForeignFunctions) 33 = some (o_push (.int 64) 2) := rfl
theorem e_R_readForeignFunctions_35 : ct_tab (T_R_readForeignFunctions) 35 = some (o_iload 2 1) := rfl
theorem e_R_readForeignFunctions_36 : ct_tab (T_R_readForeignFunctions) 36 = some (o_ii fun x y => x + y) := rfl
theorem e_R_readForeignFunctions_37 : ct_tab (T_R_readForeignFunctions) 37 = some (o_istore 3 1) := rfl
theorem e_R_readForeignFunctions_38 : ct_tab (T_R_readForeignFunctions) 38 = some (o_iload 3 1) := rfl
theorem e_R_readForeignFunctions_39 : ct_tab (T_R_readForeignFunctions) 39 = some (o_push (.int 7) 2) := rfl
theorem e_R_readForeignFunctions_41 : ct_tab (T_R_readForeignFunctions) 41 = some (o_ii fun x y => x * y) := rfl
theorem e_R_readForeignFunctions_42 : ct_tab (T_R_readForeignFunctions) 42 = some (o_istore 4 2) := rfl
theorem e_R_readForeignFunctions_44 : ct_tab (T_R_readForeignFunctions) 44 = some (o_aload 0 1) := rfl
theorem e_R_readForeignFunctions_45 : ct_tab (T_R_readForeignFunctions) 45 = some (o_getR 2 9 0) := rfl
theorem e_R_readForeignFunctions_48 : ct_tab (T_R_readForeignFunctions) 48 = some (o_getR 1 10 3) := rfl
theorem e_R_readForeignFunctions_51 : ct_tab (T_R_readForeignFunctions) 51 = some (o_iload 4 2) := rfl
theorem e_R_readForeignFunctions_53 : ct_tab (T_R_readForeignFunctions) 53 = some (o_push (.int 5) 1) := rfl
theorem e_R_readForeignFunctions_54 : ct_tab (T_R_readForeignFunctions) 54 = some (o_ii fun x y => x + y) := rfl
theorem e_R_readForeignFunctions_55 : ct_tab (T_R_readForeignFunctions) 55 = some (o_aload 0 1) := rfl
theorem e_R_readForeignFunctions_56 : ct_tab (T_R_readForeignFunctions) 56 = some (o_push (.int 2) 1) := rfl
theorem e_R_readForeignFunctions_60 : ct_tab (T_R_readForeignFunctions) 60 = some (o_l2i) := rfl
theorem e_R_readForeignFunctions_61 : ct_tab (T_R_readForeignFunctions) 61 = some (o_iast) := rfl
theorem e_R_readForeignFunctions_62 : ct_tab (T_R_readForeignFunctions) 62 = some (o_aload 0 1) := rfl
theorem e_R_readForeignFunctions_63 : ct_tab (T_R_readForeignFunctions) 63 = some (o_getR 2 9 0) := rfl
theorem e_R_readForeignFunctions_66 : ct_tab (T_R_readForeignFunctions) 66 = some (o_getR 1 10 3) := rfl
theorem e_R_readForeignFunctions_69 : ct_tab (T_R_readForeignFunctions) 69 = some (o_iload 4 2) := rfl
theorem e_R_readForeignFunctions_71 : ct_tab (T_R_readForeignFunctions) 71 = some (o_push (.int 6) 2) := rfl
theorem e_R_readForeignFunctions_73 : ct_tab (T_R_readForeignFunctions) 73 = some (o_ii fun x y => x + y) := rfl
theorem e_R_readForeignFunctions_74 : ct_tab (T_R_readForeignFunctions) 74 = some (o_aload 0 1) := rfl
theorem e_R_readForeignFunctions_75 : ct_tab (T_R_readForeignFunctions) 75 = some (o_push (.int 1) 1) := rfl
theorem e_R_readForeignFunctions_79 : ct_tab (T_R_readForeignFunctions) 79 = some (o_l2i) := rfl
theorem e_R_readForeignFunctions_80 : ct_tab (T_R_readForeignFunctions) 80 = some (o_iast) := rfl
theorem e_R_readForeignFunctions_81 : ct_tab (T_R_readForeignFunctions) 81 = some (o_aload 0 1) := rfl
theorem e_R_readForeignFunctions_82 : ct_tab (T_R_readForeignFunctions) 82 = some (o_iload 3 1) := rfl
theorem e_R_readForeignFunctions_86 : ct_tab (T_R_readForeignFunctions) 86 = some (o_aload 0 1) := rfl
theorem e_R_readForeignFunctions_87 : ct_tab (T_R_readForeignFunctions) 87 = some (o_getR 2 9 0) := rfl
theorem e_R_readForeignFunctions_90 : ct_tab (T_R_readForeignFunctions) 90 = some (o_getR 1 10 3) := rfl
theorem e_R_readForeignFunctions_93 : ct_tab (T_R_readForeignFunctions) 93 = some (o_iload 4 2) := rfl
theorem e_R_readForeignFunctions_95 : ct_tab (T_R_readForeignFunctions) 95 = some (o_push (.int 3) 1) := rfl
theorem e_R_readForeignFunctions_96 : ct_tab (T_R_readForeignFunctions) 96 = some (o_ii fun x y => x + y) := rfl
theorem e_R_readForeignFunctions_97 : ct_tab (T_R_readForeignFunctions) 97 = some (o_push (.int 0) 1) := rfl
theorem e_R_readForeignFunctions_98 : ct_tab (T_R_readForeignFunctions) 98 = some (o_iast) := rfl
theorem e_R_readForeignFunctions_99 : ct_tab (T_R_readForeignFunctions) 99 = some (o_aload 0 1) := rfl
theorem e_R_readForeignFunctions_100 : ct_tab (T_R_readForeignFunctions) 100 = some (o_getR 2 9 0) := rfl
theorem e_R_readForeignFunctions_103 : ct_tab (T_R_readForeignFunctions) 103 = some (o_getR 1 10 3) := rfl
theorem e_R_readForeignFunctions_106 : ct_tab (T_R_readForeignFunctions) 106 = some (o_iload 4 2) := rfl
theorem e_R_readForeignFunctions_108 : ct_tab (T_R_readForeignFunctions) 108 = some (o_push (.int 4) 1) := rfl
theorem e_R_readForeignFunctions_109 : ct_tab (T_R_readForeignFunctions) 109 = some (o_ii fun x y => x + y) := rfl
theorem e_R_readForeignFunctions_110 : ct_tab (T_R_readForeignFunctions) 110 = some (o_push (.int 0) 1) := rfl
theorem e_R_readForeignFunctions_111 : ct_tab (T_R_readForeignFunctions) 111 = some (o_iast) := rfl
theorem e_R_readForeignFunctions_112 : ct_tab (T_R_readForeignFunctions) 112 = some (o_iinc 2 1) := rfl
theorem e_R_readForeignFunctions_115 : ct_tab (T_R_readForeignFunctions) 115 = some (o_goto 21) := rfl
theorem cl_R_readForeignFunctions_5 {l : ct_Lx} {d d1 : Nat} {Post Post1 : Option Value → ct_Sg → Prop} {lv : ct_Lv} {st : List Value} {g : ct_Sg} {bc bs c1 s1 : Nat} {a1 a2 a3 : Value} {h : Nat} (hsh : g.2.1 h = (10 + 2, 9)) (hM : ct_Me l M_R_takeWithin d1 c1 s1 [.ref h, a1, a2, a3] g Post1) (hdd : d1 + 1 ≤ d) (hk : (st.map fun v => v.category).sum ≤ 8) (hcc : c1 ≤ bc) (hss : s1 ≤ bs) (kk : ∀ (v : Option Value) (g' : ct_Sg), Post1 v g' → ct_Wp l M_R_readForeignFunctions d Post (8, lv, v.toList ++ st, g', bc - c1, bs - s1)) : ct_Wp l M_R_readForeignFunctions d Post (5, lv, a3 :: a2 :: a1 :: .ref h :: st, g, bc, bs) := ct_Wp.callV (ci := 2) (N := 9) (T := ct_T2) (As := [a1, a2, a3]) lk_R_takeWithin (Or.inl wd_100) wd_101 wd_102 rfl d_R_readForeignFunctions_5 hsh hM rfl hdd hk hcc hss kk
theorem cl_R_readForeignFunctions_57 {l : ct_Lx} {d d1 : Nat} {Post Post1 : Option Value → ct_Sg → Prop} {lv : ct_Lv} {st : List Value} {g : ct_Sg} {bc bs c1 s1 : Nat} {a1 : Value} {h : Nat} (hsh : g.2.1 h = (10 + 2, 9)) (hM : ct_Me l M_R_take d1 c1 s1 [.ref h, a1] g Post1) (hdd : d1 + 1 ≤ d) (hk : (st.map fun v => v.category).sum ≤ 8) (hcc : c1 ≤ bc) (hss : s1 ≤ bs) (kk : ∀ (v : Option Value) (g' : ct_Sg), Post1 v g' → ct_Wp l M_R_readForeignFunctions d Post (60, lv, v.toList ++ st, g', bc - c1, bs - s1)) : ct_Wp l M_R_readForeignFunctions d Post (57, lv, a1 :: .ref h :: st, g, bc, bs) := ct_Wp.callV (ci := 2) (N := 9) (T := ct_T2) (As := [a1]) lk_R_take (Or.inl wd_65) wd_66 wd_67 rfl d_R_readForeignFunctions_57 hsh hM rfl hdd hk hcc hss kk
theorem cl_R_readForeignFunctions_76 {l : ct_Lx} {d d1 : Nat} {Post Post1 : Option Value → ct_Sg → Prop} {lv : ct_Lv} {st : List Value} {g : ct_Sg} {bc bs c1 s1 : Nat} {a1 : Value} {h : Nat} (hsh : g.2.1 h = (10 + 2, 9)) (hM : ct_Me l M_R_take d1 c1 s1 [.ref h, a1] g Post1) (hdd : d1 + 1 ≤ d) (hk : (st.map fun v => v.category).sum ≤ 8) (hcc : c1 ≤ bc) (hss : s1 ≤ bs) (kk : ∀ (v : Option Value) (g' : ct_Sg), Post1 v g' → ct_Wp l M_R_readForeignFunctions d Post (79, lv, v.toList ++ st, g', bc - c1, bs - s1)) : ct_Wp l M_R_readForeignFunctions d Post (76, lv, a1 :: .ref h :: st, g, bc, bs) := ct_Wp.callV (ci := 2) (N := 9) (T := ct_T2) (As := [a1]) lk_R_take (Or.inl wd_65) wd_66 wd_67 rfl d_R_readForeignFunctions_76 hsh hM rfl hdd hk hcc hss kk
theorem cl_R_readForeignFunctions_83 {l : ct_Lx} {d d1 : Nat} {Post Post1 : Option Value → ct_Sg → Prop} {lv : ct_Lv} {st : List Value} {g : ct_Sg} {bc bs c1 s1 : Nat} {a1 : Value} {h : Nat} (hsh : g.2.1 h = (10 + 2, 9)) (hM : ct_Me l M_R_readFlagsAndLists d1 c1 s1 [.ref h, a1] g Post1) (hdd : d1 + 1 ≤ d) (hk : (st.map fun v => v.category).sum ≤ 8) (hcc : c1 ≤ bc) (hss : s1 ≤ bs) (kk : ∀ (v : Option Value) (g' : ct_Sg), Post1 v g' → ct_Wp l M_R_readForeignFunctions d Post (86, lv, v.toList ++ st, g', bc - c1, bs - s1)) : ct_Wp l M_R_readForeignFunctions d Post (83, lv, a1 :: .ref h :: st, g, bc, bs) := ct_Wp.callV (ci := 2) (N := 9) (T := ct_T2) (As := [a1]) lk_R_readFlagsAndLists (Or.inl wd_113) wd_114 wd_115 rfl d_R_readForeignFunctions_83 hsh hM rfl hdd hk hcc hss kk
theorem d_R_readElements_0 : decode prog_2_method_8_code 0 = .ok (.aload_n 0, 1) := by decide +kernel
theorem d_R_readElements_1 : decode prog_2_method_8_code 1 = .ok (.getfield 41, 3) := by decide +kernel
theorem d_R_readElements_4 : decode prog_2_method_8_code 4 = .ok (.getfield 48, 3) := by decide +kernel
theorem d_R_readElements_7 : decode prog_2_method_8_code 7 = .ok (.iconst 4, 1) := by decide +kernel
theorem d_R_readElements_8 : decode prog_2_method_8_code 8 = .ok (.aload_n 0, 1) := by decide +kernel
theorem d_R_readElements_9 : decode prog_2_method_8_code 9 = .ok (.aload_n 0, 1) := by decide +kernel
theorem d_R_readElements_10 : decode prog_2_method_8_code 10 = .ok (.getfield 41, 3) := by decide +kernel
theorem d_R_readElements_13 : decode prog_2_method_8_code 13 = .ok (.getfield 99, 3) := by decide +kernel
theorem d_R_readElements_16 : decode prog_2_method_8_code 16 = .ok (.iconst 0, 1) := by decide +kernel
theorem d_R_readElements_17 : decode prog_2_method_8_code 17 = .ok (.iconst 0, 1) := by decide +kernel
theorem d_R_readElements_18 : decode prog_2_method_8_code 18 = .ok (.bipush 32, 2) := by decide +kernel
theorem d_R_readElements_20 : decode prog_2_method_8_code 20 = .ok (.iconst 0, 1) := by decide +kernel
theorem d_R_readElements_21 : decode prog_2_method_8_code 21 = .ok (.invokevirtual 88, 3) := by decide +kernel
theorem d_R_readElements_24 : decode prog_2_method_8_code 24 = .ok (.iastore, 1) := by decide +kernel
theorem d_R_readElements_25 : decode prog_2_method_8_code 25 = .ok (.return_, 1) := by decide +kernel
abbrev T_R_readElements : List (Nat × ct_PT) := [(0, o_aload 0 1), (1, o_getR 2 9 0), (4, o_getR 1 10 0), (7, o_push (.int 4) 1), (8, o_aload 0 1), (9, o_aload 0 1), (10, o_getR 2 9 0), (13, o_getR 1 10 5), (16, o_push (.int 0) 1), (17, o_push (.int 0) 1), (18, o_push (.int 32) 2), (20, o_push (.int 0) 1), (24, o_iast)]
set_option maxRecDepth 100000 in
theorem A_R_readElements (l : ct_Lx) : ct_al l M_R_readElements (T_R_readElements) := by
  refine ct_al.cons (so_aload_n d_R_readElements_0 rfl) ?_
  refine ct_al.cons (so_getR (Cn := "CodeTables$Reader") (T := ct_T2) kc_2 (by decide) rfl rfl wd_55 d_R_readElements_1) ?_
  refine ct_al.cons (so_getR (Cn := "CodeTables$Tables") (T := ct_T1) kc_1 (by decide) rfl rfl wd_62 d_R_readElements_4) ?_
  refine ct_al.cons (so_iconst d_R_readElements_7 (by decide)) ?_
  refine ct_al.cons (so_aload_n d_R_readElements_8 rfl) ?_
  refine ct_al.cons (so_aload_n d_R_readElements_9 rfl) ?_
  refine ct_al.cons (so_getR (Cn := "CodeTables$Reader") (T := ct_T2) kc_2 (by decide) rfl rfl wd_55 d_R_readElements_10) ?_
  refine ct_al.cons (so_getR (Cn := "CodeTables$Tables") (T := ct_T1) kc_1 (by decide) rfl rfl wd_116 d_R_readElements_13) ?_
  refine ct_al.cons (so_iconst d_R_readElements_16 (by decide)) ?_
  refine ct_al.cons (so_iconst d_R_readElements_17 (by decide)) ?_
  refine ct_al.cons (so_bipush d_R_readElements_18 (by decide)) ?_
  refine ct_al.cons (so_iconst d_R_readElements_20 (by decide)) ?_
  refine ct_al.cons (so_iast d_R_readElements_24) ?_
  exact ct_al.nil
theorem e_R_readElements_0 : ct_tab (T_R_readElements) 0 = some (o_aload 0 1) := rfl
theorem e_R_readElements_1 : ct_tab (T_R_readElements) 1 = some (o_getR 2 9 0) := rfl
theorem e_R_readElements_4 : ct_tab (T_R_readElements) 4 = some (o_getR 1 10 0) := rfl
theorem e_R_readElements_7 : ct_tab (T_R_readElements) 7 = some (o_push (.int 4) 1) := rfl
theorem e_R_readElements_8 : ct_tab (T_R_readElements) 8 = some (o_aload 0 1) := rfl
theorem e_R_readElements_9 : ct_tab (T_R_readElements) 9 = some (o_aload 0 1) := rfl
theorem e_R_readElements_10 : ct_tab (T_R_readElements) 10 = some (o_getR 2 9 0) := rfl
theorem e_R_readElements_13 : ct_tab (T_R_readElements) 13 = some (o_getR 1 10 5) := rfl
theorem e_R_readElements_16 : ct_tab (T_R_readElements) 16 = some (o_push (.int 0) 1) := rfl
theorem e_R_readElements_17 : ct_tab (T_R_readElements) 17 = some (o_push (.int 0) 1) := rfl
theorem e_R_readElements_18 : ct_tab (T_R_readElements) 18 = some (o_push (.int 32) 2) := rfl
theorem e_R_readElements_20 : ct_tab (T_R_readElements) 20 = some (o_push (.int 0) 1) := rfl
theorem e_R_readElements_24 : ct_tab (T_R_readElements) 24 = some (o_iast) := rfl
theorem cl_R_readElements_21 {l : ct_Lx} {d d1 : Nat} {Post Post1 : Option Value → ct_Sg → Prop} {lv : ct_Lv} {st : List Value} {g : ct_Sg} {bc bs c1 s1 : Nat} {a1 a2 a3 a4 a5 : Value} {h : Nat} (hsh : g.2.1 h = (10 + 2, 9)) (hM : ct_Me l M_R_takeTypes d1 c1 s1 [.ref h, a1, a2, a3, a4, a5] g Post1) (hdd : d1 + 1 ≤ d) (hk : (st.map fun v => v.category).sum ≤ 8) (hcc : c1 ≤ bc) (hss : s1 ≤ bs) (kk : ∀ (v : Option Value) (g' : ct_Sg), Post1 v g' → ct_Wp l M_R_readElements d Post (24, lv, v.toList ++ st, g', bc - c1, bs - s1)) : ct_Wp l M_R_readElements d Post (21, lv, a5 :: a4 :: a3 :: a2 :: a1 :: .ref h :: st, g, bc, bs) := ct_Wp.callV (ci := 2) (N := 9) (T := ct_T2) (As := [a1, a2, a3, a4, a5]) lk_R_takeTypes (Or.inl wd_107) wd_108 wd_109 rfl d_R_readElements_21 hsh hM rfl hdd hk hcc hss kk
theorem d_R_readFunctions_0 : decode prog_2_method_9_code 0 = .ok (.aload_n 0, 1) := by decide +kernel
theorem d_R_readFunctions_1 : decode prog_2_method_9_code 1 = .ok (.iconst 1, 1) := by decide +kernel
theorem d_R_readFunctions_2 : decode prog_2_method_9_code 2 = .ok (.iconst 0, 1) := by decide +kernel
theorem d_R_readFunctions_3 : decode prog_2_method_9_code 3 = .ok (.bipush 64, 2) := by decide +kernel
theorem d_R_readFunctions_5 : decode prog_2_method_9_code 5 = .ok (.invokevirtual 77, 3) := by decide +kernel
theorem d_R_readFunctions_8 : decode prog_2_method_9_code 8 = .ok (.istore_n 1, 1) := by decide +kernel
theorem d_R_readFunctions_9 : decode prog_2_method_9_code 9 = .ok (.aload_n 0, 1) := by decide +kernel
theorem d_R_readFunctions_10 : decode prog_2_method_9_code 10 = .ok (.getfield 41, 3) := by decide +kernel
theorem d_R_readFunctions_13 : decode prog_2_method_9_code 13 = .ok (.getfield 48, 3) := by decide +kernel
theorem d_R_readFunctions_16 : decode prog_2_method_9_code 16 = .ok (.iconst 5, 1) := by decide +kernel
theorem d_R_readFunctions_17 : decode prog_2_method_9_code 17 = .ok (.iload_n 1, 1) := by decide +kernel
theorem d_R_readFunctions_18 : decode prog_2_method_9_code 18 = .ok (.iastore, 1) := by decide +kernel
theorem d_R_readFunctions_19 : decode prog_2_method_9_code 19 = .ok (.aload_n 0, 1) := by decide +kernel
theorem d_R_readFunctions_20 : decode prog_2_method_9_code 20 = .ok (.getfield 41, 3) := by decide +kernel
theorem d_R_readFunctions_23 : decode prog_2_method_9_code 23 = .ok (.getfield 48, 3) := by decide +kernel
theorem d_R_readFunctions_26 : decode prog_2_method_9_code 26 = .ok (.bipush 6, 2) := by decide +kernel
theorem d_R_readFunctions_28 : decode prog_2_method_9_code 28 = .ok (.iconst 0, 1) := by decide +kernel
theorem d_R_readFunctions_29 : decode prog_2_method_9_code 29 = .ok (.iastore, 1) := by decide +kernel
theorem d_R_readFunctions_30 : decode prog_2_method_9_code 30 = .ok (.iconst 0, 1) := by decide +kernel
theorem d_R_readFunctions_31 : decode prog_2_method_9_code 31 = .ok (.istore_n 2, 1) := by decide +kernel
theorem d_R_readFunctions_32 : decode prog_2_method_9_code 32 = .ok (.iload_n 2, 1) := by decide +kernel
theorem d_R_readFunctions_33 : decode prog_2_method_9_code 33 = .ok (.iload_n 1, 1) := by decide +kernel
theorem d_R_readFunctions_34 : decode prog_2_method_9_code 34 = .ok (.if_icmp .ge 87, 3) := by decide +kernel
theorem d_R_readFunctions_37 : decode prog_2_method_9_code 37 = .ok (.aload_n 0, 1) := by decide +kernel
theorem d_R_readFunctions_38 : decode prog_2_method_9_code 38 = .ok (.getfield 35, 3) := by decide +kernel
theorem d_R_readFunctions_41 : decode prog_2_method_9_code 41 = .ok (.ifCond .ne 80, 3) := by decide +kernel
theorem d_R_readFunctions_44 : decode prog_2_method_9_code 44 = .ok (.iload_n 2, 1) := by decide +kernel
theorem d_R_readFunctions_45 : decode prog_2_method_9_code 45 = .ok (.bipush 7, 2) := by decide +kernel
theorem d_R_readFunctions_47 : decode prog_2_method_9_code 47 = .ok (.imul, 1) := by decide +kernel
theorem d_R_readFunctions_48 : decode prog_2_method_9_code 48 = .ok (.istore_n 3, 1) := by decide +kernel
theorem d_R_readFunctions_49 : decode prog_2_method_9_code 49 = .ok (.aload_n 0, 1) := by decide +kernel
theorem d_R_readFunctions_50 : decode prog_2_method_9_code 50 = .ok (.getfield 41, 3) := by decide +kernel
theorem d_R_readFunctions_53 : decode prog_2_method_9_code 53 = .ok (.getfield 92, 3) := by decide +kernel
theorem d_R_readFunctions_56 : decode prog_2_method_9_code 56 = .ok (.iload_n 3, 1) := by decide +kernel
theorem d_R_readFunctions_57 : decode prog_2_method_9_code 57 = .ok (.iconst 5, 1) := by decide +kernel
theorem d_R_readFunctions_58 : decode prog_2_method_9_code 58 = .ok (.iadd, 1) := by decide +kernel
theorem d_R_readFunctions_59 : decode prog_2_method_9_code 59 = .ok (.iconst (-1), 1) := by decide +kernel
theorem d_R_readFunctions_60 : decode prog_2_method_9_code 60 = .ok (.iastore, 1) := by decide +kernel
theorem d_R_readFunctions_61 : decode prog_2_method_9_code 61 = .ok (.aload_n 0, 1) := by decide +kernel
theorem d_R_readFunctions_62 : decode prog_2_method_9_code 62 = .ok (.getfield 41, 3) := by decide +kernel
theorem d_R_readFunctions_65 : decode prog_2_method_9_code 65 = .ok (.getfield 92, 3) := by decide +kernel
theorem d_R_readFunctions_68 : decode prog_2_method_9_code 68 = .ok (.iload_n 3, 1) := by decide +kernel
theorem d_R_readFunctions_69 : decode prog_2_method_9_code 69 = .ok (.bipush 6, 2) := by decide +kernel
theorem d_R_readFunctions_71 : decode prog_2_method_9_code 71 = .ok (.iadd, 1) := by decide +kernel
theorem d_R_readFunctions_72 : decode prog_2_method_9_code 72 = .ok (.iconst (-1), 1) := by decide +kernel
theorem d_R_readFunctions_73 : decode prog_2_method_9_code 73 = .ok (.iastore, 1) := by decide +kernel
theorem d_R_readFunctions_74 : decode prog_2_method_9_code 74 = .ok (.aload_n 0, 1) := by decide +kernel
theorem d_R_readFunctions_75 : decode prog_2_method_9_code 75 = .ok (.iload_n 2, 1) := by decide +kernel
theorem d_R_readFunctions_76 : decode prog_2_method_9_code 76 = .ok (.invokevirtual 95, 3) := by decide +kernel
theorem d_R_readFunctions_79 : decode prog_2_method_9_code 79 = .ok (.aload_n 0, 1) := by decide +kernel
theorem d_R_readFunctions_80 : decode prog_2_method_9_code 80 = .ok (.getfield 41, 3) := by decide +kernel
theorem d_R_readFunctions_83 : decode prog_2_method_9_code 83 = .ok (.getfield 92, 3) := by decide +kernel
theorem d_R_readFunctions_86 : decode prog_2_method_9_code 86 = .ok (.iload_n 3, 1) := by decide +kernel
theorem d_R_readFunctions_87 : decode prog_2_method_9_code 87 = .ok (.iconst 3, 1) := by decide +kernel
theorem d_R_readFunctions_88 : decode prog_2_method_9_code 88 = .ok (.iadd, 1) := by decide +kernel
theorem d_R_readFunctions_89 : decode prog_2_method_9_code 89 = .ok (.aload_n 0, 1) := by decide +kernel
theorem d_R_readFunctions_90 : decode prog_2_method_9_code 90 = .ok (.aload_n 0, 1) := by decide +kernel
theorem d_R_readFunctions_91 : decode prog_2_method_9_code 91 = .ok (.getfield 41, 3) := by decide +kernel
theorem d_R_readFunctions_94 : decode prog_2_method_9_code 94 = .ok (.getfield 102, 3) := by decide +kernel
theorem d_R_readFunctions_97 : decode prog_2_method_9_code 97 = .ok (.iload_n 2, 1) := by decide +kernel
theorem d_R_readFunctions_98 : decode prog_2_method_9_code 98 = .ok (.iconst 2, 1) := by decide +kernel
theorem d_R_readFunctions_99 : decode prog_2_method_9_code 99 = .ok (.invokestatic 105, 3) := by decide +kernel
theorem d_R_readFunctions_102 : decode prog_2_method_9_code 102 = .ok (.iconst 0, 1) := by decide +kernel
theorem d_R_readFunctions_103 : decode prog_2_method_9_code 103 = .ok (.bipush 32, 2) := by decide +kernel
theorem d_R_readFunctions_105 : decode prog_2_method_9_code 105 = .ok (.iconst 1, 1) := by decide +kernel
theorem d_R_readFunctions_106 : decode prog_2_method_9_code 106 = .ok (.invokevirtual 88, 3) := by decide +kernel
theorem d_R_readFunctions_109 : decode prog_2_method_9_code 109 = .ok (.iastore, 1) := by decide +kernel
theorem d_R_readFunctions_110 : decode prog_2_method_9_code 110 = .ok (.aload_n 0, 1) := by decide +kernel
theorem d_R_readFunctions_111 : decode prog_2_method_9_code 111 = .ok (.iload_n 2, 1) := by decide +kernel
theorem d_R_readFunctions_112 : decode prog_2_method_9_code 112 = .ok (.invokevirtual 109, 3) := by decide +kernel
theorem d_R_readFunctions_115 : decode prog_2_method_9_code 115 = .ok (.iinc 2 1, 3) := by decide +kernel
theorem d_R_readFunctions_118 : decode prog_2_method_9_code 118 = .ok (.goto (-86), 3) := by decide +kernel
theorem d_R_readFunctions_121 : decode prog_2_method_9_code 121 = .ok (.return_, 1) := by decide +kernel
abbrev T_R_readFunctions : List (Nat × ct_PT) := [(0, o_aload 0 1), (1, o_push (.int 1) 1), (2, o_push (.int 0) 1), (3, o_push (.int 64) 2), (8, o_istore 1 1), (9, o_aload 0 1), (10, o_getR 2 9 0), (13, o_getR 1 10 0), (16, o_push (.int 5) 1), (17, o_iload 1 1), (18, o_iast), (19, o_aload 0 1), (20, o_getR 2 9 0), (23, o_getR 1 10 0), (26, o_push (.int 6) 2), (28, o_push (.int 0) 1), (29, o_iast), (30, o_push (.int 0) 1), (31, o_istore 2 1), (32, o_iload 2 1), (33, o_iload 1 1), (34, o_ic (fun x y => y ≤ x) (fun x y => ¬ y ≤ x) 121), (37, o_aload 0 1), (38, o_getI 2 9 7), (41, o_if (fun x => ¬ x = 0) (fun x => x = 0) 121), (44, o_iload 2 1), (45, o_push (.int 7) 2), (47, o_ii fun x y => x * y), (48, o_istore 3 1), (49, o_aload 0 1), (50, o_getR 2 9 0), (53, o_getR 1 10 3), (56, o_iload 3 1), (57, o_push (.int 5) 1), (58, o_ii fun x y => x + y), (59, o_push (.int (-1)) 1), (60, o_iast), (61, o_aload 0 1), (62, o_getR 2 9 0), (65, o_getR 1 10 3), (68, o_iload 3 1), (69, o_push (.int 6) 2), (71, o_ii fun x y => x + y), (72, o_push (.int (-1)) 1), (73, o_iast), (74, o_aload 0 1), (75, o_iload 2 1), (79, o_aload 0 1), (80, o_getR 2 9 0), (83, o_getR 1 10 3), (86, o_iload 3 1), (87, o_push (.int 3) 1), (88, o_ii fun x y => x + y), (89, o_aload 0 1), (90, o_aload 0 1), (91, o_getR 2 9 0), (94, o_getR 1 10 4), (97, o_iload 2 1), (98, o_push (.int 2) 1), (102, o_push (.int 0) 1), (103, o_push (.int 32) 2), (105, o_push (.int 1) 1), (109, o_iast), (110, o_aload 0 1), (111, o_iload 2 1), (115, o_iinc 2 1), (118, o_goto 32)]
set_option maxRecDepth 100000 in
theorem A_R_readFunctions (l : ct_Lx) : ct_al l M_R_readFunctions (T_R_readFunctions) := by
  refine ct_al.cons (so_aload_n d_R_readFunctions_0 rfl) ?_
  refine ct_al.cons (so_iconst d_R_readFunctions_1 (by decide)) ?_
  refine ct_al.cons (so_iconst d_R_readFunctions_2 (by decide)) ?_
  refine ct_al.cons (so_bipush d_R_readFunctions_3 (by decide)) ?_
  refine ct_al.cons (so_istore_n d_R_readFunctions_8 rfl (by decide)) ?_
  refine ct_al.cons (so_aload_n d_R_readFunctions_9 rfl) ?_
  refine ct_al.cons (so_getR (Cn := "CodeTables$Reader") (T := ct_T2) kc_2 (by decide) rfl rfl wd_55 d_R_readFunctions_10) ?_
  refine ct_al.cons (so_getR (Cn := "CodeTables$Tables") (T := ct_T1) kc_1 (by decide) rfl rfl wd_62 d_R_readFunctions_13) ?_
  refine ct_al.cons (so_iconst d_R_readFunctions_16 (by decide)) ?_
  refine ct_al.cons (so_iload_n d_R_readFunctions_17 rfl) ?_
  refine ct_al.cons (so_iast d_R_readFunctions_18) ?_
  refine ct_al.cons (so_aload_n d_R_readFunctions_19 rfl) ?_
  refine ct_al.cons (so_getR (Cn := "CodeTables$Reader") (T := ct_T2) kc_2 (by decide) rfl rfl wd_55 d_R_readFunctions_20) ?_
  refine ct_al.cons (so_getR (Cn := "CodeTables$Tables") (T := ct_T1) kc_1 (by decide) rfl rfl wd_62 d_R_readFunctions_23) ?_
  refine ct_al.cons (so_bipush d_R_readFunctions_26 (by decide)) ?_
  refine ct_al.cons (so_iconst d_R_readFunctions_28 (by decide)) ?_
  refine ct_al.cons (so_iast d_R_readFunctions_29) ?_
  refine ct_al.cons (so_iconst d_R_readFunctions_30 (by decide)) ?_
  refine ct_al.cons (so_istore_n d_R_readFunctions_31 rfl (by decide)) ?_
  refine ct_al.cons (so_iload_n d_R_readFunctions_32 rfl) ?_
  refine ct_al.cons (so_iload_n d_R_readFunctions_33 rfl) ?_
  refine ct_al.cons (so_ic_ge d_R_readFunctions_34 (by decide)) ?_
  refine ct_al.cons (so_aload_n d_R_readFunctions_37 rfl) ?_
  refine ct_al.cons (so_getI (Cn := "CodeTables$Reader") (T := ct_T2) kc_2 (by decide) rfl rfl wd_53 d_R_readFunctions_38) ?_
  refine ct_al.cons (so_if_ne d_R_readFunctions_41 (by decide)) ?_
  refine ct_al.cons (so_iload_n d_R_readFunctions_44 rfl) ?_
  refine ct_al.cons (so_bipush d_R_readFunctions_45 (by decide)) ?_
  refine ct_al.cons (so_imul d_R_readFunctions_47) ?_
  refine ct_al.cons (so_istore_n d_R_readFunctions_48 rfl (by decide)) ?_
  refine ct_al.cons (so_aload_n d_R_readFunctions_49 rfl) ?_
  refine ct_al.cons (so_getR (Cn := "CodeTables$Reader") (T := ct_T2) kc_2 (by decide) rfl rfl wd_55 d_R_readFunctions_50) ?_
  refine ct_al.cons (so_getR (Cn := "CodeTables$Tables") (T := ct_T1) kc_1 (by decide) rfl rfl wd_110 d_R_readFunctions_53) ?_
  refine ct_al.cons (so_iload_n d_R_readFunctions_56 rfl) ?_
  refine ct_al.cons (so_iconst d_R_readFunctions_57 (by decide)) ?_
  refine ct_al.cons (so_iadd d_R_readFunctions_58) ?_
  refine ct_al.cons (so_iconst d_R_readFunctions_59 (by decide)) ?_
  refine ct_al.cons (so_iast d_R_readFunctions_60) ?_
  refine ct_al.cons (so_aload_n d_R_readFunctions_61 rfl) ?_
  refine ct_al.cons (so_getR (Cn := "CodeTables$Reader") (T := ct_T2) kc_2 (by decide) rfl rfl wd_55 d_R_readFunctions_62) ?_
  refine ct_al.cons (so_getR (Cn := "CodeTables$Tables") (T := ct_T1) kc_1 (by decide) rfl rfl wd_110 d_R_readFunctions_65) ?_
  refine ct_al.cons (so_iload_n d_R_readFunctions_68 rfl) ?_
  refine ct_al.cons (so_bipush d_R_readFunctions_69 (by decide)) ?_
  refine ct_al.cons (so_iadd d_R_readFunctions_71) ?_
  refine ct_al.cons (so_iconst d_R_readFunctions_72 (by decide)) ?_
  refine ct_al.cons (so_iast d_R_readFunctions_73) ?_
  refine ct_al.cons (so_aload_n d_R_readFunctions_74 rfl) ?_
  refine ct_al.cons (so_iload_n d_R_readFunctions_75 rfl) ?_
  refine ct_al.cons (so_aload_n d_R_readFunctions_79 rfl) ?_
  refine ct_al.cons (so_getR (Cn := "CodeTables$Reader") (T := ct_T2) kc_2 (by decide) rfl rfl wd_55 d_R_readFunctions_80) ?_
  refine ct_al.cons (so_getR (Cn := "CodeTables$Tables") (T := ct_T1) kc_1 (by decide) rfl rfl wd_110 d_R_readFunctions_83) ?_
  refine ct_al.cons (so_iload_n d_R_readFunctions_86 rfl) ?_
  refine ct_al.cons (so_iconst d_R_readFunctions_87 (by decide)) ?_
  refine ct_al.cons (so_iadd d_R_readFunctions_88) ?_
  refine ct_al.cons (so_aload_n d_R_readFunctions_89 rfl) ?_
  refine ct_al.cons (so_aload_n d_R_readFunctions_90 rfl) ?_
  refine ct_al.cons (so_getR (Cn := "CodeTables$Reader") (T := ct_T2) kc_2 (by decide) rfl rfl wd_55 d_R_readFunctions_91) ?_
  refine ct_al.cons (so_getR (Cn := "CodeTables$Tables") (T := ct_T1) kc_1 (by decide) rfl rfl wd_117 d_R_readFunctions_94) ?_
  refine ct_al.cons (so_iload_n d_R_readFunctions_97 rfl) ?_
  refine ct_al.cons (so_iconst d_R_readFunctions_98 (by decide)) ?_
  refine ct_al.cons (so_iconst d_R_readFunctions_102 (by decide)) ?_
  refine ct_al.cons (so_bipush d_R_readFunctions_103 (by decide)) ?_
  refine ct_al.cons (so_iconst d_R_readFunctions_105 (by decide)) ?_
  refine ct_al.cons (so_iast d_R_readFunctions_109) ?_
  refine ct_al.cons (so_aload_n d_R_readFunctions_110 rfl) ?_
  refine ct_al.cons (so_iload_n d_R_readFunctions_111 rfl) ?_
  refine ct_al.cons (so_iinc d_R_readFunctions_115 (by decide) (by decide)) ?_
  refine ct_al.cons (so_goto d_R_readFunctions_118 (by decide)) ?_
  exact ct_al.nil
theorem e_R_readFunctions_0 : ct_tab (T_R_readFunctions) 0 = some (o_aload 0 1) := rfl
theorem e_R_readFunctions_1 : ct_tab (T_R_readFunctions) 1 = some (o_push (.int 1) 1) := rfl
theorem e_R_readFunctions_2 : ct_tab (T_R_readFunctions) 2 = some (o_push (.int 0) 1) := rfl
theorem e_R_readFunctions_3 : ct_tab (T_R_readFunctions) 3 = some (o_push (.int 64) 2) := rfl
theorem e_R_readFunctions_8 : ct_tab (T_R_readFunctions) 8 = some (o_istore 1 1) := rfl
theorem e_R_readFunctions_9 : ct_tab (T_R_readFunctions) 9 = some (o_aload 0 1) := rfl
theorem e_R_readFunctions_10 : ct_tab (T_R_readFunctions) 10 = some (o_getR 2 9 0) := rfl
theorem e_R_readFunctions_13 : ct_tab (T_R_readFunctions) 13 = some (o_getR 1 10 0) := rfl
theorem e_R_readFunctions_16 : ct_tab (T_R_readFunctions) 16 = some (o_push (.int 5) 1) := rfl
theorem e_R_readFunctions_17 : ct_tab (T_R_readFunctions) 17 = some (o_iload 1 1) := rfl
theorem e_R_readFunctions_18 : ct_tab (T_R_readFunctions) 18 = some (o_iast) := rfl
theorem e_R_readFunctions_19 : ct_tab (T_R_readFunctions) 19 = some (o_aload 0 1) := rfl
theorem e_R_readFunctions_20 : ct_tab (T_R_readFunctions) 20 = some (o_getR 2 9 0) := rfl
theorem e_R_readFunctions_23 : ct_tab (T_R_readFunctions) 23 = some (o_getR 1 10 0) := rfl
theorem e_R_readFunctions_26 : ct_tab (T_R_readFunctions) 26 = some (o_push (.int 6) 2) := rfl
theorem e_R_readFunctions_28 : ct_tab (T_R_readFunctions) 28 = some (o_push (.int 0) 1) := rfl
theorem e_R_readFunctions_29 : ct_tab (T_R_readFunctions) 29 = some (o_iast) := rfl
theorem e_R_readFunctions_30 : ct_tab (T_R_readFunctions) 30 = some (o_push (.int 0) 1) := rfl
theorem e_R_readFunctions_31 : ct_tab (T_R_readFunctions) 31 = some (o_istore 2 1) := rfl
theorem e_R_readFunctions_32 : ct_tab (T_R_readFunctions) 32 = some (o_iload 2 1) := rfl
theorem e_R_readFunctions_33 : ct_tab (T_R_readFunctions) 33 = some (o_iload 1 1) := rfl
theorem e_R_readFunctions_34 : ct_tab (T_R_readFunctions) 34 = some (o_ic (fun x y => y ≤ x) (fun x y => ¬ y ≤ x) 121) := rfl
theorem e_R_readFunctions_37 : ct_tab (T_R_readFunctions) 37 = some (o_aload 0 1) := rfl
theorem e_R_readFunctions_38 : ct_tab (T_R_readFunctions) 38 = some (o_getI 2 9 7) := rfl
theorem e_R_readFunctions_41 : ct_tab (T_R_readFunctions) 41 = some (o_if (fun x => ¬ x = 0) (fun x => x = 0) 121) := rfl
theorem e_R_readFunctions_44 : ct_tab (T_R_readFunctions) 44 = some (o_iload 2 1) := rfl
theorem e_R_readFunctions_45 : ct_tab (T_R_readFunctions) 45 = some (o_push (.int 7) 2) := rfl
theorem e_R_readFunctions_47 : ct_tab (T_R_readFunctions) 47 = some (o_ii fun x y => x * y) := rfl
theorem e_R_readFunctions_48 : ct_tab (T_R_readFunctions) 48 = some (o_istore 3 1) := rfl
theorem e_R_readFunctions_49 : ct_tab (T_R_readFunctions) 49 = some (o_aload 0 1) := rfl
theorem e_R_readFunctions_50 : ct_tab (T_R_readFunctions) 50 = some (o_getR 2 9 0) := rfl
theorem e_R_readFunctions_53 : ct_tab (T_R_readFunctions) 53 = some (o_getR 1 10 3) := rfl
theorem e_R_readFunctions_56 : ct_tab (T_R_readFunctions) 56 = some (o_iload 3 1) := rfl
theorem e_R_readFunctions_57 : ct_tab (T_R_readFunctions) 57 = some (o_push (.int 5) 1) := rfl
theorem e_R_readFunctions_58 : ct_tab (T_R_readFunctions) 58 = some (o_ii fun x y => x + y) := rfl
theorem e_R_readFunctions_59 : ct_tab (T_R_readFunctions) 59 = some (o_push (.int (-1)) 1) := rfl
theorem e_R_readFunctions_60 : ct_tab (T_R_readFunctions) 60 = some (o_iast) := rfl
theorem e_R_readFunctions_61 : ct_tab (T_R_readFunctions) 61 = some (o_aload 0 1) := rfl
theorem e_R_readFunctions_62 : ct_tab (T_R_readFunctions) 62 = some (o_getR 2 9 0) := rfl
theorem e_R_readFunctions_65 : ct_tab (T_R_readFunctions) 65 = some (o_getR 1 10 3) := rfl
theorem e_R_readFunctions_68 : ct_tab (T_R_readFunctions) 68 = some (o_iload 3 1) := rfl
theorem e_R_readFunctions_69 : ct_tab (T_R_readFunctions) 69 = some (o_push (.int 6) 2) := rfl
theorem e_R_readFunctions_71 : ct_tab (T_R_readFunctions) 71 = some (o_ii fun x y => x + y) := rfl
theorem e_R_readFunctions_72 : ct_tab (T_R_readFunctions) 72 = some (o_push (.int (-1)) 1) := rfl
theorem e_R_readFunctions_73 : ct_tab (T_R_readFunctions) 73 = some (o_iast) := rfl
theorem e_R_readFunctions_74 : ct_tab (T_R_readFunctions) 74 = some (o_aload 0 1) := rfl
theorem e_R_readFunctions_75 : ct_tab (T_R_readFunctions) 75 = some (o_iload 2 1) := rfl
theorem e_R_readFunctions_79 : ct_tab (T_R_readFunctions) 79 = some (o_aload 0 1) := rfl
theorem e_R_readFunctions_80 : ct_tab (T_R_readFunctions) 80 = some (o_getR 2 9 0) := rfl
theorem e_R_readFunctions_83 : ct_tab (T_R_readFunctions) 83 = some (o_getR 1 10 3) := rfl
theorem e_R_readFunctions_86 : ct_tab (T_R_readFunctions) 86 = some (o_iload 3 1) := rfl
theorem e_R_readFunctions_87 : ct_tab (T_R_readFunctions) 87 = some (o_push (.int 3) 1) := rfl
theorem e_R_readFunctions_88 : ct_tab (T_R_readFunctions) 88 = some (o_ii fun x y => x + y) := rfl
theorem e_R_readFunctions_89 : ct_tab (T_R_readFunctions) 89 = some (o_aload 0 1) := rfl
theorem e_R_readFunctions_90 : ct_tab (T_R_readFunctions) 90 = some (o_aload 0 1) := rfl
theorem e_R_readFunctions_91 : ct_tab (T_R_readFunctions) 91 = some (o_getR 2 9 0) := rfl
theorem e_R_readFunctions_94 : ct_tab (T_R_readFunctions) 94 = some (o_getR 1 10 4) := rfl
theorem e_R_readFunctions_97 : ct_tab (T_R_readFunctions) 97 = some (o_iload 2 1) := rfl
theorem e_R_readFunctions_98 : ct_tab (T_R_readFunctions) 98 = some (o_push (.int 2) 1) := rfl
theorem e_R_readFunctions_102 : ct_tab (T_R_readFunctions) 102 = some (o_push (.int 0) 1) := rfl
theorem e_R_readFunctions_103 : ct_tab (T_R_readFunctions) 103 = some (o_push (.int 32) 2) := rfl
theorem e_R_readFunctions_105 : ct_tab (T_R_readFunctions) 105 = some (o_push (.int 1) 1) := rfl
theorem e_R_readFunctions_109 : ct_tab (T_R_readFunctions) 109 = some (o_iast) := rfl
theorem e_R_readFunctions_110 : ct_tab (T_R_readFunctions) 110 = some (o_aload 0 1) := rfl
theorem e_R_readFunctions_111 : ct_tab (T_R_readFunctions) 111 = some (o_iload 2 1) := rfl
theorem e_R_readFunctions_115 : ct_tab (T_R_readFunctions) 115 = some (o_iinc 2 1) := rfl
theorem e_R_readFunctions_118 : ct_tab (T_R_readFunctions) 118 = some (o_goto 32) := rfl
theorem cl_R_readFunctions_5 {l : ct_Lx} {d d1 : Nat} {Post Post1 : Option Value → ct_Sg → Prop} {lv : ct_Lv} {st : List Value} {g : ct_Sg} {bc bs c1 s1 : Nat} {a1 a2 a3 : Value} {h : Nat} (hsh : g.2.1 h = (10 + 2, 9)) (hM : ct_Me l M_R_takeWithin d1 c1 s1 [.ref h, a1, a2, a3] g Post1) (hdd : d1 + 1 ≤ d) (hk : (st.map fun v => v.category).sum ≤ 8) (hcc : c1 ≤ bc) (hss : s1 ≤ bs) (kk : ∀ (v : Option Value) (g' : ct_Sg), Post1 v g' → ct_Wp l M_R_readFunctions d Post (8, lv, v.toList ++ st, g', bc - c1, bs - s1)) : ct_Wp l M_R_readFunctions d Post (5, lv, a3 :: a2 :: a1 :: .ref h :: st, g, bc, bs) := ct_Wp.callV (ci := 2) (N := 9) (T := ct_T2) (As := [a1, a2, a3]) lk_R_takeWithin (Or.inl wd_100) wd_101 wd_102 rfl d_R_readFunctions_5 hsh hM rfl hdd hk hcc hss kk
theorem cl_R_readFunctions_76 {l : ct_Lx} {d d1 : Nat} {Post Post1 : Option Value → ct_Sg → Prop} {lv : ct_Lv} {st : List Value} {g : ct_Sg} {bc bs c1 s1 : Nat} {a1 : Value} {h : Nat} (hsh : g.2.1 h = (10 + 2, 9)) (hM : ct_Me l M_R_readFlagsAndLists d1 c1 s1 [.ref h, a1] g Post1) (hdd : d1 + 1 ≤ d) (hk : (st.map fun v => v.category).sum ≤ 8) (hcc : c1 ≤ bc) (hss : s1 ≤ bs) (kk : ∀ (v : Option Value) (g' : ct_Sg), Post1 v g' → ct_Wp l M_R_readFunctions d Post (79, lv, v.toList ++ st, g', bc - c1, bs - s1)) : ct_Wp l M_R_readFunctions d Post (76, lv, a1 :: .ref h :: st, g, bc, bs) := ct_Wp.callV (ci := 2) (N := 9) (T := ct_T2) (As := [a1]) lk_R_readFlagsAndLists (Or.inl wd_113) wd_114 wd_115 rfl d_R_readFunctions_76 hsh hM rfl hdd hk hcc hss kk
theorem cl_R_readFunctions_99 {l : ct_Lx} {d d1 : Nat} {Post Post1 : Option Value → ct_Sg → Prop} {lv : ct_Lv} {st : List Value} {g : ct_Sg} {bc bs c1 s1 : Nat} {a1 a2 : Value} (hM : ct_Me l M_T_listStart d1 c1 s1 [a1, a2] g Post1) (hdd : d1 + 1 ≤ d) (hk : (st.map fun v => v.category).sum ≤ 8) (hcc : c1 ≤ bc) (hss : s1 ≤ bs) (kk : ∀ (v : Option Value) (g' : ct_Sg), Post1 v g' → ct_Wp l M_R_readFunctions d Post (102, lv, v.toList ++ st, g', bc - c1, bs - s1)) : ct_Wp l M_R_readFunctions d Post (99, lv, a2 :: a1 :: st, g, bc, bs) := ct_Wp.callS (As := [a1, a2]) lk_T_listStart (Or.inl wd_118) wd_45 d_R_readFunctions_99 hM rfl hdd hk hcc hss kk
theorem cl_R_readFunctions_106 {l : ct_Lx} {d d1 : Nat} {Post Post1 : Option Value → ct_Sg → Prop} {lv : ct_Lv} {st : List Value} {g : ct_Sg} {bc bs c1 s1 : Nat} {a1 a2 a3 a4 a5 : Value} {h : Nat} (hsh : g.2.1 h = (10 + 2, 9)) (hM : ct_Me l M_R_takeTypes d1 c1 s1 [.ref h, a1, a2, a3, a4, a5] g Post1) (hdd : d1 + 1 ≤ d) (hk : (st.map fun v => v.category).sum ≤ 8) (hcc : c1 ≤ bc) (hss : s1 ≤ bs) (kk : ∀ (v : Option Value) (g' : ct_Sg), Post1 v g' → ct_Wp l M_R_readFunctions d Post (109, lv, v.toList ++ st, g', bc - c1, bs - s1)) : ct_Wp l M_R_readFunctions d Post (106, lv, a5 :: a4 :: a3 :: a2 :: a1 :: .ref h :: st, g, bc, bs) := ct_Wp.callV (ci := 2) (N := 9) (T := ct_T2) (As := [a1, a2, a3, a4, a5]) lk_R_takeTypes (Or.inl wd_107) wd_108 wd_109 rfl d_R_readFunctions_106 hsh hM rfl hdd hk hcc hss kk
theorem cl_R_readFunctions_112 {l : ct_Lx} {d d1 : Nat} {Post Post1 : Option Value → ct_Sg → Prop} {lv : ct_Lv} {st : List Value} {g : ct_Sg} {bc bs c1 s1 : Nat} {a1 : Value} {h : Nat} (hsh : g.2.1 h = (10 + 2, 9)) (hM : ct_Me l M_R_readCode d1 c1 s1 [.ref h, a1] g Post1) (hdd : d1 + 1 ≤ d) (hk : (st.map fun v => v.category).sum ≤ 8) (hcc : c1 ≤ bc) (hss : s1 ≤ bs) (kk : ∀ (v : Option Value) (g' : ct_Sg), Post1 v g' → ct_Wp l M_R_readFunctions d Post (115, lv, v.toList ++ st, g', bc - c1, bs - s1)) : ct_Wp l M_R_readFunctions d Post (112, lv, a1 :: .ref h :: st, g, bc, bs) := ct_Wp.callV (ci := 2) (N := 9) (T := ct_T2) (As := [a1]) lk_R_readCode (Or.inl wd_121) wd_122 wd_123 rfl d_R_readFunctions_112 hsh hM rfl hdd hk hcc hss kk
theorem d_R_readFlagsAndLists_0 : decode prog_2_method_10_code 0 = .ok (.iload_n 1, 1) := by decide +kernel
theorem d_R_readFlagsAndLists_1 : decode prog_2_method_10_code 1 = .ok (.bipush 7, 2) := by decide +kernel
theorem d_R_readFlagsAndLists_3 : decode prog_2_method_10_code 3 = .ok (.imul, 1) := by decide +kernel
theorem d_R_readFlagsAndLists_4 : decode prog_2_method_10_code 4 = .ok (.istore_n 2, 1) := by decide +kernel
theorem d_R_readFlagsAndLists_5 : decode prog_2_method_10_code 5 = .ok (.aload_n 0, 1) := by decide +kernel
theorem d_R_readFlagsAndLists_6 : decode prog_2_method_10_code 6 = .ok (.getfield 41, 3) := by decide +kernel
theorem d_R_readFlagsAndLists_9 : decode prog_2_method_10_code 9 = .ok (.getfield 92, 3) := by decide +kernel
theorem d_R_readFlagsAndLists_12 : decode prog_2_method_10_code 12 = .ok (.iload_n 2, 1) := by decide +kernel
theorem d_R_readFlagsAndLists_13 : decode prog_2_method_10_code 13 = .ok (.iconst 0, 1) := by decide +kernel
theorem d_R_readFlagsAndLists_14 : decode prog_2_method_10_code 14 = .ok (.iadd, 1) := by decide +kernel
theorem d_R_readFlagsAndLists_15 : decode prog_2_method_10_code 15 = .ok (.aload_n 0, 1) := by decide +kernel
theorem d_R_readFlagsAndLists_16 : decode prog_2_method_10_code 16 = .ok (.iconst 1, 1) := by decide +kernel
theorem d_R_readFlagsAndLists_17 : decode prog_2_method_10_code 17 = .ok (.iconst 0, 1) := by decide +kernel
theorem d_R_readFlagsAndLists_18 : decode prog_2_method_10_code 18 = .ok (.bipush 7, 2) := by decide +kernel
theorem d_R_readFlagsAndLists_20 : decode prog_2_method_10_code 20 = .ok (.invokevirtual 77, 3) := by decide +kernel
theorem d_R_readFlagsAndLists_23 : decode prog_2_method_10_code 23 = .ok (.iastore, 1) := by decide +kernel
theorem d_R_readFlagsAndLists_24 : decode prog_2_method_10_code 24 = .ok (.aload_n 0, 1) := by decide +kernel
theorem d_R_readFlagsAndLists_25 : decode prog_2_method_10_code 25 = .ok (.getfield 41, 3) := by decide +kernel
theorem d_R_readFlagsAndLists_28 : decode prog_2_method_10_code 28 = .ok (.getfield 92, 3) := by decide +kernel
theorem d_R_readFlagsAndLists_31 : decode prog_2_method_10_code 31 = .ok (.iload_n 2, 1) := by decide +kernel
theorem d_R_readFlagsAndLists_32 : decode prog_2_method_10_code 32 = .ok (.iconst 1, 1) := by decide +kernel
theorem d_R_readFlagsAndLists_33 : decode prog_2_method_10_code 33 = .ok (.iadd, 1) := by decide +kernel
theorem d_R_readFlagsAndLists_34 : decode prog_2_method_10_code 34 = .ok (.aload_n 0, 1) := by decide +kernel
theorem d_R_readFlagsAndLists_35 : decode prog_2_method_10_code 35 = .ok (.aload_n 0, 1) := by decide +kernel
theorem d_R_readFlagsAndLists_36 : decode prog_2_method_10_code 36 = .ok (.getfield 41, 3) := by decide +kernel
theorem d_R_readFlagsAndLists_39 : decode prog_2_method_10_code 39 = .ok (.getfield 102, 3) := by decide +kernel
theorem d_R_readFlagsAndLists_42 : decode prog_2_method_10_code 42 = .ok (.iload_n 1, 1) := by decide +kernel
theorem d_R_readFlagsAndLists_43 : decode prog_2_method_10_code 43 = .ok (.iconst 0, 1) := by decide +kernel
theorem d_R_readFlagsAndLists_44 : decode prog_2_method_10_code 44 = .ok (.invokestatic 105, 3) := by decide +kernel
theorem d_R_readFlagsAndLists_47 : decode prog_2_method_10_code 47 = .ok (.iconst 0, 1) := by decide +kernel
theorem d_R_readFlagsAndLists_48 : decode prog_2_method_10_code 48 = .ok (.bipush 8, 2) := by decide +kernel
theorem d_R_readFlagsAndLists_50 : decode prog_2_method_10_code 50 = .ok (.iconst 1, 1) := by decide +kernel
theorem d_R_readFlagsAndLists_51 : decode prog_2_method_10_code 51 = .ok (.invokevirtual 88, 3) := by decide +kernel
theorem d_R_readFlagsAndLists_54 : decode prog_2_method_10_code 54 = .ok (.iastore, 1) := by decide +kernel
theorem d_R_readFlagsAndLists_55 : decode prog_2_method_10_code 55 = .ok (.aload_n 0, 1) := by decide +kernel
theorem d_R_readFlagsAndLists_56 : decode prog_2_method_10_code 56 = .ok (.getfield 41, 3) := by decide +kernel
theorem d_R_readFlagsAndLists_59 : decode prog_2_method_10_code 59 = .ok (.getfield 92, 3) := by decide +kernel
theorem d_R_readFlagsAndLists_62 : decode prog_2_method_10_code 62 = .ok (.iload_n 2, 1) := by decide +kernel
theorem d_R_readFlagsAndLists_63 : decode prog_2_method_10_code 63 = .ok (.iconst 2, 1) := by decide +kernel
theorem d_R_readFlagsAndLists_64 : decode prog_2_method_10_code 64 = .ok (.iadd, 1) := by decide +kernel
theorem d_R_readFlagsAndLists_65 : decode prog_2_method_10_code 65 = .ok (.aload_n 0, 1) := by decide +kernel
theorem d_R_readFlagsAndLists_66 : decode prog_2_method_10_code 66 = .ok (.aload_n 0, 1) := by decide +kernel
theorem d_R_readFlagsAndLists_67 : decode prog_2_method_10_code 67 = .ok (.getfield 41, 3) := by decide +kernel
theorem d_R_readFlagsAndLists_70 : decode prog_2_method_10_code 70 = .ok (.getfield 102, 3) := by decide +kernel
theorem d_R_readFlagsAndLists_73 : decode prog_2_method_10_code 73 = .ok (.iload_n 1, 1) := by decide +kernel
theorem d_R_readFlagsAndLists_74 : decode prog_2_method_10_code 74 = .ok (.iconst 1, 1) := by decide +kernel
theorem d_R_readFlagsAndLists_75 : decode prog_2_method_10_code 75 = .ok (.invokestatic 105, 3) := by decide +kernel
theorem d_R_readFlagsAndLists_78 : decode prog_2_method_10_code 78 = .ok (.iconst 0, 1) := by decide +kernel
theorem d_R_readFlagsAndLists_79 : decode prog_2_method_10_code 79 = .ok (.bipush 8, 2) := by decide +kernel
theorem d_R_readFlagsAndLists_81 : decode prog_2_method_10_code 81 = .ok (.iconst 1, 1) := by decide +kernel
theorem d_R_readFlagsAndLists_82 : decode prog_2_method_10_code 82 = .ok (.invokevirtual 88, 3) := by decide +kernel
theorem d_R_readFlagsAndLists_85 : decode prog_2_method_10_code 85 = .ok (.iastore, 1) := by decide +kernel
theorem d_R_readFlagsAndLists_86 : decode prog_2_method_10_code 86 = .ok (.return_, 1) := by decide +kernel
abbrev T_R_readFlagsAndLists : List (Nat × ct_PT) := [(0, o_iload 1 1), (1, o_push (.int 7) 2), (3, o_ii fun x y => x * y), (4, o_istore 2 1), (5, o_aload 0 1), (6, o_getR 2 9 0), (9, o_getR 1 10 3), (12, o_iload 2 1), (13, o_push (.int 0) 1), (14, o_ii fun x y => x + y), (15, o_aload 0 1), (16, o_push (.int 1) 1), (17, o_push (.int 0) 1), (18, o_push (.int 7) 2), (23, o_iast), (24, o_aload 0 1), (25, o_getR 2 9 0), (28, o_getR 1 10 3), (31, o_iload 2 1), (32, o_push (.int 1) 1), (33, o_ii fun x y => x + y), (34, o_aload 0 1), (35, o_aload 0 1), (36, o_getR 2 9 0), (39, o_getR 1 10 4), (42, o_iload 1 1), (43, o_push (.int 0) 1), (47, o_push (.int 0) 1), (48, o_push (.int 8) 2), (50, o_push (.int 1) 1), (54, o_iast), (55, o_aload 0 1), (56, o_getR 2 9 0), (59, o_getR 1 10 3), (62, o_iload 2 1), (63, o_push (.int 2) 1), (64, o_ii fun x y => x + y), (65, o_aload 0 1), (66, o_aload 0 1), (67, o_getR 2 9 0), (70, o_getR 1 10 4), (73, o_iload 1 1), (74, o_push (.int 1) 1), (78, o_push (.int 0) 1), (79, o_push (.int 8) 2), (81, o_push (.int 1) 1), (85, o_iast)]
set_option maxRecDepth 100000 in
theorem A_R_readFlagsAndLists (l : ct_Lx) : ct_al l M_R_readFlagsAndLists (T_R_readFlagsAndLists) := by
  refine ct_al.cons (so_iload_n d_R_readFlagsAndLists_0 rfl) ?_
  refine ct_al.cons (so_bipush d_R_readFlagsAndLists_1 (by decide)) ?_
  refine ct_al.cons (so_imul d_R_readFlagsAndLists_3) ?_
  refine ct_al.cons (so_istore_n d_R_readFlagsAndLists_4 rfl (by decide)) ?_
  refine ct_al.cons (so_aload_n d_R_readFlagsAndLists_5 rfl) ?_
  refine ct_al.cons (so_getR (Cn := "CodeTables$Reader") (T := ct_T2) kc_2 (by decide) rfl rfl wd_55 d_R_readFlagsAndLists_6) ?_
  refine ct_al.cons (so_getR (Cn := "CodeTables$Tables") (T := ct_T1) kc_1 (by decide) rfl rfl wd_110 d_R_readFlagsAndLists_9) ?_
  refine ct_al.cons (so_iload_n d_R_readFlagsAndLists_12 rfl) ?_
  refine ct_al.cons (so_iconst d_R_readFlagsAndLists_13 (by decide)) ?_
  refine ct_al.cons (so_iadd d_R_readFlagsAndLists_14) ?_
  refine ct_al.cons (so_aload_n d_R_readFlagsAndLists_15 rfl) ?_
  refine ct_al.cons (so_iconst d_R_readFlagsAndLists_16 (by decide)) ?_
  refine ct_al.cons (so_iconst d_R_readFlagsAndLists_17 (by decide)) ?_
  refine ct_al.cons (so_bipush d_R_readFlagsAndLists_18 (by decide)) ?_
  refine ct_al.cons (so_iast d_R_readFlagsAndLists_23) ?_
  refine ct_al.cons (so_aload_n d_R_readFlagsAndLists_24 rfl) ?_
  refine ct_al.cons (so_getR (Cn := "CodeTables$Reader") (T := ct_T2) kc_2 (by decide) rfl rfl wd_55 d_R_readFlagsAndLists_25) ?_
  refine ct_al.cons (so_getR (Cn := "CodeTables$Tables") (T := ct_T1) kc_1 (by decide) rfl rfl wd_110 d_R_readFlagsAndLists_28) ?_
  refine ct_al.cons (so_iload_n d_R_readFlagsAndLists_31 rfl) ?_
  refine ct_al.cons (so_iconst d_R_readFlagsAndLists_32 (by decide)) ?_
  refine ct_al.cons (so_iadd d_R_readFlagsAndLists_33) ?_
  refine ct_al.cons (so_aload_n d_R_readFlagsAndLists_34 rfl) ?_
  refine ct_al.cons (so_aload_n d_R_readFlagsAndLists_35 rfl) ?_
  refine ct_al.cons (so_getR (Cn := "CodeTables$Reader") (T := ct_T2) kc_2 (by decide) rfl rfl wd_55 d_R_readFlagsAndLists_36) ?_
  refine ct_al.cons (so_getR (Cn := "CodeTables$Tables") (T := ct_T1) kc_1 (by decide) rfl rfl wd_117 d_R_readFlagsAndLists_39) ?_
  refine ct_al.cons (so_iload_n d_R_readFlagsAndLists_42 rfl) ?_
  refine ct_al.cons (so_iconst d_R_readFlagsAndLists_43 (by decide)) ?_
  refine ct_al.cons (so_iconst d_R_readFlagsAndLists_47 (by decide)) ?_
  refine ct_al.cons (so_bipush d_R_readFlagsAndLists_48 (by decide)) ?_
  refine ct_al.cons (so_iconst d_R_readFlagsAndLists_50 (by decide)) ?_
  refine ct_al.cons (so_iast d_R_readFlagsAndLists_54) ?_
  refine ct_al.cons (so_aload_n d_R_readFlagsAndLists_55 rfl) ?_
  refine ct_al.cons (so_getR (Cn := "CodeTables$Reader") (T := ct_T2) kc_2 (by decide) rfl rfl wd_55 d_R_readFlagsAndLists_56) ?_
  refine ct_al.cons (so_getR (Cn := "CodeTables$Tables") (T := ct_T1) kc_1 (by decide) rfl rfl wd_110 d_R_readFlagsAndLists_59) ?_
  refine ct_al.cons (so_iload_n d_R_readFlagsAndLists_62 rfl) ?_
  refine ct_al.cons (so_iconst d_R_readFlagsAndLists_63 (by decide)) ?_
  refine ct_al.cons (so_iadd d_R_readFlagsAndLists_64) ?_
  refine ct_al.cons (so_aload_n d_R_readFlagsAndLists_65 rfl) ?_
  refine ct_al.cons (so_aload_n d_R_readFlagsAndLists_66 rfl) ?_
  refine ct_al.cons (so_getR (Cn := "CodeTables$Reader") (T := ct_T2) kc_2 (by decide) rfl rfl wd_55 d_R_readFlagsAndLists_67) ?_
  refine ct_al.cons (so_getR (Cn := "CodeTables$Tables") (T := ct_T1) kc_1 (by decide) rfl rfl wd_117 d_R_readFlagsAndLists_70) ?_
  refine ct_al.cons (so_iload_n d_R_readFlagsAndLists_73 rfl) ?_
  refine ct_al.cons (so_iconst d_R_readFlagsAndLists_74 (by decide)) ?_
  refine ct_al.cons (so_iconst d_R_readFlagsAndLists_78 (by decide)) ?_
  refine ct_al.cons (so_bipush d_R_readFlagsAndLists_79 (by decide)) ?_
  refine ct_al.cons (so_iconst d_R_readFlagsAndLists_81 (by decide)) ?_
  refine ct_al.cons (so_iast d_R_readFlagsAndLists_85) ?_
  exact ct_al.nil
theorem e_R_readFlagsAndLists_0 : ct_tab (T_R_readFlagsAndLists) 0 = some (o_iload 1 1) := rfl
theorem e_R_readFlagsAndLists_1 : ct_tab (T_R_readFlagsAndLists) 1 = some (o_push (.int 7) 2) := rfl
theorem e_R_readFlagsAndLists_3 : ct_tab (T_R_readFlagsAndLists) 3 = some (o_ii fun x y => x * y) := rfl
theorem e_R_readFlagsAndLists_4 : ct_tab (T_R_readFlagsAndLists) 4 = some (o_istore 2 1) := rfl
theorem e_R_readFlagsAndLists_5 : ct_tab (T_R_readFlagsAndLists) 5 = some (o_aload 0 1) := rfl
theorem e_R_readFlagsAndLists_6 : ct_tab (T_R_readFlagsAndLists) 6 = some (o_getR 2 9 0) := rfl
theorem e_R_readFlagsAndLists_9 : ct_tab (T_R_readFlagsAndLists) 9 = some (o_getR 1 10 3) := rfl
theorem e_R_readFlagsAndLists_12 : ct_tab (T_R_readFlagsAndLists) 12 = some (o_iload 2 1) := rfl
theorem e_R_readFlagsAndLists_13 : ct_tab (T_R_readFlagsAndLists) 13 = some (o_push (.int 0) 1) := rfl
theorem e_R_readFlagsAndLists_14 : ct_tab (T_R_readFlagsAndLists) 14 = some (o_ii fun x y => x + y) := rfl
theorem e_R_readFlagsAndLists_15 : ct_tab (T_R_readFlagsAndLists) 15 = some (o_aload 0 1) := rfl
theorem e_R_readFlagsAndLists_16 : ct_tab (T_R_readFlagsAndLists) 16 = some (o_push (.int 1) 1) := rfl
theorem e_R_readFlagsAndLists_17 : ct_tab (T_R_readFlagsAndLists) 17 = some (o_push (.int 0) 1) := rfl
theorem e_R_readFlagsAndLists_18 : ct_tab (T_R_readFlagsAndLists) 18 = some (o_push (.int 7) 2) := rfl
theorem e_R_readFlagsAndLists_23 : ct_tab (T_R_readFlagsAndLists) 23 = some (o_iast) := rfl
theorem e_R_readFlagsAndLists_24 : ct_tab (T_R_readFlagsAndLists) 24 = some (o_aload 0 1) := rfl
theorem e_R_readFlagsAndLists_25 : ct_tab (T_R_readFlagsAndLists) 25 = some (o_getR 2 9 0) := rfl
theorem e_R_readFlagsAndLists_28 : ct_tab (T_R_readFlagsAndLists) 28 = some (o_getR 1 10 3) := rfl
theorem e_R_readFlagsAndLists_31 : ct_tab (T_R_readFlagsAndLists) 31 = some (o_iload 2 1) := rfl
theorem e_R_readFlagsAndLists_32 : ct_tab (T_R_readFlagsAndLists) 32 = some (o_push (.int 1) 1) := rfl
theorem e_R_readFlagsAndLists_33 : ct_tab (T_R_readFlagsAndLists) 33 = some (o_ii fun x y => x + y) := rfl
theorem e_R_readFlagsAndLists_34 : ct_tab (T_R_readFlagsAndLists) 34 = some (o_aload 0 1) := rfl
theorem e_R_readFlagsAndLists_35 : ct_tab (T_R_readFlagsAndLists) 35 = some (o_aload 0 1) := rfl
theorem e_R_readFlagsAndLists_36 : ct_tab (T_R_readFlagsAndLists) 36 = some (o_getR 2 9 0) := rfl
theorem e_R_readFlagsAndLists_39 : ct_tab (T_R_readFlagsAndLists) 39 = some (o_getR 1 10 4) := rfl
theorem e_R_readFlagsAndLists_42 : ct_tab (T_R_readFlagsAndLists) 42 = some (o_iload 1 1) := rfl
theorem e_R_readFlagsAndLists_43 : ct_tab (T_R_readFlagsAndLists) 43 = some (o_push (.int 0) 1) := rfl
theorem e_R_readFlagsAndLists_47 : ct_tab (T_R_readFlagsAndLists) 47 = some (o_push (.int 0) 1) := rfl
theorem e_R_readFlagsAndLists_48 : ct_tab (T_R_readFlagsAndLists) 48 = some (o_push (.int 8) 2) := rfl
theorem e_R_readFlagsAndLists_50 : ct_tab (T_R_readFlagsAndLists) 50 = some (o_push (.int 1) 1) := rfl
theorem e_R_readFlagsAndLists_54 : ct_tab (T_R_readFlagsAndLists) 54 = some (o_iast) := rfl
theorem e_R_readFlagsAndLists_55 : ct_tab (T_R_readFlagsAndLists) 55 = some (o_aload 0 1) := rfl
theorem e_R_readFlagsAndLists_56 : ct_tab (T_R_readFlagsAndLists) 56 = some (o_getR 2 9 0) := rfl
theorem e_R_readFlagsAndLists_59 : ct_tab (T_R_readFlagsAndLists) 59 = some (o_getR 1 10 3) := rfl
theorem e_R_readFlagsAndLists_62 : ct_tab (T_R_readFlagsAndLists) 62 = some (o_iload 2 1) := rfl
theorem e_R_readFlagsAndLists_63 : ct_tab (T_R_readFlagsAndLists) 63 = some (o_push (.int 2) 1) := rfl
theorem e_R_readFlagsAndLists_64 : ct_tab (T_R_readFlagsAndLists) 64 = some (o_ii fun x y => x + y) := rfl
theorem e_R_readFlagsAndLists_65 : ct_tab (T_R_readFlagsAndLists) 65 = some (o_aload 0 1) := rfl
theorem e_R_readFlagsAndLists_66 : ct_tab (T_R_readFlagsAndLists) 66 = some (o_aload 0 1) := rfl
theorem e_R_readFlagsAndLists_67 : ct_tab (T_R_readFlagsAndLists) 67 = some (o_getR 2 9 0) := rfl
theorem e_R_readFlagsAndLists_70 : ct_tab (T_R_readFlagsAndLists) 70 = some (o_getR 1 10 4) := rfl
theorem e_R_readFlagsAndLists_73 : ct_tab (T_R_readFlagsAndLists) 73 = some (o_iload 1 1) := rfl
theorem e_R_readFlagsAndLists_74 : ct_tab (T_R_readFlagsAndLists) 74 = some (o_push (.int 1) 1) := rfl
theorem e_R_readFlagsAndLists_78 : ct_tab (T_R_readFlagsAndLists) 78 = some (o_push (.int 0) 1) := rfl
theorem e_R_readFlagsAndLists_79 : ct_tab (T_R_readFlagsAndLists) 79 = some (o_push (.int 8) 2) := rfl
theorem e_R_readFlagsAndLists_81 : ct_tab (T_R_readFlagsAndLists) 81 = some (o_push (.int 1) 1) := rfl
theorem e_R_readFlagsAndLists_85 : ct_tab (T_R_readFlagsAndLists) 85 = some (o_iast) := rfl
theorem cl_R_readFlagsAndLists_20 {l : ct_Lx} {d d1 : Nat} {Post Post1 : Option Value → ct_Sg → Prop} {lv : ct_Lv} {st : List Value} {g : ct_Sg} {bc bs c1 s1 : Nat} {a1 a2 a3 : Value} {h : Nat} (hsh : g.2.1 h = (10 + 2, 9)) (hM : ct_Me l M_R_takeWithin d1 c1 s1 [.ref h, a1, a2, a3] g Post1) (hdd : d1 + 1 ≤ d) (hk : (st.map fun v => v.category).sum ≤ 8) (hcc : c1 ≤ bc) (hss : s1 ≤ bs) (kk : ∀ (v : Option Value) (g' : ct_Sg), Post1 v g' → ct_Wp l M_R_readFlagsAndLists d Post (23, lv, v.toList ++ st, g', bc - c1, bs - s1)) : ct_Wp l M_R_readFlagsAndLists d Post (20, lv, a3 :: a2 :: a1 :: .ref h :: st, g, bc, bs) := ct_Wp.callV (ci := 2) (N := 9) (T := ct_T2) (As := [a1, a2, a3]) lk_R_takeWithin (Or.inl wd_100) wd_101 wd_102 rfl d_R_readFlagsAndLists_20 hsh hM rfl hdd hk hcc hss kk
theorem cl_R_readFlagsAndLists_44 {l : ct_Lx} {d d1 : Nat} {Post Post1 : Option Value → ct_Sg → Prop} {lv : ct_Lv} {st : List Value} {g : ct_Sg} {bc bs c1 s1 : Nat} {a1 a2 : Value} (hM : ct_Me l M_T_listStart d1 c1 s1 [a1, a2] g Post1) (hdd : d1 + 1 ≤ d) (hk : (st.map fun v => v.category).sum ≤ 8) (hcc : c1 ≤ bc) (hss : s1 ≤ bs) (kk : ∀ (v : Option Value) (g' : ct_Sg), Post1 v g' → ct_Wp l M_R_readFlagsAndLists d Post (47, lv, v.toList ++ st, g', bc - c1, bs - s1)) : ct_Wp l M_R_readFlagsAndLists d Post (44, lv, a2 :: a1 :: st, g, bc, bs) := ct_Wp.callS (As := [a1, a2]) lk_T_listStart (Or.inl wd_118) wd_45 d_R_readFlagsAndLists_44 hM rfl hdd hk hcc hss kk
theorem cl_R_readFlagsAndLists_51 {l : ct_Lx} {d d1 : Nat} {Post Post1 : Option Value → ct_Sg → Prop} {lv : ct_Lv} {st : List Value} {g : ct_Sg} {bc bs c1 s1 : Nat} {a1 a2 a3 a4 a5 : Value} {h : Nat} (hsh : g.2.1 h = (10 + 2, 9)) (hM : ct_Me l M_R_takeTypes d1 c1 s1 [.ref h, a1, a2, a3, a4, a5] g Post1) (hdd : d1 + 1 ≤ d) (hk : (st.map fun v => v.category).sum ≤ 8) (hcc : c1 ≤ bc) (hss : s1 ≤ bs) (kk : ∀ (v : Option Value) (g' : ct_Sg), Post1 v g' → ct_Wp l M_R_readFlagsAndLists d Post (54, lv, v.toList ++ st, g', bc - c1, bs - s1)) : ct_Wp l M_R_readFlagsAndLists d Post (51, lv, a5 :: a4 :: a3 :: a2 :: a1 :: .ref h :: st, g, bc, bs) := ct_Wp.callV (ci := 2) (N := 9) (T := ct_T2) (As := [a1, a2, a3, a4, a5]) lk_R_takeTypes (Or.inl wd_107) wd_108 wd_109 rfl d_R_readFlagsAndLists_51 hsh hM rfl hdd hk hcc hss kk
theorem cl_R_readFlagsAndLists_75 {l : ct_Lx} {d d1 : Nat} {Post Post1 : Option Value → ct_Sg → Prop} {lv : ct_Lv} {st : List Value} {g : ct_Sg} {bc bs c1 s1 : Nat} {a1 a2 : Value} (hM : ct_Me l M_T_listStart d1 c1 s1 [a1, a2] g Post1) (hdd : d1 + 1 ≤ d) (hk : (st.map fun v => v.category).sum ≤ 8) (hcc : c1 ≤ bc) (hss : s1 ≤ bs) (kk : ∀ (v : Option Value) (g' : ct_Sg), Post1 v g' → ct_Wp l M_R_readFlagsAndLists d Post (78, lv, v.toList ++ st, g', bc - c1, bs - s1)) : ct_Wp l M_R_readFlagsAndLists d Post (75, lv, a2 :: a1 :: st, g, bc, bs) := ct_Wp.callS (As := [a1, a2]) lk_T_listStart (Or.inl wd_118) wd_45 d_R_readFlagsAndLists_75 hM rfl hdd hk hcc hss kk
theorem cl_R_readFlagsAndLists_82 {l : ct_Lx} {d d1 : Nat} {Post Post1 : Option Value → ct_Sg → Prop} {lv : ct_Lv} {st : List Value} {g : ct_Sg} {bc bs c1 s1 : Nat} {a1 a2 a3 a4 a5 : Value} {h : Nat} (hsh : g.2.1 h = (10 + 2, 9)) (hM : ct_Me l M_R_takeTypes d1 c1 s1 [.ref h, a1, a2, a3, a4, a5] g Post1) (hdd : d1 + 1 ≤ d) (hk : (st.map fun v => v.category).sum ≤ 8) (hcc : c1 ≤ bc) (hss : s1 ≤ bs) (kk : ∀ (v : Option Value) (g' : ct_Sg), Post1 v g' → ct_Wp l M_R_readFlagsAndLists d Post (85, lv, v.toList ++ st, g', bc - c1, bs - s1)) : ct_Wp l M_R_readFlagsAndLists d Post (82, lv, a5 :: a4 :: a3 :: a2 :: a1 :: .ref h :: st, g, bc, bs) := ct_Wp.callV (ci := 2) (N := 9) (T := ct_T2) (As := [a1, a2, a3, a4, a5]) lk_R_takeTypes (Or.inl wd_107) wd_108 wd_109 rfl d_R_readFlagsAndLists_82 hsh hM rfl hdd hk hcc hss kk
theorem d_R_readCode_0 : decode prog_2_method_11_code 0 = .ok (.iload_n 1, 1) := by decide +kernel
theorem d_R_readCode_1 : decode prog_2_method_11_code 1 = .ok (.bipush 7, 2) := by decide +kernel
theorem d_R_readCode_3 : decode prog_2_method_11_code 3 = .ok (.imul, 1) := by decide +kernel
theorem d_R_readCode_4 : decode prog_2_method_11_code 4 = .ok (.istore_n 2, 1) := by decide +kernel
theorem d_R_readCode_5 : decode prog_2_method_11_code 5 = .ok (.aload_n 0, 1) := by decide +kernel
theorem d_R_readCode_6 : decode prog_2_method_11_code 6 = .ok (.getfield 41, 3) := by decide +kernel
theorem d_R_readCode_9 : decode prog_2_method_11_code 9 = .ok (.getfield 92, 3) := by decide +kernel
theorem d_R_readCode_12 : decode prog_2_method_11_code 12 = .ok (.iload_n 2, 1) := by decide +kernel
theorem d_R_readCode_13 : decode prog_2_method_11_code 13 = .ok (.iconst 1, 1) := by decide +kernel
theorem d_R_readCode_14 : decode prog_2_method_11_code 14 = .ok (.iadd, 1) := by decide +kernel
theorem d_R_readCode_15 : decode prog_2_method_11_code 15 = .ok (.iaload, 1) := by decide +kernel
theorem d_R_readCode_16 : decode prog_2_method_11_code 16 = .ok (.aload_n 0, 1) := by decide +kernel
theorem d_R_readCode_17 : decode prog_2_method_11_code 17 = .ok (.getfield 41, 3) := by decide +kernel
theorem d_R_readCode_20 : decode prog_2_method_11_code 20 = .ok (.getfield 92, 3) := by decide +kernel
theorem d_R_readCode_23 : decode prog_2_method_11_code 23 = .ok (.iload_n 2, 1) := by decide +kernel
theorem d_R_readCode_24 : decode prog_2_method_11_code 24 = .ok (.iconst 3, 1) := by decide +kernel
theorem d_R_readCode_25 : decode prog_2_method_11_code 25 = .ok (.iadd, 1) := by decide +kernel
theorem d_R_readCode_26 : decode prog_2_method_11_code 26 = .ok (.iaload, 1) := by decide +kernel
theorem d_R_readCode_27 : decode prog_2_method_11_code 27 = .ok (.iadd, 1) := by decide +kernel
theorem d_R_readCode_28 : decode prog_2_method_11_code 28 = .ok (.istore_n 3, 1) := by decide +kernel
theorem d_R_readCode_29 : decode prog_2_method_11_code 29 = .ok (.aload_n 0, 1) := by decide +kernel
theorem d_R_readCode_30 : decode prog_2_method_11_code 30 = .ok (.getfield 41, 3) := by decide +kernel
theorem d_R_readCode_33 : decode prog_2_method_11_code 33 = .ok (.getfield 48, 3) := by decide +kernel
theorem d_R_readCode_36 : decode prog_2_method_11_code 36 = .ok (.bipush 6, 2) := by decide +kernel
theorem d_R_readCode_38 : decode prog_2_method_11_code 38 = .ok (.iaload, 1) := by decide +kernel
theorem d_R_readCode_39 : decode prog_2_method_11_code 39 = .ok (.istore 4, 2) := by decide +kernel
theorem d_R_readCode_41 : decode prog_2_method_11_code 41 = .ok (.sipush 8192, 3) := by decide +kernel
theorem d_R_readCode_44 : decode prog_2_method_11_code 44 = .ok (.iload 4, 2) := by decide +kernel
theorem d_R_readCode_46 : decode prog_2_method_11_code 46 = .ok (.isub, 1) := by decide +kernel
theorem d_R_readCode_47 : decode prog_2_method_11_code 47 = .ok (.istore 5, 2) := by decide +kernel
theorem d_R_readCode_49 : decode prog_2_method_11_code 49 = .ok (.aload_n 0, 1) := by decide +kernel
theorem d_R_readCode_50 : decode prog_2_method_11_code 50 = .ok (.iconst 2, 1) := by decide +kernel
theorem d_R_readCode_51 : decode prog_2_method_11_code 51 = .ok (.iconst 1, 1) := by decide +kernel
theorem d_R_readCode_52 : decode prog_2_method_11_code 52 = .ok (.sipush 1024, 3) := by decide +kernel
theorem d_R_readCode_55 : decode prog_2_method_11_code 55 = .ok (.iload 5, 2) := by decide +kernel
theorem d_R_readCode_57 : decode prog_2_method_11_code 57 = .ok (.invokestatic 112, 3) := by decide +kernel
theorem d_R_readCode_60 : decode prog_2_method_11_code 60 = .ok (.invokevirtual 77, 3) := by decide +kernel
theorem d_R_readCode_63 : decode prog_2_method_11_code 63 = .ok (.istore 6, 2) := by decide +kernel
theorem d_R_readCode_65 : decode prog_2_method_11_code 65 = .ok (.aload_n 0, 1) := by decide +kernel
theorem d_R_readCode_66 : decode prog_2_method_11_code 66 = .ok (.getfield 41, 3) := by decide +kernel
theorem d_R_readCode_69 : decode prog_2_method_11_code 69 = .ok (.getfield 92, 3) := by decide +kernel
theorem d_R_readCode_72 : decode prog_2_method_11_code 72 = .ok (.iload_n 2, 1) := by decide +kernel
theorem d_R_readCode_73 : decode prog_2_method_11_code 73 = .ok (.iconst 4, 1) := by decide +kernel
theorem d_R_readCode_74 : decode prog_2_method_11_code 74 = .ok (.iadd, 1) := by decide +kernel
theorem d_R_readCode_75 : decode prog_2_method_11_code 75 = .ok (.iload 6, 2) := by decide +kernel
theorem d_R_readCode_77 : decode prog_2_method_11_code 77 = .ok (.iastore, 1) := by decide +kernel
theorem d_R_readCode_78 : decode prog_2_method_11_code 78 = .ok (.aload_n 0, 1) := by decide +kernel
theorem d_R_readCode_79 : decode prog_2_method_11_code 79 = .ok (.getfield 41, 3) := by decide +kernel
theorem d_R_readCode_82 : decode prog_2_method_11_code 82 = .ok (.getfield 117, 3) := by decide +kernel
theorem d_R_readCode_85 : decode prog_2_method_11_code 85 = .ok (.iload_n 1, 1) := by decide +kernel
theorem d_R_readCode_86 : decode prog_2_method_11_code 86 = .ok (.iload 4, 2) := by decide +kernel
theorem d_R_readCode_88 : decode prog_2_method_11_code 88 = .ok (.iastore, 1) := by decide +kernel
theorem d_R_readCode_89 : decode prog_2_method_11_code 89 = .ok (.aload_n 0, 1) := by decide +kernel
theorem d_R_readCode_90 : decode prog_2_method_11_code 90 = .ok (.getfield 41, 3) := by decide +kernel
theorem d_R_readCode_93 : decode prog_2_method_11_code 93 = .ok (.getfield 48, 3) := by decide +kernel
theorem d_R_readCode_96 : decode prog_2_method_11_code 96 = .ok (.bipush 6, 2) := by decide +kernel
theorem d_R_readCode_98 : decode prog_2_method_11_code 98 = .ok (.iload 4, 2) := by decide +kernel
theorem d_R_readCode_100 : decode prog_2_method_11_code 100 = .ok (.iload 6, 2) := by decide +kernel
theorem d_R_readCode_102 : decode prog_2_method_11_code 102 = .ok (.iadd, 1) := by decide +kernel
theorem d_R_readCode_103 : decode prog_2_method_11_code 103 = .ok (.iastore, 1) := by decide +kernel
theorem d_R_readCode_104 : decode prog_2_method_11_code 104 = .ok (.iload 4, 2) := by decide +kernel
theorem d_R_readCode_106 : decode prog_2_method_11_code 106 = .ok (.istore 7, 2) := by decide +kernel
theorem d_R_readCode_108 : decode prog_2_method_11_code 108 = .ok (.iload 7, 2) := by decide +kernel
theorem d_R_readCode_110 : decode prog_2_method_11_code 110 = .ok (.iload 4, 2) := by decide +kernel
theorem d_R_readCode_112 : decode prog_2_method_11_code 112 = .ok (.iload 6, 2) := by decide +kernel
theorem d_R_readCode_114 : decode prog_2_method_11_code 114 = .ok (.iadd, 1) := by decide +kernel
theorem d_R_readCode_115 : decode prog_2_method_11_code 115 = .ok (.if_icmp .ge 88, 3) := by decide +kernel
theorem d_R_readCode_118 : decode prog_2_method_11_code 118 = .ok (.aload_n 0, 1) := by decide +kernel
theorem d_R_readCode_119 : decode prog_2_method_11_code 119 = .ok (.getfield 35, 3) := by decide +kernel
theorem d_R_readCode_122 : decode prog_2_method_11_code 122 = .ok (.ifCond .ne 81, 3) := by decide +kernel
theorem d_R_readCode_125 : decode prog_2_method_11_code 125 = .ok (.aload_n 0, 1) := by decide +kernel
theorem d_R_readCode_126 : decode prog_2_method_11_code 126 = .ok (.invokevirtual 120, 3) := by decide +kernel
theorem d_R_readCode_129 : decode prog_2_method_11_code 129 = .ok (.istore 8, 2) := by decide +kernel
theorem d_R_readCode_131 : decode prog_2_method_11_code 131 = .ok (.iload 8, 2) := by decide +kernel
theorem d_R_readCode_133 : decode prog_2_method_11_code 133 = .ok (.invokestatic 124, 3) := by decide +kernel
theorem d_R_readCode_136 : decode prog_2_method_11_code 136 = .ok (.istore 9, 2) := by decide +kernel
theorem d_R_readCode_138 : decode prog_2_method_11_code 138 = .ok (.aload_n 0, 1) := by decide +kernel
theorem d_R_readCode_139 : decode prog_2_method_11_code 139 = .ok (.getfield 41, 3) := by decide +kernel
theorem d_R_readCode_142 : decode prog_2_method_11_code 142 = .ok (.getfield 130, 3) := by decide +kernel
theorem d_R_readCode_145 : decode prog_2_method_11_code 145 = .ok (.iload 7, 2) := by decide +kernel
theorem d_R_readCode_147 : decode prog_2_method_11_code 147 = .ok (.iload 8, 2) := by decide +kernel
theorem d_R_readCode_149 : decode prog_2_method_11_code 149 = .ok (.i2b, 1) := by decide +kernel
theorem d_R_readCode_150 : decode prog_2_method_11_code 150 = .ok (.bastore, 1) := by decide +kernel
theorem d_R_readCode_151 : decode prog_2_method_11_code 151 = .ok (.aload_n 0, 1) := by decide +kernel
theorem d_R_readCode_152 : decode prog_2_method_11_code 152 = .ok (.getfield 41, 3) := by decide +kernel
theorem d_R_readCode_155 : decode prog_2_method_11_code 155 = .ok (.getfield 133, 3) := by decide +kernel
theorem d_R_readCode_158 : decode prog_2_method_11_code 158 = .ok (.iload 7, 2) := by decide +kernel
theorem d_R_readCode_160 : decode prog_2_method_11_code 160 = .ok (.aload_n 0, 1) := by decide +kernel
theorem d_R_readCode_161 : decode prog_2_method_11_code 161 = .ok (.iload 9, 2) := by decide +kernel
theorem d_R_readCode_163 : decode prog_2_method_11_code 163 = .ok (.iload_n 3, 1) := by decide +kernel
theorem d_R_readCode_164 : decode prog_2_method_11_code 164 = .ok (.iload 6, 2) := by decide +kernel
theorem d_R_readCode_166 : decode prog_2_method_11_code 166 = .ok (.invokevirtual 136, 3) := by decide +kernel
theorem d_R_readCode_169 : decode prog_2_method_11_code 169 = .ok (.lastore, 1) := by decide +kernel
theorem d_R_readCode_170 : decode prog_2_method_11_code 170 = .ok (.aload_n 0, 1) := by decide +kernel
theorem d_R_readCode_171 : decode prog_2_method_11_code 171 = .ok (.getfield 41, 3) := by decide +kernel
theorem d_R_readCode_174 : decode prog_2_method_11_code 174 = .ok (.getfield 140, 3) := by decide +kernel
theorem d_R_readCode_177 : decode prog_2_method_11_code 177 = .ok (.iload 7, 2) := by decide +kernel
theorem d_R_readCode_179 : decode prog_2_method_11_code 179 = .ok (.aload_n 0, 1) := by decide +kernel
theorem d_R_readCode_180 : decode prog_2_method_11_code 180 = .ok (.iload 9, 2) := by decide +kernel
theorem d_R_readCode_182 : decode prog_2_method_11_code 182 = .ok (.aload_n 0, 1) := by decide +kernel
theorem d_R_readCode_183 : decode prog_2_method_11_code 183 = .ok (.getfield 41, 3) := by decide +kernel
theorem d_R_readCode_186 : decode prog_2_method_11_code 186 = .ok (.getfield 133, 3) := by decide +kernel
theorem d_R_readCode_189 : decode prog_2_method_11_code 189 = .ok (.iload 7, 2) := by decide +kernel
theorem d_R_readCode_191 : decode prog_2_method_11_code 191 = .ok (.laload, 1) := by decide +kernel
theorem d_R_readCode_192 : decode prog_2_method_11_code 192 = .ok (.l2i, 1) := by decide +kernel
theorem d_R_readCode_193 : decode prog_2_method_11_code 193 = .ok (.invokevirtual 143, 3) := by decide +kernel
theorem d_R_readCode_196 : decode prog_2_method_11_code 196 = .ok (.lastore, 1) := by decide +kernel
theorem d_R_readCode_197 : decode prog_2_method_11_code 197 = .ok (.iinc 7 1, 3) := by decide +kernel
theorem d_R_readCode_200 : decode prog_2_method_11_code 200 = .ok (.goto (-92), 3) := by decide +kernel
theorem d_R_readCode_203 : decode prog_2_method_11_code 203 = .ok (.return_, 1) := by decide +kernel
abbrev T_R_readCode : List (Nat × ct_PT) := [(0, o_iload 1 1), (1, o_push (.int 7) 2), (3, o_ii fun x y => x * y), (4, o_istore 2 1), (5, o_aload 0 1), (6, o_getR 2 9 0), (9, o_getR 1 10 3), (12, o_iload 2 1), (13, o_push (.int 1) 1), (14, o_ii fun x y => x + y), (15, o_iald), (16, o_aload 0 1), (17, o_getR 2 9 0), (20, o_getR 1 10 3), (23, o_iload 2 1), (24, o_push (.int 3) 1), (25, o_ii fun x y => x + y), (26, o_iald), (27, o_ii fun x y => x + y), (28, o_istore 3 1), (29, o_aload 0 1), (30, o_getR 2 9 0), (33, o_getR 1 10 0), (36, o_push (.int 6) 2), (38, o_iald), (39, o_istore 4 2), (41, o_push (.int 8192) 3), (44, o_iload 4 2), (46, o_ii fun x y => x - y), (47, o_istore 5 2), (49, o_aload 0 1), (50, o_push (.int 2) 1), (51, o_push (.int 1) 1), (52, o_push (.int 1024) 3), (55, o_iload 5 2), (63, o_istore 6 2), (65, o_aload 0 1), (66, o_getR 2 9 0), (69, o_getR 1 10 3), (72, o_iload 2 1), (73, o_push (.int 4) 1), (74, o_ii fun x y => x + y), (75, o_iload 6 2), (77, o_iast), (78, o_aload 0 1), (79, o_getR 2 9 0), (82, o_getR 1 10 6), (85, o_iload 1 1), (86, o_iload 4 2), (88, o_iast), (89, o_aload 0 1), (90, o_getR 2 9 0), (93, o_getR 1 10 0), (96, o_push (.int 6) 2), (98, o_iload 4 2), (100, o_iload 6 2), (102, o_ii fun x y => x + y), (103, o_iast), (104, o_iload 4 2), (106, o_istore 7 2), (108, o_iload 7 2), (110, o_iload 4 2), (112, o_iload 6 2), (114, o_ii fun x y => x + y), (115, o_ic (fun x y => y ≤ x) (fun x y => ¬ y ≤ x) 203), (118, o_aload 0 1), (119, o_getI 2 9 7), (122, o_if (fun x => ¬ x = 0) (fun x => x = 0) 203), (125, o_aload 0 1), (129, o_istore 8 2), (131, o_iload 8 2), (136, o_istore 9 2), (138, o_aload 0 1), (139, o_getR 2 9 0), (142, o_getR 1 10 7), (145, o_iload 7 2), (147, o_iload 8 2), (149, o_i1 fun x => x.toInt8.toInt32), (150, o_bast), (151, o_aload 0 1), (152, o_getR 2 9 0), (155, o_getR 1 10 8), (158, o_iload 7 2), (160, o_aload 0 1), (161, o_iload 9 2), (163, o_iload 3 1), (164, o_iload 6 2), (169, o_last), (170, o_aload 0 1), (171, o_getR 2 9 0), (174, o_getR 1 10 9), (177, o_iload 7 2), (179, o_aload 0 1), (180, o_iload 9 2), (182, o_aload 0 1), (183, o_getR 2 9 0), (186, o_getR 1 10 8), (189, o_iload 7 2), (191, o_lald), (192, o_l2i), (196, o_last), (197, o_iinc 7 1), (200, o_goto 108)]
set_option maxRecDepth 100000 in
theorem A_R_readCode (l : ct_Lx) : ct_al l M_R_readCode (T_R_readCode) := by
  refine ct_al.cons (so_iload_n d_R_readCode_0 rfl) ?_
  refine ct_al.cons (so_bipush d_R_readCode_1 (by decide)) ?_
  refine ct_al.cons (so_imul d_R_readCode_3) ?_
  refine ct_al.cons (so_istore_n d_R_readCode_4 rfl (by decide)) ?_
  refine ct_al.cons (so_aload_n d_R_readCode_5 rfl) ?_
  refine ct_al.cons (so_getR (Cn := "CodeTables$Reader") (T := ct_T2) kc_2 (by decide) rfl rfl wd_55 d_R_readCode_6) ?_
  refine ct_al.cons (so_getR (Cn := "CodeTables$Tables") (T := ct_T1) kc_1 (by decide) rfl rfl wd_110 d_R_readCode_9) ?_
  refine ct_al.cons (so_iload_n d_R_readCode_12 rfl) ?_
  refine ct_al.cons (so_iconst d_R_readCode_13 (by decide)) ?_
  refine ct_al.cons (so_iadd d_R_readCode_14) ?_
  refine ct_al.cons (so_iald d_R_readCode_15) ?_
  refine ct_al.cons (so_aload_n d_R_readCode_16 rfl) ?_
  refine ct_al.cons (so_getR (Cn := "CodeTables$Reader") (T := ct_T2) kc_2 (by decide) rfl rfl wd_55 d_R_readCode_17) ?_
  refine ct_al.cons (so_getR (Cn := "CodeTables$Tables") (T := ct_T1) kc_1 (by decide) rfl rfl wd_110 d_R_readCode_20) ?_
  refine ct_al.cons (so_iload_n d_R_readCode_23 rfl) ?_
  refine ct_al.cons (so_iconst d_R_readCode_24 (by decide)) ?_
  refine ct_al.cons (so_iadd d_R_readCode_25) ?_
  refine ct_al.cons (so_iald d_R_readCode_26) ?_
  refine ct_al.cons (so_iadd d_R_readCode_27) ?_
  refine ct_al.cons (so_istore_n d_R_readCode_28 rfl (by decide)) ?_
  refine ct_al.cons (so_aload_n d_R_readCode_29 rfl) ?_
  refine ct_al.cons (so_getR (Cn := "CodeTables$Reader") (T := ct_T2) kc_2 (by decide) rfl rfl wd_55 d_R_readCode_30) ?_
  refine ct_al.cons (so_getR (Cn := "CodeTables$Tables") (T := ct_T1) kc_1 (by decide) rfl rfl wd_62 d_R_readCode_33) ?_
  refine ct_al.cons (so_bipush d_R_readCode_36 (by decide)) ?_
  refine ct_al.cons (so_iald d_R_readCode_38) ?_
  refine ct_al.cons (so_istore d_R_readCode_39 (by decide)) ?_
  refine ct_al.cons (so_sipush d_R_readCode_41 (by decide)) ?_
  refine ct_al.cons (so_iload d_R_readCode_44) ?_
  refine ct_al.cons (so_isub d_R_readCode_46) ?_
  refine ct_al.cons (so_istore d_R_readCode_47 (by decide)) ?_
  refine ct_al.cons (so_aload_n d_R_readCode_49 rfl) ?_
  refine ct_al.cons (so_iconst d_R_readCode_50 (by decide)) ?_
  refine ct_al.cons (so_iconst d_R_readCode_51 (by decide)) ?_
  refine ct_al.cons (so_sipush d_R_readCode_52 (by decide)) ?_
  refine ct_al.cons (so_iload d_R_readCode_55) ?_
  refine ct_al.cons (so_istore d_R_readCode_63 (by decide)) ?_
  refine ct_al.cons (so_aload_n d_R_readCode_65 rfl) ?_
  refine ct_al.cons (so_getR (Cn := "CodeTables$Reader") (T := ct_T2) kc_2 (by decide) rfl rfl wd_55 d_R_readCode_66) ?_
  refine ct_al.cons (so_getR (Cn := "CodeTables$Tables") (T := ct_T1) kc_1 (by decide) rfl rfl wd_110 d_R_readCode_69) ?_
  refine ct_al.cons (so_iload_n d_R_readCode_72 rfl) ?_
  refine ct_al.cons (so_iconst d_R_readCode_73 (by decide)) ?_
  refine ct_al.cons (so_iadd d_R_readCode_74) ?_
  refine ct_al.cons (so_iload d_R_readCode_75) ?_
  refine ct_al.cons (so_iast d_R_readCode_77) ?_
  refine ct_al.cons (so_aload_n d_R_readCode_78 rfl) ?_
  refine ct_al.cons (so_getR (Cn := "CodeTables$Reader") (T := ct_T2) kc_2 (by decide) rfl rfl wd_55 d_R_readCode_79) ?_
  refine ct_al.cons (so_getR (Cn := "CodeTables$Tables") (T := ct_T1) kc_1 (by decide) rfl rfl wd_128 d_R_readCode_82) ?_
  refine ct_al.cons (so_iload_n d_R_readCode_85 rfl) ?_
  refine ct_al.cons (so_iload d_R_readCode_86) ?_
  refine ct_al.cons (so_iast d_R_readCode_88) ?_
  refine ct_al.cons (so_aload_n d_R_readCode_89 rfl) ?_
  refine ct_al.cons (so_getR (Cn := "CodeTables$Reader") (T := ct_T2) kc_2 (by decide) rfl rfl wd_55 d_R_readCode_90) ?_
  refine ct_al.cons (so_getR (Cn := "CodeTables$Tables") (T := ct_T1) kc_1 (by decide) rfl rfl wd_62 d_R_readCode_93) ?_
  refine ct_al.cons (so_bipush d_R_readCode_96 (by decide)) ?_
  refine ct_al.cons (so_iload d_R_readCode_98) ?_
  refine ct_al.cons (so_iload d_R_readCode_100) ?_
  refine ct_al.cons (so_iadd d_R_readCode_102) ?_
  refine ct_al.cons (so_iast d_R_readCode_103) ?_
  refine ct_al.cons (so_iload d_R_readCode_104) ?_
  refine ct_al.cons (so_istore d_R_readCode_106 (by decide)) ?_
  refine ct_al.cons (so_iload d_R_readCode_108) ?_
  refine ct_al.cons (so_iload d_R_readCode_110) ?_
  refine ct_al.cons (so_iload d_R_readCode_112) ?_
  refine ct_al.cons (so_iadd d_R_readCode_114) ?_
  refine ct_al.cons (so_ic_ge d_R_readCode_115 (by decide)) ?_
  refine ct_al.cons (so_aload_n d_R_readCode_118 rfl) ?_
  refine ct_al.cons (so_getI (Cn := "CodeTables$Reader") (T := ct_T2) kc_2 (by decide) rfl rfl wd_53 d_R_readCode_119) ?_
  refine ct_al.cons (so_if_ne d_R_readCode_122 (by decide)) ?_
  refine ct_al.cons (so_aload_n d_R_readCode_125 rfl) ?_
  refine ct_al.cons (so_istore d_R_readCode_129 (by decide)) ?_
  refine ct_al.cons (so_iload d_R_readCode_131) ?_
  refine ct_al.cons (so_istore d_R_readCode_136 (by decide)) ?_
  refine ct_al.cons (so_aload_n d_R_readCode_138 rfl) ?_
  refine ct_al.cons (so_getR (Cn := "CodeTables$Reader") (T := ct_T2) kc_2 (by decide) rfl rfl wd_55 d_R_readCode_139) ?_
  refine ct_al.cons (so_getR (Cn := "CodeTables$Tables") (T := ct_T1) kc_1 (by decide) rfl rfl wd_139 d_R_readCode_142) ?_
  refine ct_al.cons (so_iload d_R_readCode_145) ?_
  refine ct_al.cons (so_iload d_R_readCode_147) ?_
  refine ct_al.cons (so_i2b d_R_readCode_149) ?_
  refine ct_al.cons (so_bast d_R_readCode_150) ?_
  refine ct_al.cons (so_aload_n d_R_readCode_151 rfl) ?_
  refine ct_al.cons (so_getR (Cn := "CodeTables$Reader") (T := ct_T2) kc_2 (by decide) rfl rfl wd_55 d_R_readCode_152) ?_
  refine ct_al.cons (so_getR (Cn := "CodeTables$Tables") (T := ct_T1) kc_1 (by decide) rfl rfl wd_140 d_R_readCode_155) ?_
  refine ct_al.cons (so_iload d_R_readCode_158) ?_
  refine ct_al.cons (so_aload_n d_R_readCode_160 rfl) ?_
  refine ct_al.cons (so_iload d_R_readCode_161) ?_
  refine ct_al.cons (so_iload_n d_R_readCode_163 rfl) ?_
  refine ct_al.cons (so_iload d_R_readCode_164) ?_
  refine ct_al.cons (so_last d_R_readCode_169) ?_
  refine ct_al.cons (so_aload_n d_R_readCode_170 rfl) ?_
  refine ct_al.cons (so_getR (Cn := "CodeTables$Reader") (T := ct_T2) kc_2 (by decide) rfl rfl wd_55 d_R_readCode_171) ?_
  refine ct_al.cons (so_getR (Cn := "CodeTables$Tables") (T := ct_T1) kc_1 (by decide) rfl rfl wd_146 d_R_readCode_174) ?_
  refine ct_al.cons (so_iload d_R_readCode_177) ?_
  refine ct_al.cons (so_aload_n d_R_readCode_179 rfl) ?_
  refine ct_al.cons (so_iload d_R_readCode_180) ?_
  refine ct_al.cons (so_aload_n d_R_readCode_182 rfl) ?_
  refine ct_al.cons (so_getR (Cn := "CodeTables$Reader") (T := ct_T2) kc_2 (by decide) rfl rfl wd_55 d_R_readCode_183) ?_
  refine ct_al.cons (so_getR (Cn := "CodeTables$Tables") (T := ct_T1) kc_1 (by decide) rfl rfl wd_140 d_R_readCode_186) ?_
  refine ct_al.cons (so_iload d_R_readCode_189) ?_
  refine ct_al.cons (so_lald d_R_readCode_191) ?_
  refine ct_al.cons (so_l2i d_R_readCode_192) ?_
  refine ct_al.cons (so_last d_R_readCode_196) ?_
  refine ct_al.cons (so_iinc d_R_readCode_197 (by decide) (by decide)) ?_
  refine ct_al.cons (so_goto d_R_readCode_200 (by decide)) ?_
  exact ct_al.nil
set_option maxRecDepth 100000 in
theorem e_R_readCode_0 : ct_tab (T_R_readCode) 0 = some (o_iload 1 1) := rfl
set_option maxRecDepth 100000 in
theorem e_R_readCode_1 : ct_tab (T_R_readCode) 1 = some (o_push (.int 7) 2) := rfl
set_option maxRecDepth 100000 in
theorem e_R_readCode_3 : ct_tab (T_R_readCode) 3 = some (o_ii fun x y => x * y) := rfl
set_option maxRecDepth 100000 in
theorem e_R_readCode_4 : ct_tab (T_R_readCode) 4 = some (o_istore 2 1) := rfl
set_option maxRecDepth 100000 in
theorem e_R_readCode_5 : ct_tab (T_R_readCode) 5 = some (o_aload 0 1) := rfl
set_option maxRecDepth 100000 in
theorem e_R_readCode_6 : ct_tab (T_R_readCode) 6 = some (o_getR 2 9 0) := rfl
set_option maxRecDepth 100000 in
theorem e_R_readCode_9 : ct_tab (T_R_readCode) 9 = some (o_getR 1 10 3) := rfl
set_option maxRecDepth 100000 in
theorem e_R_readCode_12 : ct_tab (T_R_readCode) 12 = some (o_iload 2 1) := rfl
set_option maxRecDepth 100000 in
theorem e_R_readCode_13 : ct_tab (T_R_readCode) 13 = some (o_push (.int 1) 1) := rfl
set_option maxRecDepth 100000 in
theorem e_R_readCode_14 : ct_tab (T_R_readCode) 14 = some (o_ii fun x y => x + y) := rfl
set_option maxRecDepth 100000 in
theorem e_R_readCode_15 : ct_tab (T_R_readCode) 15 = some (o_iald) := rfl
set_option maxRecDepth 100000 in
theorem e_R_readCode_16 : ct_tab (T_R_readCode) 16 = some (o_aload 0 1) := rfl
set_option maxRecDepth 100000 in
theorem e_R_readCode_17 : ct_tab (T_R_readCode) 17 = some (o_getR 2 9 0) := rfl
set_option maxRecDepth 100000 in
theorem e_R_readCode_20 : ct_tab (T_R_readCode) 20 = some (o_getR 1 10 3) := rfl
set_option maxRecDepth 100000 in
theorem e_R_readCode_23 : ct_tab (T_R_readCode) 23 = some (o_iload 2 1) := rfl
set_option maxRecDepth 100000 in
theorem e_R_readCode_24 : ct_tab (T_R_readCode) 24 = some (o_push (.int 3) 1) := rfl
set_option maxRecDepth 100000 in
theorem e_R_readCode_25 : ct_tab (T_R_readCode) 25 = some (o_ii fun x y => x + y) := rfl
set_option maxRecDepth 100000 in
theorem e_R_readCode_26 : ct_tab (T_R_readCode) 26 = some (o_iald) := rfl
set_option maxRecDepth 100000 in
theorem e_R_readCode_27 : ct_tab (T_R_readCode) 27 = some (o_ii fun x y => x + y) := rfl
set_option maxRecDepth 100000 in
theorem e_R_readCode_28 : ct_tab (T_R_readCode) 28 = some (o_istore 3 1) := rfl
set_option maxRecDepth 100000 in
theorem e_R_readCode_29 : ct_tab (T_R_readCode) 29 = some (o_aload 0 1) := rfl
set_option maxRecDepth 100000 in
theorem e_R_readCode_30 : ct_tab (T_R_readCode) 30 = some (o_getR 2 9 0) := rfl
set_option maxRecDepth 100000 in
theorem e_R_readCode_33 : ct_tab (T_R_readCode) 33 = some (o_getR 1 10 0) := rfl
set_option maxRecDepth 100000 in
theorem e_R_readCode_36 : ct_tab (T_R_readCode) 36 = some (o_push (.int 6) 2) := rfl
set_option maxRecDepth 100000 in
theorem e_R_readCode_38 : ct_tab (T_R_readCode) 38 = some (o_iald) := rfl
set_option maxRecDepth 100000 in
theorem e_R_readCode_39 : ct_tab (T_R_readCode) 39 = some (o_istore 4 2) := rfl
set_option maxRecDepth 100000 in
theorem e_R_readCode_41 : ct_tab (T_R_readCode) 41 = some (o_push (.int 8192) 3) := rfl
set_option maxRecDepth 100000 in
theorem e_R_readCode_44 : ct_tab (T_R_readCode) 44 = some (o_iload 4 2) := rfl
set_option maxRecDepth 100000 in
theorem e_R_readCode_46 : ct_tab (T_R_readCode) 46 = some (o_ii fun x y => x - y) := rfl
set_option maxRecDepth 100000 in
theorem e_R_readCode_47 : ct_tab (T_R_readCode) 47 = some (o_istore 5 2) := rfl
set_option maxRecDepth 100000 in
theorem e_R_readCode_49 : ct_tab (T_R_readCode) 49 = some (o_aload 0 1) := rfl
set_option maxRecDepth 100000 in
theorem e_R_readCode_50 : ct_tab (T_R_readCode) 50 = some (o_push (.int 2) 1) := rfl
set_option maxRecDepth 100000 in
theorem e_R_readCode_51 : ct_tab (T_R_readCode) 51 = some (o_push (.int 1) 1) := rfl
set_option maxRecDepth 100000 in
theorem e_R_readCode_52 : ct_tab (T_R_readCode) 52 = some (o_push (.int 1024) 3) := rfl
set_option maxRecDepth 100000 in
theorem e_R_readCode_55 : ct_tab (T_R_readCode) 55 = some (o_iload 5 2) := rfl
set_option maxRecDepth 100000 in
theorem e_R_readCode_63 : ct_tab (T_R_readCode) 63 = some (o_istore 6 2) := rfl
set_option maxRecDepth 100000 in
theorem e_R_readCode_65 : ct_tab (T_R_readCode) 65 = some (o_aload 0 1) := rfl
set_option maxRecDepth 100000 in
theorem e_R_readCode_66 : ct_tab (T_R_readCode) 66 = some (o_getR 2 9 0) := rfl
set_option maxRecDepth 100000 in
theorem e_R_readCode_69 : ct_tab (T_R_readCode) 69 = some (o_getR 1 10 3) := rfl
set_option maxRecDepth 100000 in
theorem e_R_readCode_72 : ct_tab (T_R_readCode) 72 = some (o_iload 2 1) := rfl
set_option maxRecDepth 100000 in
theorem e_R_readCode_73 : ct_tab (T_R_readCode) 73 = some (o_push (.int 4) 1) := rfl
set_option maxRecDepth 100000 in
theorem e_R_readCode_74 : ct_tab (T_R_readCode) 74 = some (o_ii fun x y => x + y) := rfl
set_option maxRecDepth 100000 in
theorem e_R_readCode_75 : ct_tab (T_R_readCode) 75 = some (o_iload 6 2) := rfl
set_option maxRecDepth 100000 in
theorem e_R_readCode_77 : ct_tab (T_R_readCode) 77 = some (o_iast) := rfl
set_option maxRecDepth 100000 in
theorem e_R_readCode_78 : ct_tab (T_R_readCode) 78 = some (o_aload 0 1) := rfl
set_option maxRecDepth 100000 in
theorem e_R_readCode_79 : ct_tab (T_R_readCode) 79 = some (o_getR 2 9 0) := rfl
set_option maxRecDepth 100000 in
theorem e_R_readCode_82 : ct_tab (T_R_readCode) 82 = some (o_getR 1 10 6) := rfl
set_option maxRecDepth 100000 in
theorem e_R_readCode_85 : ct_tab (T_R_readCode) 85 = some (o_iload 1 1) := rfl
set_option maxRecDepth 100000 in
theorem e_R_readCode_86 : ct_tab (T_R_readCode) 86 = some (o_iload 4 2) := rfl
set_option maxRecDepth 100000 in
theorem e_R_readCode_88 : ct_tab (T_R_readCode) 88 = some (o_iast) := rfl
set_option maxRecDepth 100000 in
theorem e_R_readCode_89 : ct_tab (T_R_readCode) 89 = some (o_aload 0 1) := rfl
set_option maxRecDepth 100000 in
theorem e_R_readCode_90 : ct_tab (T_R_readCode) 90 = some (o_getR 2 9 0) := rfl
set_option maxRecDepth 100000 in
theorem e_R_readCode_93 : ct_tab (T_R_readCode) 93 = some (o_getR 1 10 0) := rfl
set_option maxRecDepth 100000 in
theorem e_R_readCode_96 : ct_tab (T_R_readCode) 96 = some (o_push (.int 6) 2) := rfl
set_option maxRecDepth 100000 in
theorem e_R_readCode_98 : ct_tab (T_R_readCode) 98 = some (o_iload 4 2) := rfl
set_option maxRecDepth 100000 in
theorem e_R_readCode_100 : ct_tab (T_R_readCode) 100 = some (o_iload 6 2) := rfl
set_option maxRecDepth 100000 in
theorem e_R_readCode_102 : ct_tab (T_R_readCode) 102 = some (o_ii fun x y => x + y) := rfl
set_option maxRecDepth 100000 in
theorem e_R_readCode_103 : ct_tab (T_R_readCode) 103 = some (o_iast) := rfl
set_option maxRecDepth 100000 in
theorem e_R_readCode_104 : ct_tab (T_R_readCode) 104 = some (o_iload 4 2) := rfl
set_option maxRecDepth 100000 in
theorem e_R_readCode_106 : ct_tab (T_R_readCode) 106 = some (o_istore 7 2) := rfl
set_option maxRecDepth 100000 in
theorem e_R_readCode_108 : ct_tab (T_R_readCode) 108 = some (o_iload 7 2) := rfl
set_option maxRecDepth 100000 in
theorem e_R_readCode_110 : ct_tab (T_R_readCode) 110 = some (o_iload 4 2) := rfl
set_option maxRecDepth 100000 in
theorem e_R_readCode_112 : ct_tab (T_R_readCode) 112 = some (o_iload 6 2) := rfl
set_option maxRecDepth 100000 in
theorem e_R_readCode_114 : ct_tab (T_R_readCode) 114 = some (o_ii fun x y => x + y) := rfl
set_option maxRecDepth 100000 in
theorem e_R_readCode_115 : ct_tab (T_R_readCode) 115 = some (o_ic (fun x y => y ≤ x) (fun x y => ¬ y ≤ x) 203) := rfl
set_option maxRecDepth 100000 in
theorem e_R_readCode_118 : ct_tab (T_R_readCode) 118 = some (o_aload 0 1) := rfl
set_option maxRecDepth 100000 in
theorem e_R_readCode_119 : ct_tab (T_R_readCode) 119 = some (o_getI 2 9 7) := rfl
set_option maxRecDepth 100000 in
theorem e_R_readCode_122 : ct_tab (T_R_readCode) 122 = some (o_if (fun x => ¬ x = 0) (fun x => x = 0) 203) := rfl
set_option maxRecDepth 100000 in
theorem e_R_readCode_125 : ct_tab (T_R_readCode) 125 = some (o_aload 0 1) := rfl
set_option maxRecDepth 100000 in
theorem e_R_readCode_129 : ct_tab (T_R_readCode) 129 = some (o_istore 8 2) := rfl
set_option maxRecDepth 100000 in
theorem e_R_readCode_131 : ct_tab (T_R_readCode) 131 = some (o_iload 8 2) := rfl
set_option maxRecDepth 100000 in
theorem e_R_readCode_136 : ct_tab (T_R_readCode) 136 = some (o_istore 9 2) := rfl
set_option maxRecDepth 100000 in
theorem e_R_readCode_138 : ct_tab (T_R_readCode) 138 = some (o_aload 0 1) := rfl
set_option maxRecDepth 100000 in
theorem e_R_readCode_139 : ct_tab (T_R_readCode) 139 = some (o_getR 2 9 0) := rfl
set_option maxRecDepth 100000 in
theorem e_R_readCode_142 : ct_tab (T_R_readCode) 142 = some (o_getR 1 10 7) := rfl
set_option maxRecDepth 100000 in
theorem e_R_readCode_145 : ct_tab (T_R_readCode) 145 = some (o_iload 7 2) := rfl
set_option maxRecDepth 100000 in
theorem e_R_readCode_147 : ct_tab (T_R_readCode) 147 = some (o_iload 8 2) := rfl
set_option maxRecDepth 100000 in
theorem e_R_readCode_149 : ct_tab (T_R_readCode) 149 = some (o_i1 fun x => x.toInt8.toInt32) := rfl
set_option maxRecDepth 100000 in
theorem e_R_readCode_150 : ct_tab (T_R_readCode) 150 = some (o_bast) := rfl
set_option maxRecDepth 100000 in
theorem e_R_readCode_151 : ct_tab (T_R_readCode) 151 = some (o_aload 0 1) := rfl
set_option maxRecDepth 100000 in
theorem e_R_readCode_152 : ct_tab (T_R_readCode) 152 = some (o_getR 2 9 0) := rfl
set_option maxRecDepth 100000 in
theorem e_R_readCode_155 : ct_tab (T_R_readCode) 155 = some (o_getR 1 10 8) := rfl
set_option maxRecDepth 100000 in
theorem e_R_readCode_158 : ct_tab (T_R_readCode) 158 = some (o_iload 7 2) := rfl
set_option maxRecDepth 100000 in
theorem e_R_readCode_160 : ct_tab (T_R_readCode) 160 = some (o_aload 0 1) := rfl
set_option maxRecDepth 100000 in
theorem e_R_readCode_161 : ct_tab (T_R_readCode) 161 = some (o_iload 9 2) := rfl
set_option maxRecDepth 100000 in
theorem e_R_readCode_163 : ct_tab (T_R_readCode) 163 = some (o_iload 3 1) := rfl
set_option maxRecDepth 100000 in
theorem e_R_readCode_164 : ct_tab (T_R_readCode) 164 = some (o_iload 6 2) := rfl
set_option maxRecDepth 100000 in
theorem e_R_readCode_169 : ct_tab (T_R_readCode) 169 = some (o_last) := rfl
set_option maxRecDepth 100000 in
theorem e_R_readCode_170 : ct_tab (T_R_readCode) 170 = some (o_aload 0 1) := rfl
set_option maxRecDepth 100000 in
theorem e_R_readCode_171 : ct_tab (T_R_readCode) 171 = some (o_getR 2 9 0) := rfl
set_option maxRecDepth 100000 in
theorem e_R_readCode_174 : ct_tab (T_R_readCode) 174 = some (o_getR 1 10 9) := rfl
set_option maxRecDepth 100000 in
theorem e_R_readCode_177 : ct_tab (T_R_readCode) 177 = some (o_iload 7 2) := rfl
set_option maxRecDepth 100000 in
theorem e_R_readCode_179 : ct_tab (T_R_readCode) 179 = some (o_aload 0 1) := rfl
set_option maxRecDepth 100000 in
theorem e_R_readCode_180 : ct_tab (T_R_readCode) 180 = some (o_iload 9 2) := rfl
set_option maxRecDepth 100000 in
theorem e_R_readCode_182 : ct_tab (T_R_readCode) 182 = some (o_aload 0 1) := rfl
set_option maxRecDepth 100000 in
theorem e_R_readCode_183 : ct_tab (T_R_readCode) 183 = some (o_getR 2 9 0) := rfl
set_option maxRecDepth 100000 in
theorem e_R_readCode_186 : ct_tab (T_R_readCode) 186 = some (o_getR 1 10 8) := rfl
set_option maxRecDepth 100000 in
theorem e_R_readCode_189 : ct_tab (T_R_readCode) 189 = some (o_iload 7 2) := rfl
set_option maxRecDepth 100000 in
theorem e_R_readCode_191 : ct_tab (T_R_readCode) 191 = some (o_lald) := rfl
set_option maxRecDepth 100000 in
theorem e_R_readCode_192 : ct_tab (T_R_readCode) 192 = some (o_l2i) := rfl
set_option maxRecDepth 100000 in
theorem e_R_readCode_196 : ct_tab (T_R_readCode) 196 = some (o_last) := rfl
set_option maxRecDepth 100000 in
theorem e_R_readCode_197 : ct_tab (T_R_readCode) 197 = some (o_iinc 7 1) := rfl
set_option maxRecDepth 100000 in
theorem e_R_readCode_200 : ct_tab (T_R_readCode) 200 = some (o_goto 108) := rfl
theorem cl_R_readCode_57 {l : ct_Lx} {d : Nat} {Post : Option Value → ct_Sg → Prop} {lv : ct_Lv} {st : List Value} {g : ct_Sg} {bc bs : Nat} {x y : Int32} (hd1 : 1 ≤ d) (hk : st.length ≤ 8) (kk : ct_Wp l M_R_readCode d Post (60, lv, .int (if y < x then y else x) :: st, g, bc, bs)) : ct_Wp l M_R_readCode d Post (57, lv, .int y :: .int x :: st, g, bc, bs) := ct_Wp.mmin wd_124 wd_125 wd_126 wd_127 d_R_readCode_57 hd1 hk kk
theorem cl_R_readCode_60 {l : ct_Lx} {d d1 : Nat} {Post Post1 : Option Value → ct_Sg → Prop} {lv : ct_Lv} {st : List Value} {g : ct_Sg} {bc bs c1 s1 : Nat} {a1 a2 a3 : Value} {h : Nat} (hsh : g.2.1 h = (10 + 2, 9)) (hM : ct_Me l M_R_takeWithin d1 c1 s1 [.ref h, a1, a2, a3] g Post1) (hdd : d1 + 1 ≤ d) (hk : (st.map fun v => v.category).sum ≤ 8) (hcc : c1 ≤ bc) (hss : s1 ≤ bs) (kk : ∀ (v : Option Value) (g' : ct_Sg), Post1 v g' → ct_Wp l M_R_readCode d Post (63, lv, v.toList ++ st, g', bc - c1, bs - s1)) : ct_Wp l M_R_readCode d Post (60, lv, a3 :: a2 :: a1 :: .ref h :: st, g, bc, bs) := ct_Wp.callV (ci := 2) (N := 9) (T := ct_T2) (As := [a1, a2, a3]) lk_R_takeWithin (Or.inl wd_100) wd_101 wd_102 rfl d_R_readCode_60 hsh hM rfl hdd hk hcc hss kk
theorem cl_R_readCode_126 {l : ct_Lx} {d d1 : Nat} {Post Post1 : Option Value → ct_Sg → Prop} {lv : ct_Lv} {st : List Value} {g : ct_Sg} {bc bs c1 s1 : Nat} {h : Nat} (hsh : g.2.1 h = (10 + 2, 9)) (hM : ct_Me l M_R_takeOperation d1 c1 s1 [.ref h] g Post1) (hdd : d1 + 1 ≤ d) (hk : (st.map fun v => v.category).sum ≤ 8) (hcc : c1 ≤ bc) (hss : s1 ≤ bs) (kk : ∀ (v : Option Value) (g' : ct_Sg), Post1 v g' → ct_Wp l M_R_readCode d Post (129, lv, v.toList ++ st, g', bc - c1, bs - s1)) : ct_Wp l M_R_readCode d Post (126, lv, .ref h :: st, g, bc, bs) := ct_Wp.callV (ci := 2) (N := 9) (T := ct_T2) (As := []) lk_R_takeOperation (Or.inl wd_131) wd_132 wd_133 rfl d_R_readCode_126 hsh hM rfl hdd hk hcc hss kk
theorem cl_R_readCode_133 {l : ct_Lx} {d d1 : Nat} {Post Post1 : Option Value → ct_Sg → Prop} {lv : ct_Lv} {st : List Value} {g : ct_Sg} {bc bs c1 s1 : Nat} {a1 : Value} (hM : ct_Me l M_S_of d1 c1 s1 [a1] g Post1) (hdd : d1 + 1 ≤ d) (hk : (st.map fun v => v.category).sum ≤ 8) (hcc : c1 ≤ bc) (hss : s1 ≤ bs) (kk : ∀ (v : Option Value) (g' : ct_Sg), Post1 v g' → ct_Wp l M_R_readCode d Post (136, lv, v.toList ++ st, g', bc - c1, bs - s1)) : ct_Wp l M_R_readCode d Post (133, lv, a1 :: st, g, bc, bs) := ct_Wp.callS (As := [a1]) lk_S_of (Or.inl wd_137) wd_138 d_R_readCode_133 hM rfl hdd hk hcc hss kk
theorem cl_R_readCode_166 {l : ct_Lx} {d d1 : Nat} {Post Post1 : Option Value → ct_Sg → Prop} {lv : ct_Lv} {st : List Value} {g : ct_Sg} {bc bs c1 s1 : Nat} {a1 a2 a3 : Value} {h : Nat} (hsh : g.2.1 h = (10 + 2, 9)) (hM : ct_Me l M_R_takeFirstOperand d1 c1 s1 [.ref h, a1, a2, a3] g Post1) (hdd : d1 + 1 ≤ d) (hk : (st.map fun v => v.category).sum ≤ 8) (hcc : c1 ≤ bc) (hss : s1 ≤ bs) (kk : ∀ (v : Option Value) (g' : ct_Sg), Post1 v g' → ct_Wp l M_R_readCode d Post (169, lv, v.toList ++ st, g', bc - c1, bs - s1)) : ct_Wp l M_R_readCode d Post (166, lv, a3 :: a2 :: a1 :: .ref h :: st, g, bc, bs) := ct_Wp.callV (ci := 2) (N := 9) (T := ct_T2) (As := [a1, a2, a3]) lk_R_takeFirstOperand (Or.inl wd_143) wd_144 wd_145 rfl d_R_readCode_166 hsh hM rfl hdd hk hcc hss kk
theorem cl_R_readCode_193 {l : ct_Lx} {d d1 : Nat} {Post Post1 : Option Value → ct_Sg → Prop} {lv : ct_Lv} {st : List Value} {g : ct_Sg} {bc bs c1 s1 : Nat} {a1 a2 : Value} {h : Nat} (hsh : g.2.1 h = (10 + 2, 9)) (hM : ct_Me l M_R_takeSecondOperand d1 c1 s1 [.ref h, a1, a2] g Post1) (hdd : d1 + 1 ≤ d) (hk : (st.map fun v => v.category).sum ≤ 8) (hcc : c1 ≤ bc) (hss : s1 ≤ bs) (kk : ∀ (v : Option Value) (g' : ct_Sg), Post1 v g' → ct_Wp l M_R_readCode d Post (196, lv, v.toList ++ st, g', bc - c1, bs - s1)) : ct_Wp l M_R_readCode d Post (193, lv, a2 :: a1 :: .ref h :: st, g, bc, bs) := ct_Wp.callV (ci := 2) (N := 9) (T := ct_T2) (As := [a1, a2]) lk_R_takeSecondOperand (Or.inl wd_149) wd_150 wd_151 rfl d_R_readCode_193 hsh hM rfl hdd hk hcc hss kk
theorem d_R_takeOperation_0 : decode prog_2_method_12_code 0 = .ok (.aload_n 0, 1) := by decide +kernel
theorem d_R_takeOperation_1 : decode prog_2_method_12_code 1 = .ok (.getfield 28, 3) := by decide +kernel
theorem d_R_takeOperation_4 : decode prog_2_method_12_code 4 = .ok (.istore_n 1, 1) := by decide +kernel
theorem d_R_takeOperation_5 : decode prog_2_method_12_code 5 = .ok (.aload_n 0, 1) := by decide +kernel
theorem d_R_takeOperation_6 : decode prog_2_method_12_code 6 = .ok (.iconst 1, 1) := by decide +kernel
theorem d_R_takeOperation_7 : decode prog_2_method_12_code 7 = .ok (.invokevirtual 51, 3) := by decide +kernel
theorem d_R_takeOperation_10 : decode prog_2_method_12_code 10 = .ok (.l2i, 1) := by decide +kernel
theorem d_R_takeOperation_11 : decode prog_2_method_12_code 11 = .ok (.istore_n 2, 1) := by decide +kernel
theorem d_R_takeOperation_12 : decode prog_2_method_12_code 12 = .ok (.iload_n 2, 1) := by decide +kernel
theorem d_R_takeOperation_13 : decode prog_2_method_12_code 13 = .ok (.bipush 59, 2) := by decide +kernel
theorem d_R_takeOperation_15 : decode prog_2_method_12_code 15 = .ok (.if_icmp .le 11, 3) := by decide +kernel
theorem d_R_takeOperation_18 : decode prog_2_method_12_code 18 = .ok (.aload_n 0, 1) := by decide +kernel
theorem d_R_takeOperation_19 : decode prog_2_method_12_code 19 = .ok (.iconst 5, 1) := by decide +kernel
theorem d_R_takeOperation_20 : decode prog_2_method_12_code 20 = .ok (.iload_n 1, 1) := by decide +kernel
theorem d_R_takeOperation_21 : decode prog_2_method_12_code 21 = .ok (.invokevirtual 70, 3) := by decide +kernel
theorem d_R_takeOperation_24 : decode prog_2_method_12_code 24 = .ok (.iconst 0, 1) := by decide +kernel
theorem d_R_takeOperation_25 : decode prog_2_method_12_code 25 = .ok (.ireturn, 1) := by decide +kernel
theorem d_R_takeOperation_26 : decode prog_2_method_12_code 26 = .ok (.iload_n 2, 1) := by decide +kernel
theorem d_R_takeOperation_27 : decode prog_2_method_12_code 27 = .ok (.ireturn, 1) := by decide +kernel
abbrev T_R_takeOperation : List (Nat × ct_PT) := [(0, o_aload 0 1), (1, o_getI 2 9 5), (4, o_istore 1 1), (5, o_aload 0 1), (6, o_push (.int 1) 1), (10, o_l2i), (11, o_istore 2 1), (12, o_iload 2 1), (13, o_push (.int 59) 2), (15, o_ic (fun x y => x ≤ y) (fun x y => ¬ x ≤ y) 26), (18, o_aload 0 1), (19, o_push (.int 5) 1), (20, o_iload 1 1), (24, o_push (.int 0) 1), (26, o_iload 2 1)]
set_option maxRecDepth 100000 in
theorem A_R_takeOperation (l : ct_Lx) : ct_al l M_R_takeOperation (T_R_takeOperation) := by
  refine ct_al.cons (so_aload_n d_R_takeOperation_0 rfl) ?_
  refine ct_al.cons (so_getI (Cn := "CodeTables$Reader") (T := ct_T2) kc_2 (by decide) rfl rfl wd_51 d_R_takeOperation_1) ?_
  refine ct_al.cons (so_istore_n d_R_takeOperation_4 rfl (by decide)) ?_
  refine ct_al.cons (so_aload_n d_R_takeOperation_5 rfl) ?_
  refine ct_al.cons (so_iconst d_R_takeOperation_6 (by decide)) ?_
  refine ct_al.cons (so_l2i d_R_takeOperation_10) ?_
  refine ct_al.cons (so_istore_n d_R_takeOperation_11 rfl (by decide)) ?_
  refine ct_al.cons (so_iload_n d_R_takeOperation_12 rfl) ?_
  refine ct_al.cons (so_bipush d_R_takeOperation_13 (by decide)) ?_
  refine ct_al.cons (so_ic_le d_R_takeOperation_15 (by decide)) ?_
  refine ct_al.cons (so_aload_n d_R_takeOperation_18 rfl) ?_
  refine ct_al.cons (so_iconst d_R_takeOperation_19 (by decide)) ?_
  refine ct_al.cons (so_iload_n d_R_takeOperation_20 rfl) ?_
  refine ct_al.cons (so_iconst d_R_takeOperation_24 (by decide)) ?_
  refine ct_al.cons (so_iload_n d_R_takeOperation_26 rfl) ?_
  exact ct_al.nil
theorem e_R_takeOperation_0 : ct_tab (T_R_takeOperation) 0 = some (o_aload 0 1) := rfl
theorem e_R_takeOperation_1 : ct_tab (T_R_takeOperation) 1 = some (o_getI 2 9 5) := rfl
theorem e_R_takeOperation_4 : ct_tab (T_R_takeOperation) 4 = some (o_istore 1 1) := rfl
theorem e_R_takeOperation_5 : ct_tab (T_R_takeOperation) 5 = some (o_aload 0 1) := rfl
theorem e_R_takeOperation_6 : ct_tab (T_R_takeOperation) 6 = some (o_push (.int 1) 1) := rfl
theorem e_R_takeOperation_10 : ct_tab (T_R_takeOperation) 10 = some (o_l2i) := rfl
theorem e_R_takeOperation_11 : ct_tab (T_R_takeOperation) 11 = some (o_istore 2 1) := rfl
theorem e_R_takeOperation_12 : ct_tab (T_R_takeOperation) 12 = some (o_iload 2 1) := rfl
theorem e_R_takeOperation_13 : ct_tab (T_R_takeOperation) 13 = some (o_push (.int 59) 2) := rfl
theorem e_R_takeOperation_15 : ct_tab (T_R_takeOperation) 15 = some (o_ic (fun x y => x ≤ y) (fun x y => ¬ x ≤ y) 26) := rfl
theorem e_R_takeOperation_18 : ct_tab (T_R_takeOperation) 18 = some (o_aload 0 1) := rfl
theorem e_R_takeOperation_19 : ct_tab (T_R_takeOperation) 19 = some (o_push (.int 5) 1) := rfl
theorem e_R_takeOperation_20 : ct_tab (T_R_takeOperation) 20 = some (o_iload 1 1) := rfl
theorem e_R_takeOperation_24 : ct_tab (T_R_takeOperation) 24 = some (o_push (.int 0) 1) := rfl
theorem e_R_takeOperation_26 : ct_tab (T_R_takeOperation) 26 = some (o_iload 2 1) := rfl
theorem cl_R_takeOperation_7 {l : ct_Lx} {d d1 : Nat} {Post Post1 : Option Value → ct_Sg → Prop} {lv : ct_Lv} {st : List Value} {g : ct_Sg} {bc bs c1 s1 : Nat} {a1 : Value} {h : Nat} (hsh : g.2.1 h = (10 + 2, 9)) (hM : ct_Me l M_R_take d1 c1 s1 [.ref h, a1] g Post1) (hdd : d1 + 1 ≤ d) (hk : (st.map fun v => v.category).sum ≤ 8) (hcc : c1 ≤ bc) (hss : s1 ≤ bs) (kk : ∀ (v : Option Value) (g' : ct_Sg), Post1 v g' → ct_Wp l M_R_takeOperation d Post (10, lv, v.toList ++ st, g', bc - c1, bs - s1)) : ct_Wp l M_R_takeOperation d Post (7, lv, a1 :: .ref h :: st, g, bc, bs) := ct_Wp.callV (ci := 2) (N := 9) (T := ct_T2) (As := [a1]) lk_R_take (Or.inl wd_65) wd_66 wd_67 rfl d_R_takeOperation_7 hsh hM rfl hdd hk hcc hss kk
theorem cl_R_takeOperation_21 {l : ct_Lx} {d d1 : Nat} {Post Post1 : Option Value → ct_Sg → Prop} {lv : ct_Lv} {st : List Value} {g : ct_Sg} {bc bs c1 s1 : Nat} {a1 a2 : Value} {h : Nat} (hsh : g.2.1 h = (10 + 2, 9)) (hM : ct_Me l M_R_fail d1 c1 s1 [.ref h, a1, a2] g Post1) (hdd : d1 + 1 ≤ d) (hk : (st.map fun v => v.category).sum ≤ 8) (hcc : c1 ≤ bc) (hss : s1 ≤ bs) (kk : ∀ (v : Option Value) (g' : ct_Sg), Post1 v g' → ct_Wp l M_R_takeOperation d Post (24, lv, v.toList ++ st, g', bc - c1, bs - s1)) : ct_Wp l M_R_takeOperation d Post (21, lv, a2 :: a1 :: .ref h :: st, g, bc, bs) := ct_Wp.callV (ci := 2) (N := 9) (T := ct_T2) (As := [a1, a2]) lk_R_fail (Or.inl wd_95) wd_96 wd_97 rfl d_R_takeOperation_21 hsh hM rfl hdd hk hcc hss kk
theorem d_R_takeFirstOperand_0 : decode prog_2_method_13_code 0 = .ok (.iload_n 1, 1) := by decide +kernel
theorem d_R_takeFirstOperand_1 : decode prog_2_method_13_code 1 = .ok (.tableswitch 103 2 8 #[43, 53, 53, 59, 75, 75, 93], 43) := by decide +kernel
theorem d_R_takeFirstOperand_44 : decode prog_2_method_13_code 44 = .ok (.aload_n 0, 1) := by decide +kernel
theorem d_R_takeFirstOperand_45 : decode prog_2_method_13_code 45 = .ok (.iconst 1, 1) := by decide +kernel
theorem d_R_takeFirstOperand_46 : decode prog_2_method_13_code 46 = .ok (.iload_n 2, 1) := by decide +kernel
theorem d_R_takeFirstOperand_47 : decode prog_2_method_13_code 47 = .ok (.bipush 10, 2) := by decide +kernel
theorem d_R_takeFirstOperand_49 : decode prog_2_method_13_code 49 = .ok (.invokevirtual 147, 3) := by decide +kernel
theorem d_R_takeFirstOperand_52 : decode prog_2_method_13_code 52 = .ok (.i2l, 1) := by decide +kernel
theorem d_R_takeFirstOperand_53 : decode prog_2_method_13_code 53 = .ok (.lreturn, 1) := by decide +kernel
theorem d_R_takeFirstOperand_54 : decode prog_2_method_13_code 54 = .ok (.aload_n 0, 1) := by decide +kernel
theorem d_R_takeFirstOperand_55 : decode prog_2_method_13_code 55 = .ok (.invokevirtual 150, 3) := by decide +kernel
theorem d_R_takeFirstOperand_58 : decode prog_2_method_13_code 58 = .ok (.i2l, 1) := by decide +kernel
theorem d_R_takeFirstOperand_59 : decode prog_2_method_13_code 59 = .ok (.lreturn, 1) := by decide +kernel
theorem d_R_takeFirstOperand_60 : decode prog_2_method_13_code 60 = .ok (.aload_n 0, 1) := by decide +kernel
theorem d_R_takeFirstOperand_61 : decode prog_2_method_13_code 61 = .ok (.iconst 1, 1) := by decide +kernel
theorem d_R_takeFirstOperand_62 : decode prog_2_method_13_code 62 = .ok (.aload_n 0, 1) := by decide +kernel
theorem d_R_takeFirstOperand_63 : decode prog_2_method_13_code 63 = .ok (.getfield 41, 3) := by decide +kernel
theorem d_R_takeFirstOperand_66 : decode prog_2_method_13_code 66 = .ok (.invokevirtual 153, 3) := by decide +kernel
theorem d_R_takeFirstOperand_69 : decode prog_2_method_13_code 69 = .ok (.bipush 11, 2) := by decide +kernel
theorem d_R_takeFirstOperand_71 : decode prog_2_method_13_code 71 = .ok (.invokevirtual 147, 3) := by decide +kernel
theorem d_R_takeFirstOperand_74 : decode prog_2_method_13_code 74 = .ok (.i2l, 1) := by decide +kernel
theorem d_R_takeFirstOperand_75 : decode prog_2_method_13_code 75 = .ok (.lreturn, 1) := by decide +kernel
theorem d_R_takeFirstOperand_76 : decode prog_2_method_13_code 76 = .ok (.aload_n 0, 1) := by decide +kernel
theorem d_R_takeFirstOperand_77 : decode prog_2_method_13_code 77 = .ok (.iconst 1, 1) := by decide +kernel
theorem d_R_takeFirstOperand_78 : decode prog_2_method_13_code 78 = .ok (.aload_n 0, 1) := by decide +kernel
theorem d_R_takeFirstOperand_79 : decode prog_2_method_13_code 79 = .ok (.getfield 41, 3) := by decide +kernel
theorem d_R_takeFirstOperand_82 : decode prog_2_method_13_code 82 = .ok (.getfield 48, 3) := by decide +kernel
theorem d_R_takeFirstOperand_85 : decode prog_2_method_13_code 85 = .ok (.iconst 4, 1) := by decide +kernel
theorem d_R_takeFirstOperand_86 : decode prog_2_method_13_code 86 = .ok (.iaload, 1) := by decide +kernel
theorem d_R_takeFirstOperand_87 : decode prog_2_method_13_code 87 = .ok (.bipush 12, 2) := by decide +kernel
theorem d_R_takeFirstOperand_89 : decode prog_2_method_13_code 89 = .ok (.invokevirtual 147, 3) := by decide +kernel
theorem d_R_takeFirstOperand_92 : decode prog_2_method_13_code 92 = .ok (.i2l, 1) := by decide +kernel
theorem d_R_takeFirstOperand_93 : decode prog_2_method_13_code 93 = .ok (.lreturn, 1) := by decide +kernel
theorem d_R_takeFirstOperand_94 : decode prog_2_method_13_code 94 = .ok (.aload_n 0, 1) := by decide +kernel
theorem d_R_takeFirstOperand_95 : decode prog_2_method_13_code 95 = .ok (.iconst 2, 1) := by decide +kernel
theorem d_R_takeFirstOperand_96 : decode prog_2_method_13_code 96 = .ok (.iload_n 3, 1) := by decide +kernel
theorem d_R_takeFirstOperand_97 : decode prog_2_method_13_code 97 = .ok (.bipush 13, 2) := by decide +kernel
theorem d_R_takeFirstOperand_99 : decode prog_2_method_13_code 99 = .ok (.invokevirtual 147, 3) := by decide +kernel
theorem d_R_takeFirstOperand_102 : decode prog_2_method_13_code 102 = .ok (.i2l, 1) := by decide +kernel
theorem d_R_takeFirstOperand_103 : decode prog_2_method_13_code 103 = .ok (.lreturn, 1) := by decide +kernel
theorem d_R_takeFirstOperand_104 : decode prog_2_method_13_code 104 = .ok (.aload_n 0, 1) := by decide +kernel
theorem d_R_takeFirstOperand_105 : decode prog_2_method_13_code 105 = .ok (.iload_n 1, 1) := by decide +kernel
theorem d_R_takeFirstOperand_106 : decode prog_2_method_13_code 106 = .ok (.invokestatic 156, 3) := by decide +kernel
theorem d_R_takeFirstOperand_109 : decode prog_2_method_13_code 109 = .ok (.invokevirtual 51, 3) := by decide +kernel
theorem d_R_takeFirstOperand_112 : decode prog_2_method_13_code 112 = .ok (.lreturn, 1) := by decide +kernel
abbrev T_R_takeFirstOperand : List (Nat × ct_PT) := [(0, o_iload 1 1), (1, o_sw [(2, 44), (3, 54), (4, 54), (5, 60), (6, 76), (7, 76), (8, 94)] 104), (44, o_aload 0 1), (45, o_push (.int 1) 1), (46, o_iload 2 1), (47, o_push (.int 10) 2), (52, o_i2l), (54, o_aload 0 1), (58, o_i2l), (60, o_aload 0 1), (61, o_push (.int 1) 1), (62, o_aload 0 1), (63, o_getR 2 9 0), (69, o_push (.int 11) 2), (74, o_i2l), (76, o_aload 0 1), (77, o_push (.int 1) 1), (78, o_aload 0 1), (79, o_getR 2 9 0), (82, o_getR 1 10 0), (85, o_push (.int 4) 1), (86, o_iald), (87, o_push (.int 12) 2), (92, o_i2l), (94, o_aload 0 1), (95, o_push (.int 2) 1), (96, o_iload 3 1), (97, o_push (.int 13) 2), (102, o_i2l), (104, o_aload 0 1), (105, o_iload 1 1)]
set_option maxRecDepth 100000 in
theorem A_R_takeFirstOperand (l : ct_Lx) : ct_al l M_R_takeFirstOperand (T_R_takeFirstOperand) := by
  refine ct_al.cons (so_iload_n d_R_takeFirstOperand_0 rfl) ?_
  refine ct_al.cons (so_tsw d_R_takeFirstOperand_1 (by decide) (by decide) (by decide) (by decide)) ?_
  refine ct_al.cons (so_aload_n d_R_takeFirstOperand_44 rfl) ?_
  refine ct_al.cons (so_iconst d_R_takeFirstOperand_45 (by decide)) ?_
  refine ct_al.cons (so_iload_n d_R_takeFirstOperand_46 rfl) ?_
  refine ct_al.cons (so_bipush d_R_takeFirstOperand_47 (by decide)) ?_
  refine ct_al.cons (so_i2l d_R_takeFirstOperand_52) ?_
  refine ct_al.cons (so_aload_n d_R_takeFirstOperand_54 rfl) ?_
  refine ct_al.cons (so_i2l d_R_takeFirstOperand_58) ?_
  refine ct_al.cons (so_aload_n d_R_takeFirstOperand_60 rfl) ?_
  refine ct_al.cons (so_iconst d_R_takeFirstOperand_61 (by decide)) ?_
  refine ct_al.cons (so_aload_n d_R_takeFirstOperand_62 rfl) ?_
  refine ct_al.cons (so_getR (Cn := "CodeTables$Reader") (T := ct_T2) kc_2 (by decide) rfl rfl wd_55 d_R_takeFirstOperand_63) ?_
  refine ct_al.cons (so_bipush d_R_takeFirstOperand_69 (by decide)) ?_
  refine ct_al.cons (so_i2l d_R_takeFirstOperand_74) ?_
  refine ct_al.cons (so_aload_n d_R_takeFirstOperand_76 rfl) ?_
  refine ct_al.cons (so_iconst d_R_takeFirstOperand_77 (by decide)) ?_
  refine ct_al.cons (so_aload_n d_R_takeFirstOperand_78 rfl) ?_
  refine ct_al.cons (so_getR (Cn := "CodeTables$Reader") (T := ct_T2) kc_2 (by decide) rfl rfl wd_55 d_R_takeFirstOperand_79) ?_
  refine ct_al.cons (so_getR (Cn := "CodeTables$Tables") (T := ct_T1) kc_1 (by decide) rfl rfl wd_62 d_R_takeFirstOperand_82) ?_
  refine ct_al.cons (so_iconst d_R_takeFirstOperand_85 (by decide)) ?_
  refine ct_al.cons (so_iald d_R_takeFirstOperand_86) ?_
  refine ct_al.cons (so_bipush d_R_takeFirstOperand_87 (by decide)) ?_
  refine ct_al.cons (so_i2l d_R_takeFirstOperand_92) ?_
  refine ct_al.cons (so_aload_n d_R_takeFirstOperand_94 rfl) ?_
  refine ct_al.cons (so_iconst d_R_takeFirstOperand_95 (by decide)) ?_
  refine ct_al.cons (so_iload_n d_R_takeFirstOperand_96 rfl) ?_
  refine ct_al.cons (so_bipush d_R_takeFirstOperand_97 (by decide)) ?_
  refine ct_al.cons (so_i2l d_R_takeFirstOperand_102) ?_
  refine ct_al.cons (so_aload_n d_R_takeFirstOperand_104 rfl) ?_
  refine ct_al.cons (so_iload_n d_R_takeFirstOperand_105 rfl) ?_
  exact ct_al.nil
theorem e_R_takeFirstOperand_0 : ct_tab (T_R_takeFirstOperand) 0 = some (o_iload 1 1) := rfl
theorem e_R_takeFirstOperand_1 : ct_tab (T_R_takeFirstOperand) 1 = some (o_sw [(2, 44), (3, 54), (4, 54), (5, 60), (6, 76), (7, 76), (8, 94)] 104) := rfl
theorem e_R_takeFirstOperand_44 : ct_tab (T_R_takeFirstOperand) 44 = some (o_aload 0 1) := rfl
theorem e_R_takeFirstOperand_45 : ct_tab (T_R_takeFirstOperand) 45 = some (o_push (.int 1) 1) := rfl
theorem e_R_takeFirstOperand_46 : ct_tab (T_R_takeFirstOperand) 46 = some (o_iload 2 1) := rfl
theorem e_R_takeFirstOperand_47 : ct_tab (T_R_takeFirstOperand) 47 = some (o_push (.int 10) 2) := rfl
theorem e_R_takeFirstOperand_52 : ct_tab (T_R_takeFirstOperand) 52 = some (o_i2l) := rfl
theorem e_R_takeFirstOperand_54 : ct_tab (T_R_takeFirstOperand) 54 = some (o_aload 0 1) := rfl
theorem e_R_takeFirstOperand_58 : ct_tab (T_R_takeFirstOperand) 58 = some (o_i2l) := rfl
theorem e_R_takeFirstOperand_60 : ct_tab (T_R_takeFirstOperand) 60 = some (o_aload 0 1) := rfl
theorem e_R_takeFirstOperand_61 : ct_tab (T_R_takeFirstOperand) 61 = some (o_push (.int 1) 1) := rfl
theorem e_R_takeFirstOperand_62 : ct_tab (T_R_takeFirstOperand) 62 = some (o_aload 0 1) := rfl
theorem e_R_takeFirstOperand_63 : ct_tab (T_R_takeFirstOperand) 63 = some (o_getR 2 9 0) := rfl
theorem e_R_takeFirstOperand_69 : ct_tab (T_R_takeFirstOperand) 69 = some (o_push (.int 11) 2) := rfl
theorem e_R_takeFirstOperand_74 : ct_tab (T_R_takeFirstOperand) 74 = some (o_i2l) := rfl
theorem e_R_takeFirstOperand_76 : ct_tab (T_R_takeFirstOperand) 76 = some (o_aload 0 1) := rfl
theorem e_R_takeFirstOperand_77 : ct_tab (T_R_takeFirstOperand) 77 = some (o_push (.int 1) 1) := rfl
theorem e_R_takeFirstOperand_78 : ct_tab (T_R_takeFirstOperand) 78 = some (o_aload 0 1) := rfl
theorem e_R_takeFirstOperand_79 : ct_tab (T_R_takeFirstOperand) 79 = some (o_getR 2 9 0) := rfl
theorem e_R_takeFirstOperand_82 : ct_tab (T_R_takeFirstOperand) 82 = some (o_getR 1 10 0) := rfl
theorem e_R_takeFirstOperand_85 : ct_tab (T_R_takeFirstOperand) 85 = some (o_push (.int 4) 1) := rfl
theorem e_R_takeFirstOperand_86 : ct_tab (T_R_takeFirstOperand) 86 = some (o_iald) := rfl
theorem e_R_takeFirstOperand_87 : ct_tab (T_R_takeFirstOperand) 87 = some (o_push (.int 12) 2) := rfl
theorem e_R_takeFirstOperand_92 : ct_tab (T_R_takeFirstOperand) 92 = some (o_i2l) := rfl
theorem e_R_takeFirstOperand_94 : ct_tab (T_R_takeFirstOperand) 94 = some (o_aload 0 1) := rfl
theorem e_R_takeFirstOperand_95 : ct_tab (T_R_takeFirstOperand) 95 = some (o_push (.int 2) 1) := rfl
theorem e_R_takeFirstOperand_96 : ct_tab (T_R_takeFirstOperand) 96 = some (o_iload 3 1) := rfl
theorem e_R_takeFirstOperand_97 : ct_tab (T_R_takeFirstOperand) 97 = some (o_push (.int 13) 2) := rfl
theorem e_R_takeFirstOperand_102 : ct_tab (T_R_takeFirstOperand) 102 = some (o_i2l) := rfl
theorem e_R_takeFirstOperand_104 : ct_tab (T_R_takeFirstOperand) 104 = some (o_aload 0 1) := rfl
theorem e_R_takeFirstOperand_105 : ct_tab (T_R_takeFirstOperand) 105 = some (o_iload 1 1) := rfl
theorem cl_R_takeFirstOperand_49 {l : ct_Lx} {d d1 : Nat} {Post Post1 : Option Value → ct_Sg → Prop} {lv : ct_Lv} {st : List Value} {g : ct_Sg} {bc bs c1 s1 : Nat} {a1 a2 a3 : Value} {h : Nat} (hsh : g.2.1 h = (10 + 2, 9)) (hM : ct_Me l M_R_takeName d1 c1 s1 [.ref h, a1, a2, a3] g Post1) (hdd : d1 + 1 ≤ d) (hk : (st.map fun v => v.category).sum ≤ 8) (hcc : c1 ≤ bc) (hss : s1 ≤ bs) (kk : ∀ (v : Option Value) (g' : ct_Sg), Post1 v g' → ct_Wp l M_R_takeFirstOperand d Post (52, lv, v.toList ++ st, g', bc - c1, bs - s1)) : ct_Wp l M_R_takeFirstOperand d Post (49, lv, a3 :: a2 :: a1 :: .ref h :: st, g, bc, bs) := ct_Wp.callV (ci := 2) (N := 9) (T := ct_T2) (As := [a1, a2, a3]) lk_R_takeName (Or.inl wd_154) wd_155 wd_156 rfl d_R_takeFirstOperand_49 hsh hM rfl hdd hk hcc hss kk
theorem cl_R_takeFirstOperand_55 {l : ct_Lx} {d d1 : Nat} {Post Post1 : Option Value → ct_Sg → Prop} {lv : ct_Lv} {st : List Value} {g : ct_Sg} {bc bs c1 s1 : Nat} {h : Nat} (hsh : g.2.1 h = (10 + 2, 9)) (hM : ct_Me l M_R_takeOwnStructure d1 c1 s1 [.ref h] g Post1) (hdd : d1 + 1 ≤ d) (hk : (st.map fun v => v.category).sum ≤ 8) (hcc : c1 ≤ bc) (hss : s1 ≤ bs) (kk : ∀ (v : Option Value) (g' : ct_Sg), Post1 v g' → ct_Wp l M_R_takeFirstOperand d Post (58, lv, v.toList ++ st, g', bc - c1, bs - s1)) : ct_Wp l M_R_takeFirstOperand d Post (55, lv, .ref h :: st, g, bc, bs) := ct_Wp.callV (ci := 2) (N := 9) (T := ct_T2) (As := []) lk_R_takeOwnStructure (Or.inl wd_159) wd_160 wd_161 rfl d_R_takeFirstOperand_55 hsh hM rfl hdd hk hcc hss kk
theorem cl_R_takeFirstOperand_66 {l : ct_Lx} {d d1 : Nat} {Post Post1 : Option Value → ct_Sg → Prop} {lv : ct_Lv} {st : List Value} {g : ct_Sg} {bc bs c1 s1 : Nat} {h : Nat} (hsh : g.2.1 h = (10 + 1, 10)) (hM : ct_Me l M_T_allFunctions d1 c1 s1 [.ref h] g Post1) (hdd : d1 + 1 ≤ d) (hk : (st.map fun v => v.category).sum ≤ 8) (hcc : c1 ≤ bc) (hss : s1 ≤ bs) (kk : ∀ (v : Option Value) (g' : ct_Sg), Post1 v g' → ct_Wp l M_R_takeFirstOperand d Post (69, lv, v.toList ++ st, g', bc - c1, bs - s1)) : ct_Wp l M_R_takeFirstOperand d Post (66, lv, .ref h :: st, g, bc, bs) := ct_Wp.callV (ci := 1) (N := 10) (T := ct_T1) (As := []) lk_T_allFunctions (Or.inl wd_162) wd_30 wd_31 rfl d_R_takeFirstOperand_66 hsh hM rfl hdd hk hcc hss kk
theorem cl_R_takeFirstOperand_71 {l : ct_Lx} {d d1 : Nat} {Post Post1 : Option Value → ct_Sg → Prop} {lv : ct_Lv} {st : List Value} {g : ct_Sg} {bc bs c1 s1 : Nat} {a1 a2 a3 : Value} {h : Nat} (hsh : g.2.1 h = (10 + 2, 9)) (hM : ct_Me l M_R_takeName d1 c1 s1 [.ref h, a1, a2, a3] g Post1) (hdd : d1 + 1 ≤ d) (hk : (st.map fun v => v.category).sum ≤ 8) (hcc : c1 ≤ bc) (hss : s1 ≤ bs) (kk : ∀ (v : Option Value) (g' : ct_Sg), Post1 v g' → ct_Wp l M_R_takeFirstOperand d Post (74, lv, v.toList ++ st, g', bc - c1, bs - s1)) : ct_Wp l M_R_takeFirstOperand d Post (71, lv, a3 :: a2 :: a1 :: .ref h :: st, g, bc, bs) := ct_Wp.callV (ci := 2) (N := 9) (T := ct_T2) (As := [a1, a2, a3]) lk_R_takeName (Or.inl wd_154) wd_155 wd_156 rfl d_R_takeFirstOperand_71 hsh hM rfl hdd hk hcc hss kk
theorem cl_R_takeFirstOperand_89 {l : ct_Lx} {d d1 : Nat} {Post Post1 : Option Value → ct_Sg → Prop} {lv : ct_Lv} {st : List Value} {g : ct_Sg} {bc bs c1 s1 : Nat} {a1 a2 a3 : Value} {h : Nat} (hsh : g.2.1 h = (10 + 2, 9)) (hM : ct_Me l M_R_takeName d1 c1 s1 [.ref h, a1, a2, a3] g Post1) (hdd : d1 + 1 ≤ d) (hk : (st.map fun v => v.category).sum ≤ 8) (hcc : c1 ≤ bc) (hss : s1 ≤ bs) (kk : ∀ (v : Option Value) (g' : ct_Sg), Post1 v g' → ct_Wp l M_R_takeFirstOperand d Post (92, lv, v.toList ++ st, g', bc - c1, bs - s1)) : ct_Wp l M_R_takeFirstOperand d Post (89, lv, a3 :: a2 :: a1 :: .ref h :: st, g, bc, bs) := ct_Wp.callV (ci := 2) (N := 9) (T := ct_T2) (As := [a1, a2, a3]) lk_R_takeName (Or.inl wd_154) wd_155 wd_156 rfl d_R_takeFirstOperand_89 hsh hM rfl hdd hk hcc hss kk
theorem cl_R_takeFirstOperand_99 {l : ct_Lx} {d d1 : Nat} {Post Post1 : Option Value → ct_Sg → Prop} {lv : ct_Lv} {st : List Value} {g : ct_Sg} {bc bs c1 s1 : Nat} {a1 a2 a3 : Value} {h : Nat} (hsh : g.2.1 h = (10 + 2, 9)) (hM : ct_Me l M_R_takeName d1 c1 s1 [.ref h, a1, a2, a3] g Post1) (hdd : d1 + 1 ≤ d) (hk : (st.map fun v => v.category).sum ≤ 8) (hcc : c1 ≤ bc) (hss : s1 ≤ bs) (kk : ∀ (v : Option Value) (g' : ct_Sg), Post1 v g' → ct_Wp l M_R_takeFirstOperand d Post (102, lv, v.toList ++ st, g', bc - c1, bs - s1)) : ct_Wp l M_R_takeFirstOperand d Post (99, lv, a3 :: a2 :: a1 :: .ref h :: st, g, bc, bs) := ct_Wp.callV (ci := 2) (N := 9) (T := ct_T2) (As := [a1, a2, a3]) lk_R_takeName (Or.inl wd_154) wd_155 wd_156 rfl d_R_takeFirstOperand_99 hsh hM rfl hdd hk hcc hss kk
theorem cl_R_takeFirstOperand_106 {l : ct_Lx} {d d1 : Nat} {Post Post1 : Option Value → ct_Sg → Prop} {lv : ct_Lv} {st : List Value} {g : ct_Sg} {bc bs c1 s1 : Nat} {a1 : Value} (hM : ct_Me l M_S_firstSize d1 c1 s1 [a1] g Post1) (hdd : d1 + 1 ≤ d) (hk : (st.map fun v => v.category).sum ≤ 8) (hcc : c1 ≤ bc) (hss : s1 ≤ bs) (kk : ∀ (v : Option Value) (g' : ct_Sg), Post1 v g' → ct_Wp l M_R_takeFirstOperand d Post (109, lv, v.toList ++ st, g', bc - c1, bs - s1)) : ct_Wp l M_R_takeFirstOperand d Post (106, lv, a1 :: st, g, bc, bs) := ct_Wp.callS (As := [a1]) lk_S_firstSize (Or.inl wd_165) wd_166 d_R_takeFirstOperand_106 hM rfl hdd hk hcc hss kk
theorem cl_R_takeFirstOperand_109 {l : ct_Lx} {d d1 : Nat} {Post Post1 : Option Value → ct_Sg → Prop} {lv : ct_Lv} {st : List Value} {g : ct_Sg} {bc bs c1 s1 : Nat} {a1 : Value} {h : Nat} (hsh : g.2.1 h = (10 + 2, 9)) (hM : ct_Me l M_R_take d1 c1 s1 [.ref h, a1] g Post1) (hdd : d1 + 1 ≤ d) (hk : (st.map fun v => v.category).sum ≤ 8) (hcc : c1 ≤ bc) (hss : s1 ≤ bs) (kk : ∀ (v : Option Value) (g' : ct_Sg), Post1 v g' → ct_Wp l M_R_takeFirstOperand d Post (112, lv, v.toList ++ st, g', bc - c1, bs - s1)) : ct_Wp l M_R_takeFirstOperand d Post (109, lv, a1 :: .ref h :: st, g, bc, bs) := ct_Wp.callV (ci := 2) (N := 9) (T := ct_T2) (As := [a1]) lk_R_take (Or.inl wd_65) wd_66 wd_67 rfl d_R_takeFirstOperand_109 hsh hM rfl hdd hk hcc hss kk
theorem d_R_takeSecondOperand_0 : decode prog_2_method_14_code 0 = .ok (.iload_n 1, 1) := by decide +kernel
theorem d_R_takeSecondOperand_1 : decode prog_2_method_14_code 1 = .ok (.lookupswitch 55 #[(4, 27), (7, 45)], 27) := by decide +kernel
theorem d_R_takeSecondOperand_28 : decode prog_2_method_14_code 28 = .ok (.aload_n 0, 1) := by decide +kernel
theorem d_R_takeSecondOperand_29 : decode prog_2_method_14_code 29 = .ok (.iconst 1, 1) := by decide +kernel
theorem d_R_takeSecondOperand_30 : decode prog_2_method_14_code 30 = .ok (.aload_n 0, 1) := by decide +kernel
theorem d_R_takeSecondOperand_31 : decode prog_2_method_14_code 31 = .ok (.getfield 41, 3) := by decide +kernel
theorem d_R_takeSecondOperand_34 : decode prog_2_method_14_code 34 = .ok (.iload_n 2, 1) := by decide +kernel
theorem d_R_takeSecondOperand_35 : decode prog_2_method_14_code 35 = .ok (.iconst 1, 1) := by decide +kernel
theorem d_R_takeSecondOperand_36 : decode prog_2_method_14_code 36 = .ok (.invokevirtual 159, 3) := by decide +kernel
theorem d_R_takeSecondOperand_39 : decode prog_2_method_14_code 39 = .ok (.bipush 9, 2) := by decide +kernel
theorem d_R_takeSecondOperand_41 : decode prog_2_method_14_code 41 = .ok (.invokevirtual 147, 3) := by decide +kernel
theorem d_R_takeSecondOperand_44 : decode prog_2_method_14_code 44 = .ok (.i2l, 1) := by decide +kernel
theorem d_R_takeSecondOperand_45 : decode prog_2_method_14_code 45 = .ok (.lreturn, 1) := by decide +kernel
theorem d_R_takeSecondOperand_46 : decode prog_2_method_14_code 46 = .ok (.aload_n 0, 1) := by decide +kernel
theorem d_R_takeSecondOperand_47 : decode prog_2_method_14_code 47 = .ok (.iconst 1, 1) := by decide +kernel
theorem d_R_takeSecondOperand_48 : decode prog_2_method_14_code 48 = .ok (.iconst 0, 1) := by decide +kernel
theorem d_R_takeSecondOperand_49 : decode prog_2_method_14_code 49 = .ok (.bipush 64, 2) := by decide +kernel
theorem d_R_takeSecondOperand_51 : decode prog_2_method_14_code 51 = .ok (.invokevirtual 77, 3) := by decide +kernel
theorem d_R_takeSecondOperand_54 : decode prog_2_method_14_code 54 = .ok (.i2l, 1) := by decide +kernel
theorem d_R_takeSecondOperand_55 : decode prog_2_method_14_code 55 = .ok (.lreturn, 1) := by decide +kernel
theorem d_R_takeSecondOperand_56 : decode prog_2_method_14_code 56 = .ok (.aload_n 0, 1) := by decide +kernel
theorem d_R_takeSecondOperand_57 : decode prog_2_method_14_code 57 = .ok (.iload_n 1, 1) := by decide +kernel
theorem d_R_takeSecondOperand_58 : decode prog_2_method_14_code 58 = .ok (.invokestatic 162, 3) := by decide +kernel
theorem d_R_takeSecondOperand_61 : decode prog_2_method_14_code 61 = .ok (.invokevirtual 51, 3) := by decide +kernel
theorem d_R_takeSecondOperand_64 : decode prog_2_method_14_code 64 = .ok (.lreturn, 1) := by decide +kernel
abbrev T_R_takeSecondOperand : List (Nat × ct_PT) := [(0, o_iload 1 1), (1, o_sw [(4, 28), (7, 46)] 56), (28, o_aload 0 1), (29, o_push (.int 1) 1), (30, o_aload 0 1), (31, o_getR 2 9 0), (34, o_iload 2 1), (35, o_push (.int 1) 1), (39, o_push (.int 9) 2), (44, o_i2l), (46, o_aload 0 1), (47, o_push (.int 1) 1), (48, o_push (.int 0) 1), (49, o_push (.int 64) 2), (54, o_i2l), (56, o_aload 0 1), (57, o_iload 1 1)]
set_option maxRecDepth 100000 in
theorem A_R_takeSecondOperand (l : ct_Lx) : ct_al l M_R_takeSecondOperand (T_R_takeSecondOperand) := by
  refine ct_al.cons (so_iload_n d_R_takeSecondOperand_0 rfl) ?_
  refine ct_al.cons (so_lsw d_R_takeSecondOperand_1 (by decide) (by decide) (by decide)) ?_
  refine ct_al.cons (so_aload_n d_R_takeSecondOperand_28 rfl) ?_
  refine ct_al.cons (so_iconst d_R_takeSecondOperand_29 (by decide)) ?_
  refine ct_al.cons (so_aload_n d_R_takeSecondOperand_30 rfl) ?_
  refine ct_al.cons (so_getR (Cn := "CodeTables$Reader") (T := ct_T2) kc_2 (by decide) rfl rfl wd_55 d_R_takeSecondOperand_31) ?_
  refine ct_al.cons (so_iload_n d_R_takeSecondOperand_34 rfl) ?_
  refine ct_al.cons (so_iconst d_R_takeSecondOperand_35 (by decide)) ?_
  refine ct_al.cons (so_bipush d_R_takeSecondOperand_39 (by decide)) ?_
  refine ct_al.cons (so_i2l d_R_takeSecondOperand_44) ?_
  refine ct_al.cons (so_aload_n d_R_takeSecondOperand_46 rfl) ?_
  refine ct_al.cons (so_iconst d_R_takeSecondOperand_47 (by decide)) ?_
  refine ct_al.cons (so_iconst d_R_takeSecondOperand_48 (by decide)) ?_
  refine ct_al.cons (so_bipush d_R_takeSecondOperand_49 (by decide)) ?_
  refine ct_al.cons (so_i2l d_R_takeSecondOperand_54) ?_
  refine ct_al.cons (so_aload_n d_R_takeSecondOperand_56 rfl) ?_
  refine ct_al.cons (so_iload_n d_R_takeSecondOperand_57 rfl) ?_
  exact ct_al.nil
theorem e_R_takeSecondOperand_0 : ct_tab (T_R_takeSecondOperand) 0 = some (o_iload 1 1) := rfl
theorem e_R_takeSecondOperand_1 : ct_tab (T_R_takeSecondOperand) 1 = some (o_sw [(4, 28), (7, 46)] 56) := rfl
theorem e_R_takeSecondOperand_28 : ct_tab (T_R_takeSecondOperand) 28 = some (o_aload 0 1) := rfl
theorem e_R_takeSecondOperand_29 : ct_tab (T_R_takeSecondOperand) 29 = some (o_push (.int 1) 1) := rfl
theorem e_R_takeSecondOperand_30 : ct_tab (T_R_takeSecondOperand) 30 = some (o_aload 0 1) := rfl
theorem e_R_takeSecondOperand_31 : ct_tab (T_R_takeSecondOperand) 31 = some (o_getR 2 9 0) := rfl
theorem e_R_takeSecondOperand_34 : ct_tab (T_R_takeSecondOperand) 34 = some (o_iload 2 1) := rfl
theorem e_R_takeSecondOperand_35 : ct_tab (T_R_takeSecondOperand) 35 = some (o_push (.int 1) 1) := rfl
theorem e_R_takeSecondOperand_39 : ct_tab (T_R_takeSecondOperand) 39 = some (o_push (.int 9) 2) := rfl
theorem e_R_takeSecondOperand_44 : ct_tab (T_R_takeSecondOperand) 44 = some (o_i2l) := rfl
theorem e_R_takeSecondOperand_46 : ct_tab (T_R_takeSecondOperand) 46 = some (o_aload 0 1) := rfl
theorem e_R_takeSecondOperand_47 : ct_tab (T_R_takeSecondOperand) 47 = some (o_push (.int 1) 1) := rfl
theorem e_R_takeSecondOperand_48 : ct_tab (T_R_takeSecondOperand) 48 = some (o_push (.int 0) 1) := rfl
theorem e_R_takeSecondOperand_49 : ct_tab (T_R_takeSecondOperand) 49 = some (o_push (.int 64) 2) := rfl
theorem e_R_takeSecondOperand_54 : ct_tab (T_R_takeSecondOperand) 54 = some (o_i2l) := rfl
theorem e_R_takeSecondOperand_56 : ct_tab (T_R_takeSecondOperand) 56 = some (o_aload 0 1) := rfl
theorem e_R_takeSecondOperand_57 : ct_tab (T_R_takeSecondOperand) 57 = some (o_iload 1 1) := rfl
theorem cl_R_takeSecondOperand_36 {l : ct_Lx} {d d1 : Nat} {Post Post1 : Option Value → ct_Sg → Prop} {lv : ct_Lv} {st : List Value} {g : ct_Sg} {bc bs c1 s1 : Nat} {a1 a2 : Value} {h : Nat} (hsh : g.2.1 h = (10 + 1, 10)) (hM : ct_Me l M_T_structureFact d1 c1 s1 [.ref h, a1, a2] g Post1) (hdd : d1 + 1 ≤ d) (hk : (st.map fun v => v.category).sum ≤ 8) (hcc : c1 ≤ bc) (hss : s1 ≤ bs) (kk : ∀ (v : Option Value) (g' : ct_Sg), Post1 v g' → ct_Wp l M_R_takeSecondOperand d Post (39, lv, v.toList ++ st, g', bc - c1, bs - s1)) : ct_Wp l M_R_takeSecondOperand d Post (36, lv, a2 :: a1 :: .ref h :: st, g, bc, bs) := ct_Wp.callV (ci := 1) (N := 10) (T := ct_T1) (As := [a1, a2]) lk_T_structureFact (Or.inl wd_167) wd_25 wd_26 rfl d_R_takeSecondOperand_36 hsh hM rfl hdd hk hcc hss kk
theorem cl_R_takeSecondOperand_41 {l : ct_Lx} {d d1 : Nat} {Post Post1 : Option Value → ct_Sg → Prop} {lv : ct_Lv} {st : List Value} {g : ct_Sg} {bc bs c1 s1 : Nat} {a1 a2 a3 : Value} {h : Nat} (hsh : g.2.1 h = (10 + 2, 9)) (hM : ct_Me l M_R_takeName d1 c1 s1 [.ref h, a1, a2, a3] g Post1) (hdd : d1 + 1 ≤ d) (hk : (st.map fun v => v.category).sum ≤ 8) (hcc : c1 ≤ bc) (hss : s1 ≤ bs) (kk : ∀ (v : Option Value) (g' : ct_Sg), Post1 v g' → ct_Wp l M_R_takeSecondOperand d Post (44, lv, v.toList ++ st, g', bc - c1, bs - s1)) : ct_Wp l M_R_takeSecondOperand d Post (41, lv, a3 :: a2 :: a1 :: .ref h :: st, g, bc, bs) := ct_Wp.callV (ci := 2) (N := 9) (T := ct_T2) (As := [a1, a2, a3]) lk_R_takeName (Or.inl wd_154) wd_155 wd_156 rfl d_R_takeSecondOperand_41 hsh hM rfl hdd hk hcc hss kk
theorem cl_R_takeSecondOperand_51 {l : ct_Lx} {d d1 : Nat} {Post Post1 : Option Value → ct_Sg → Prop} {lv : ct_Lv} {st : List Value} {g : ct_Sg} {bc bs c1 s1 : Nat} {a1 a2 a3 : Value} {h : Nat} (hsh : g.2.1 h = (10 + 2, 9)) (hM : ct_Me l M_R_takeWithin d1 c1 s1 [.ref h, a1, a2, a3] g Post1) (hdd : d1 + 1 ≤ d) (hk : (st.map fun v => v.category).sum ≤ 8) (hcc : c1 ≤ bc) (hss : s1 ≤ bs) (kk : ∀ (v : Option Value) (g' : ct_Sg), Post1 v g' → ct_Wp l M_R_takeSecondOperand d Post (54, lv, v.toList ++ st, g', bc - c1, bs - s1)) : ct_Wp l M_R_takeSecondOperand d Post (51, lv, a3 :: a2 :: a1 :: .ref h :: st, g, bc, bs) := ct_Wp.callV (ci := 2) (N := 9) (T := ct_T2) (As := [a1, a2, a3]) lk_R_takeWithin (Or.inl wd_100) wd_101 wd_102 rfl d_R_takeSecondOperand_51 hsh hM rfl hdd hk hcc hss kk
theorem cl_R_takeSecondOperand_58 {l : ct_Lx} {d d1 : Nat} {Post Post1 : Option Value → ct_Sg → Prop} {lv : ct_Lv} {st : List Value} {g : ct_Sg} {bc bs c1 s1 : Nat} {a1 : Value} (hM : ct_Me l M_S_secondSize d1 c1 s1 [a1] g Post1) (hdd : d1 + 1 ≤ d) (hk : (st.map fun v => v.category).sum ≤ 8) (hcc : c1 ≤ bc) (hss : s1 ≤ bs) (kk : ∀ (v : Option Value) (g' : ct_Sg), Post1 v g' → ct_Wp l M_R_takeSecondOperand d Post (61, lv, v.toList ++ st, g', bc - c1, bs - s1)) : ct_Wp l M_R_takeSecondOperand d Post (58, lv, a1 :: st, g, bc, bs) := ct_Wp.callS (As := [a1]) lk_S_secondSize (Or.inl wd_170) wd_171 d_R_takeSecondOperand_58 hM rfl hdd hk hcc hss kk
theorem cl_R_takeSecondOperand_61 {l : ct_Lx} {d d1 : Nat} {Post Post1 : Option Value → ct_Sg → Prop} {lv : ct_Lv} {st : List Value} {g : ct_Sg} {bc bs c1 s1 : Nat} {a1 : Value} {h : Nat} (hsh : g.2.1 h = (10 + 2, 9)) (hM : ct_Me l M_R_take d1 c1 s1 [.ref h, a1] g Post1) (hdd : d1 + 1 ≤ d) (hk : (st.map fun v => v.category).sum ≤ 8) (hcc : c1 ≤ bc) (hss : s1 ≤ bs) (kk : ∀ (v : Option Value) (g' : ct_Sg), Post1 v g' → ct_Wp l M_R_takeSecondOperand d Post (64, lv, v.toList ++ st, g', bc - c1, bs - s1)) : ct_Wp l M_R_takeSecondOperand d Post (61, lv, a1 :: .ref h :: st, g, bc, bs) := ct_Wp.callV (ci := 2) (N := 9) (T := ct_T2) (As := [a1]) lk_R_take (Or.inl wd_65) wd_66 wd_67 rfl d_R_takeSecondOperand_61 hsh hM rfl hdd hk hcc hss kk
theorem d_R_takeOwnStructure_0 : decode prog_2_method_15_code 0 = .ok (.aload_n 0, 1) := by decide +kernel
theorem d_R_takeOwnStructure_1 : decode prog_2_method_15_code 1 = .ok (.getfield 28, 3) := by decide +kernel
theorem d_R_takeOwnStructure_4 : decode prog_2_method_15_code 4 = .ok (.istore_n 1, 1) := by decide +kernel
theorem d_R_takeOwnStructure_5 : decode prog_2_method_15_code 5 = .ok (.aload_n 0, 1) := by decide +kernel
theorem d_R_takeOwnStructure_6 : decode prog_2_method_15_code 6 = .ok (.iconst 1, 1) := by decide +kernel
theorem d_R_takeOwnStructure_7 : decode prog_2_method_15_code 7 = .ok (.invokevirtual 51, 3) := by decide +kernel
theorem d_R_takeOwnStructure_10 : decode prog_2_method_15_code 10 = .ok (.l2i, 1) := by decide +kernel
theorem d_R_takeOwnStructure_11 : decode prog_2_method_15_code 11 = .ok (.istore_n 2, 1) := by decide +kernel
theorem d_R_takeOwnStructure_12 : decode prog_2_method_15_code 12 = .ok (.aload_n 0, 1) := by decide +kernel
theorem d_R_takeOwnStructure_13 : decode prog_2_method_15_code 13 = .ok (.getfield 31, 3) := by decide +kernel
theorem d_R_takeOwnStructure_16 : decode prog_2_method_15_code 16 = .ok (.ifCond .eq 39, 3) := by decide +kernel
theorem d_R_takeOwnStructure_19 : decode prog_2_method_15_code 19 = .ok (.iload_n 2, 1) := by decide +kernel
theorem d_R_takeOwnStructure_20 : decode prog_2_method_15_code 20 = .ok (.aload_n 0, 1) := by decide +kernel
theorem d_R_takeOwnStructure_21 : decode prog_2_method_15_code 21 = .ok (.getfield 41, 3) := by decide +kernel
theorem d_R_takeOwnStructure_24 : decode prog_2_method_15_code 24 = .ok (.getfield 48, 3) := by decide +kernel
theorem d_R_takeOwnStructure_27 : decode prog_2_method_15_code 27 = .ok (.iconst 1, 1) := by decide +kernel
theorem d_R_takeOwnStructure_28 : decode prog_2_method_15_code 28 = .ok (.iaload, 1) := by decide +kernel
theorem d_R_takeOwnStructure_29 : decode prog_2_method_15_code 29 = .ok (.if_icmp .lt 26, 3) := by decide +kernel
theorem d_R_takeOwnStructure_32 : decode prog_2_method_15_code 32 = .ok (.aload_n 0, 1) := by decide +kernel
theorem d_R_takeOwnStructure_33 : decode prog_2_method_15_code 33 = .ok (.iload_n 2, 1) := by decide +kernel
theorem d_R_takeOwnStructure_34 : decode prog_2_method_15_code 34 = .ok (.aload_n 0, 1) := by decide +kernel
theorem d_R_takeOwnStructure_35 : decode prog_2_method_15_code 35 = .ok (.getfield 41, 3) := by decide +kernel
theorem d_R_takeOwnStructure_38 : decode prog_2_method_15_code 38 = .ok (.invokevirtual 165, 3) := by decide +kernel
theorem d_R_takeOwnStructure_41 : decode prog_2_method_15_code 41 = .ok (.if_icmp .ge 8, 3) := by decide +kernel
theorem d_R_takeOwnStructure_44 : decode prog_2_method_15_code 44 = .ok (.bipush 8, 2) := by decide +kernel
theorem d_R_takeOwnStructure_46 : decode prog_2_method_15_code 46 = .ok (.goto 5, 3) := by decide +kernel
theorem d_R_takeOwnStructure_49 : decode prog_2_method_15_code 49 = .ok (.bipush 7, 2) := by decide +kernel
theorem d_R_takeOwnStructure_51 : decode prog_2_method_15_code 51 = .ok (.iload_n 1, 1) := by decide +kernel
theorem d_R_takeOwnStructure_52 : decode prog_2_method_15_code 52 = .ok (.invokevirtual 70, 3) := by decide +kernel
theorem d_R_takeOwnStructure_55 : decode prog_2_method_15_code 55 = .ok (.iload_n 2, 1) := by decide +kernel
theorem d_R_takeOwnStructure_56 : decode prog_2_method_15_code 56 = .ok (.ireturn, 1) := by decide +kernel
abbrev T_R_takeOwnStructure : List (Nat × ct_PT) := [(0, o_aload 0 1), (1, o_getI 2 9 5), (4, o_istore 1 1), (5, o_aload 0 1), (6, o_push (.int 1) 1), (10, o_l2i), (11, o_istore 2 1), (12, o_aload 0 1), (13, o_getI 2 9 6), (16, o_if (fun x => x = 0) (fun x => ¬ x = 0) 55), (19, o_iload 2 1), (20, o_aload 0 1), (21, o_getR 2 9 0), (24, o_getR 1 10 0), (27, o_push (.int 1) 1), (28, o_iald), (29, o_ic (fun x y => x < y) (fun x y => ¬ x < y) 55), (32, o_aload 0 1), (33, o_iload 2 1), (34, o_aload 0 1), (35, o_getR 2 9 0), (41, o_ic (fun x y => y ≤ x) (fun x y => ¬ y ≤ x) 49), (44, o_push (.int 8) 2), (46, o_goto 51), (49, o_push (.int 7) 2), (51, o_iload 1 1), (55, o_iload 2 1)]
set_option maxRecDepth 100000 in
theorem A_R_takeOwnStructure (l : ct_Lx) : ct_al l M_R_takeOwnStructure (T_R_takeOwnStructure) := by
  refine ct_al.cons (so_aload_n d_R_takeOwnStructure_0 rfl) ?_
  refine ct_al.cons (so_getI (Cn := "CodeTables$Reader") (T := ct_T2) kc_2 (by decide) rfl rfl wd_51 d_R_takeOwnStructure_1) ?_
  refine ct_al.cons (so_istore_n d_R_takeOwnStructure_4 rfl (by decide)) ?_
  refine ct_al.cons (so_aload_n d_R_takeOwnStructure_5 rfl) ?_
  refine ct_al.cons (so_iconst d_R_takeOwnStructure_6 (by decide)) ?_
  refine ct_al.cons (so_l2i d_R_takeOwnStructure_10) ?_
  refine ct_al.cons (so_istore_n d_R_takeOwnStructure_11 rfl (by decide)) ?_
  refine ct_al.cons (so_aload_n d_R_takeOwnStructure_12 rfl) ?_
  refine ct_al.cons (so_getI (Cn := "CodeTables$Reader") (T := ct_T2) kc_2 (by decide) rfl rfl wd_52 d_R_takeOwnStructure_13) ?_
  refine ct_al.cons (so_if_eq d_R_takeOwnStructure_16 (by decide)) ?_
  refine ct_al.cons (so_iload_n d_R_takeOwnStructure_19 rfl) ?_
  refine ct_al.cons (so_aload_n d_R_takeOwnStructure_20 rfl) ?_
  refine ct_al.cons (so_getR (Cn := "CodeTables$Reader") (T := ct_T2) kc_2 (by decide) rfl rfl wd_55 d_R_takeOwnStructure_21) ?_
  refine ct_al.cons (so_getR (Cn := "CodeTables$Tables") (T := ct_T1) kc_1 (by decide) rfl rfl wd_62 d_R_takeOwnStructure_24) ?_
  refine ct_al.cons (so_iconst d_R_takeOwnStructure_27 (by decide)) ?_
  refine ct_al.cons (so_iald d_R_takeOwnStructure_28) ?_
  refine ct_al.cons (so_ic_lt d_R_takeOwnStructure_29 (by decide)) ?_
  refine ct_al.cons (so_aload_n d_R_takeOwnStructure_32 rfl) ?_
  refine ct_al.cons (so_iload_n d_R_takeOwnStructure_33 rfl) ?_
  refine ct_al.cons (so_aload_n d_R_takeOwnStructure_34 rfl) ?_
  refine ct_al.cons (so_getR (Cn := "CodeTables$Reader") (T := ct_T2) kc_2 (by decide) rfl rfl wd_55 d_R_takeOwnStructure_35) ?_
  refine ct_al.cons (so_ic_ge d_R_takeOwnStructure_41 (by decide)) ?_
  refine ct_al.cons (so_bipush d_R_takeOwnStructure_44 (by decide)) ?_
  refine ct_al.cons (so_goto d_R_takeOwnStructure_46 (by decide)) ?_
  refine ct_al.cons (so_bipush d_R_takeOwnStructure_49 (by decide)) ?_
  refine ct_al.cons (so_iload_n d_R_takeOwnStructure_51 rfl) ?_
  refine ct_al.cons (so_iload_n d_R_takeOwnStructure_55 rfl) ?_
  exact ct_al.nil
theorem e_R_takeOwnStructure_0 : ct_tab (T_R_takeOwnStructure) 0 = some (o_aload 0 1) := rfl
theorem e_R_takeOwnStructure_1 : ct_tab (T_R_takeOwnStructure) 1 = some (o_getI 2 9 5) := rfl
theorem e_R_takeOwnStructure_4 : ct_tab (T_R_takeOwnStructure) 4 = some (o_istore 1 1) := rfl
theorem e_R_takeOwnStructure_5 : ct_tab (T_R_takeOwnStructure) 5 = some (o_aload 0 1) := rfl
theorem e_R_takeOwnStructure_6 : ct_tab (T_R_takeOwnStructure) 6 = some (o_push (.int 1) 1) := rfl
theorem e_R_takeOwnStructure_10 : ct_tab (T_R_takeOwnStructure) 10 = some (o_l2i) := rfl
theorem e_R_takeOwnStructure_11 : ct_tab (T_R_takeOwnStructure) 11 = some (o_istore 2 1) := rfl
theorem e_R_takeOwnStructure_12 : ct_tab (T_R_takeOwnStructure) 12 = some (o_aload 0 1) := rfl
theorem e_R_takeOwnStructure_13 : ct_tab (T_R_takeOwnStructure) 13 = some (o_getI 2 9 6) := rfl
theorem e_R_takeOwnStructure_16 : ct_tab (T_R_takeOwnStructure) 16 = some (o_if (fun x => x = 0) (fun x => ¬ x = 0) 55) := rfl
theorem e_R_takeOwnStructure_19 : ct_tab (T_R_takeOwnStructure) 19 = some (o_iload 2 1) := rfl
theorem e_R_takeOwnStructure_20 : ct_tab (T_R_takeOwnStructure) 20 = some (o_aload 0 1) := rfl
theorem e_R_takeOwnStructure_21 : ct_tab (T_R_takeOwnStructure) 21 = some (o_getR 2 9 0) := rfl
theorem e_R_takeOwnStructure_24 : ct_tab (T_R_takeOwnStructure) 24 = some (o_getR 1 10 0) := rfl
theorem e_R_takeOwnStructure_27 : ct_tab (T_R_takeOwnStructure) 27 = some (o_push (.int 1) 1) := rfl
theorem e_R_takeOwnStructure_28 : ct_tab (T_R_takeOwnStructure) 28 = some (o_iald) := rfl
theorem e_R_takeOwnStructure_29 : ct_tab (T_R_takeOwnStructure) 29 = some (o_ic (fun x y => x < y) (fun x y => ¬ x < y) 55) := rfl
theorem e_R_takeOwnStructure_32 : ct_tab (T_R_takeOwnStructure) 32 = some (o_aload 0 1) := rfl
theorem e_R_takeOwnStructure_33 : ct_tab (T_R_takeOwnStructure) 33 = some (o_iload 2 1) := rfl
theorem e_R_takeOwnStructure_34 : ct_tab (T_R_takeOwnStructure) 34 = some (o_aload 0 1) := rfl
theorem e_R_takeOwnStructure_35 : ct_tab (T_R_takeOwnStructure) 35 = some (o_getR 2 9 0) := rfl
theorem e_R_takeOwnStructure_41 : ct_tab (T_R_takeOwnStructure) 41 = some (o_ic (fun x y => y ≤ x) (fun x y => ¬ y ≤ x) 49) := rfl
theorem e_R_takeOwnStructure_44 : ct_tab (T_R_takeOwnStructure) 44 = some (o_push (.int 8) 2) := rfl
theorem e_R_takeOwnStructure_46 : ct_tab (T_R_takeOwnStructure) 46 = some (o_goto 51) := rfl
theorem e_R_takeOwnStructure_49 : ct_tab (T_R_takeOwnStructure) 49 = some (o_push (.int 7) 2) := rfl
theorem e_R_takeOwnStructure_51 : ct_tab (T_R_takeOwnStructure) 51 = some (o_iload 1 1) := rfl
theorem e_R_takeOwnStructure_55 : ct_tab (T_R_takeOwnStructure) 55 = some (o_iload 2 1) := rfl
theorem cl_R_takeOwnStructure_7 {l : ct_Lx} {d d1 : Nat} {Post Post1 : Option Value → ct_Sg → Prop} {lv : ct_Lv} {st : List Value} {g : ct_Sg} {bc bs c1 s1 : Nat} {a1 : Value} {h : Nat} (hsh : g.2.1 h = (10 + 2, 9)) (hM : ct_Me l M_R_take d1 c1 s1 [.ref h, a1] g Post1) (hdd : d1 + 1 ≤ d) (hk : (st.map fun v => v.category).sum ≤ 8) (hcc : c1 ≤ bc) (hss : s1 ≤ bs) (kk : ∀ (v : Option Value) (g' : ct_Sg), Post1 v g' → ct_Wp l M_R_takeOwnStructure d Post (10, lv, v.toList ++ st, g', bc - c1, bs - s1)) : ct_Wp l M_R_takeOwnStructure d Post (7, lv, a1 :: .ref h :: st, g, bc, bs) := ct_Wp.callV (ci := 2) (N := 9) (T := ct_T2) (As := [a1]) lk_R_take (Or.inl wd_65) wd_66 wd_67 rfl d_R_takeOwnStructure_7 hsh hM rfl hdd hk hcc hss kk
theorem cl_R_takeOwnStructure_38 {l : ct_Lx} {d d1 : Nat} {Post Post1 : Option Value → ct_Sg → Prop} {lv : ct_Lv} {st : List Value} {g : ct_Sg} {bc bs c1 s1 : Nat} {h : Nat} (hsh : g.2.1 h = (10 + 1, 10)) (hM : ct_Me l M_T_allStructures d1 c1 s1 [.ref h] g Post1) (hdd : d1 + 1 ≤ d) (hk : (st.map fun v => v.category).sum ≤ 8) (hcc : c1 ≤ bc) (hss : s1 ≤ bs) (kk : ∀ (v : Option Value) (g' : ct_Sg), Post1 v g' → ct_Wp l M_R_takeOwnStructure d Post (41, lv, v.toList ++ st, g', bc - c1, bs - s1)) : ct_Wp l M_R_takeOwnStructure d Post (38, lv, .ref h :: st, g, bc, bs) := ct_Wp.callV (ci := 1) (N := 10) (T := ct_T1) (As := []) lk_T_allStructures (Or.inl wd_172) wd_20 wd_21 rfl d_R_takeOwnStructure_38 hsh hM rfl hdd hk hcc hss kk
theorem cl_R_takeOwnStructure_52 {l : ct_Lx} {d d1 : Nat} {Post Post1 : Option Value → ct_Sg → Prop} {lv : ct_Lv} {st : List Value} {g : ct_Sg} {bc bs c1 s1 : Nat} {a1 a2 : Value} {h : Nat} (hsh : g.2.1 h = (10 + 2, 9)) (hM : ct_Me l M_R_fail d1 c1 s1 [.ref h, a1, a2] g Post1) (hdd : d1 + 1 ≤ d) (hk : (st.map fun v => v.category).sum ≤ 8) (hcc : c1 ≤ bc) (hss : s1 ≤ bs) (kk : ∀ (v : Option Value) (g' : ct_Sg), Post1 v g' → ct_Wp l M_R_takeOwnStructure d Post (55, lv, v.toList ++ st, g', bc - c1, bs - s1)) : ct_Wp l M_R_takeOwnStructure d Post (52, lv, a2 :: a1 :: .ref h :: st, g, bc, bs) := ct_Wp.callV (ci := 2) (N := 9) (T := ct_T2) (As := [a1, a2]) lk_R_fail (Or.inl wd_95) wd_96 wd_97 rfl d_R_takeOwnStructure_52 hsh hM rfl hdd hk hcc hss kk
theorem d_R_takeTypes_0 : decode prog_2_method_16_code 0 = .ok (.aload_n 0, 1) := by decide +kernel
theorem d_R_takeTypes_1 : decode prog_2_method_16_code 1 = .ok (.iconst 1, 1) := by decide +kernel
theorem d_R_takeTypes_2 : decode prog_2_method_16_code 2 = .ok (.iload_n 3, 1) := by decide +kernel
theorem d_R_takeTypes_3 : decode prog_2_method_16_code 3 = .ok (.iload 4, 2) := by decide +kernel
theorem d_R_takeTypes_5 : decode prog_2_method_16_code 5 = .ok (.invokevirtual 77, 3) := by decide +kernel
theorem d_R_takeTypes_8 : decode prog_2_method_16_code 8 = .ok (.istore 6, 2) := by decide +kernel
theorem d_R_takeTypes_10 : decode prog_2_method_16_code 10 = .ok (.iconst 0, 1) := by decide +kernel
theorem d_R_takeTypes_11 : decode prog_2_method_16_code 11 = .ok (.istore 7, 2) := by decide +kernel
theorem d_R_takeTypes_13 : decode prog_2_method_16_code 13 = .ok (.iload 7, 2) := by decide +kernel
theorem d_R_takeTypes_15 : decode prog_2_method_16_code 15 = .ok (.iload 6, 2) := by decide +kernel
theorem d_R_takeTypes_17 : decode prog_2_method_16_code 17 = .ok (.if_icmp .ge 28, 3) := by decide +kernel
theorem d_R_takeTypes_20 : decode prog_2_method_16_code 20 = .ok (.aload_n 0, 1) := by decide +kernel
theorem d_R_takeTypes_21 : decode prog_2_method_16_code 21 = .ok (.getfield 35, 3) := by decide +kernel
theorem d_R_takeTypes_24 : decode prog_2_method_16_code 24 = .ok (.ifCond .ne 21, 3) := by decide +kernel
theorem d_R_takeTypes_27 : decode prog_2_method_16_code 27 = .ok (.aload_n 1, 1) := by decide +kernel
theorem d_R_takeTypes_28 : decode prog_2_method_16_code 28 = .ok (.iload_n 2, 1) := by decide +kernel
theorem d_R_takeTypes_29 : decode prog_2_method_16_code 29 = .ok (.iload 7, 2) := by decide +kernel
theorem d_R_takeTypes_31 : decode prog_2_method_16_code 31 = .ok (.iadd, 1) := by decide +kernel
theorem d_R_takeTypes_32 : decode prog_2_method_16_code 32 = .ok (.aload_n 0, 1) := by decide +kernel
theorem d_R_takeTypes_33 : decode prog_2_method_16_code 33 = .ok (.iload 5, 2) := by decide +kernel
theorem d_R_takeTypes_35 : decode prog_2_method_16_code 35 = .ok (.invokevirtual 168, 3) := by decide +kernel
theorem d_R_takeTypes_38 : decode prog_2_method_16_code 38 = .ok (.lastore, 1) := by decide +kernel
theorem d_R_takeTypes_39 : decode prog_2_method_16_code 39 = .ok (.iinc 7 1, 3) := by decide +kernel
theorem d_R_takeTypes_42 : decode prog_2_method_16_code 42 = .ok (.goto (-29), 3) := by decide +kernel
theorem d_R_takeTypes_45 : decode prog_2_method_16_code 45 = .ok (.iload 6, 2) := by decide +kernel
theorem d_R_takeTypes_47 : decode prog_2_method_16_code 47 = .ok (.ireturn, 1) := by decide +kernel
abbrev T_R_takeTypes : List (Nat × ct_PT) := [(0, o_aload 0 1), (1, o_push (.int 1) 1), (2, o_iload 3 1), (3, o_iload 4 2), (8, o_istore 6 2), (10, o_push (.int 0) 1), (11, o_istore 7 2), (13, o_iload 7 2), (15, o_iload 6 2), (17, o_ic (fun x y => y ≤ x) (fun x y => ¬ y ≤ x) 45), (20, o_aload 0 1), (21, o_getI 2 9 7), (24, o_if (fun x => ¬ x = 0) (fun x => x = 0) 45), (27, o_aload 1 1), (28, o_iload 2 1), (29, o_iload 7 2), (31, o_ii fun x y => x + y), (32, o_aload 0 1), (33, o_iload 5 2), (38, o_last), (39, o_iinc 7 1), (42, o_goto 13), (45, o_iload 6 2)]
set_option maxRecDepth 100000 in
theorem A_R_takeTypes (l : ct_Lx) : ct_al l M_R_takeTypes (T_R_takeTypes) := by
  refine ct_al.cons (so_aload_n d_R_takeTypes_0 rfl) ?_
  refine ct_al.cons (so_iconst d_R_takeTypes_1 (by decide)) ?_
  refine ct_al.cons (so_iload_n d_R_takeTypes_2 rfl) ?_
  refine ct_al.cons (so_iload d_R_takeTypes_3) ?_
  refine ct_al.cons (so_istore d_R_takeTypes_8 (by decide)) ?_
  refine ct_al.cons (so_iconst d_R_takeTypes_10 (by decide)) ?_
  refine ct_al.cons (so_istore d_R_takeTypes_11 (by decide)) ?_
  refine ct_al.cons (so_iload d_R_takeTypes_13) ?_
  refine ct_al.cons (so_iload d_R_takeTypes_15) ?_
  refine ct_al.cons (so_ic_ge d_R_takeTypes_17 (by decide)) ?_
  refine ct_al.cons (so_aload_n d_R_takeTypes_20 rfl) ?_
  refine ct_al.cons (so_getI (Cn := "CodeTables$Reader") (T := ct_T2) kc_2 (by decide) rfl rfl wd_53 d_R_takeTypes_21) ?_
  refine ct_al.cons (so_if_ne d_R_takeTypes_24 (by decide)) ?_
  refine ct_al.cons (so_aload_n d_R_takeTypes_27 rfl) ?_
  refine ct_al.cons (so_iload_n d_R_takeTypes_28 rfl) ?_
  refine ct_al.cons (so_iload d_R_takeTypes_29) ?_
  refine ct_al.cons (so_iadd d_R_takeTypes_31) ?_
  refine ct_al.cons (so_aload_n d_R_takeTypes_32 rfl) ?_
  refine ct_al.cons (so_iload d_R_takeTypes_33) ?_
  refine ct_al.cons (so_last d_R_takeTypes_38) ?_
  refine ct_al.cons (so_iinc d_R_takeTypes_39 (by decide) (by decide)) ?_
  refine ct_al.cons (so_goto d_R_takeTypes_42 (by decide)) ?_
  refine ct_al.cons (so_iload d_R_takeTypes_45) ?_
  exact ct_al.nil
theorem e_R_takeTypes_0 : ct_tab (T_R_takeTypes) 0 = some (o_aload 0 1) := rfl
theorem e_R_takeTypes_1 : ct_tab (T_R_takeTypes) 1 = some (o_push (.int 1) 1) := rfl
theorem e_R_takeTypes_2 : ct_tab (T_R_takeTypes) 2 = some (o_iload 3 1) := rfl
theorem e_R_takeTypes_3 : ct_tab (T_R_takeTypes) 3 = some (o_iload 4 2) := rfl
theorem e_R_takeTypes_8 : ct_tab (T_R_takeTypes) 8 = some (o_istore 6 2) := rfl
theorem e_R_takeTypes_10 : ct_tab (T_R_takeTypes) 10 = some (o_push (.int 0) 1) := rfl
theorem e_R_takeTypes_11 : ct_tab (T_R_takeTypes) 11 = some (o_istore 7 2) := rfl
theorem e_R_takeTypes_13 : ct_tab (T_R_takeTypes) 13 = some (o_iload 7 2) := rfl
theorem e_R_takeTypes_15 : ct_tab (T_R_takeTypes) 15 = some (o_iload 6 2) := rfl
theorem e_R_takeTypes_17 : ct_tab (T_R_takeTypes) 17 = some (o_ic (fun x y => y ≤ x) (fun x y => ¬ y ≤ x) 45) := rfl
theorem e_R_takeTypes_20 : ct_tab (T_R_takeTypes) 20 = some (o_aload 0 1) := rfl
theorem e_R_takeTypes_21 : ct_tab (T_R_takeTypes) 21 = some (o_getI 2 9 7) := rfl
theorem e_R_takeTypes_24 : ct_tab (T_R_takeTypes) 24 = some (o_if (fun x => ¬ x = 0) (fun x => x = 0) 45) := rfl
theorem e_R_takeTypes_27 : ct_tab (T_R_takeTypes) 27 = some (o_aload 1 1) := rfl
theorem e_R_takeTypes_28 : ct_tab (T_R_takeTypes) 28 = some (o_iload 2 1) := rfl
theorem e_R_takeTypes_29 : ct_tab (T_R_takeTypes) 29 = some (o_iload 7 2) := rfl
theorem e_R_takeTypes_31 : ct_tab (T_R_takeTypes) 31 = some (o_ii fun x y => x + y) := rfl
theorem e_R_takeTypes_32 : ct_tab (T_R_takeTypes) 32 = some (o_aload 0 1) := rfl
theorem e_R_takeTypes_33 : ct_tab (T_R_takeTypes) 33 = some (o_iload 5 2) := rfl
theorem e_R_takeTypes_38 : ct_tab (T_R_takeTypes) 38 = some (o_last) := rfl
theorem e_R_takeTypes_39 : ct_tab (T_R_takeTypes) 39 = some (o_iinc 7 1) := rfl
theorem e_R_takeTypes_42 : ct_tab (T_R_takeTypes) 42 = some (o_goto 13) := rfl
theorem e_R_takeTypes_45 : ct_tab (T_R_takeTypes) 45 = some (o_iload 6 2) := rfl
theorem cl_R_takeTypes_5 {l : ct_Lx} {d d1 : Nat} {Post Post1 : Option Value → ct_Sg → Prop} {lv : ct_Lv} {st : List Value} {g : ct_Sg} {bc bs c1 s1 : Nat} {a1 a2 a3 : Value} {h : Nat} (hsh : g.2.1 h = (10 + 2, 9)) (hM : ct_Me l M_R_takeWithin d1 c1 s1 [.ref h, a1, a2, a3] g Post1) (hdd : d1 + 1 ≤ d) (hk : (st.map fun v => v.category).sum ≤ 8) (hcc : c1 ≤ bc) (hss : s1 ≤ bs) (kk : ∀ (v : Option Value) (g' : ct_Sg), Post1 v g' → ct_Wp l M_R_takeTypes d Post (8, lv, v.toList ++ st, g', bc - c1, bs - s1)) : ct_Wp l M_R_takeTypes d Post (5, lv, a3 :: a2 :: a1 :: .ref h :: st, g, bc, bs) := ct_Wp.callV (ci := 2) (N := 9) (T := ct_T2) (As := [a1, a2, a3]) lk_R_takeWithin (Or.inl wd_100) wd_101 wd_102 rfl d_R_takeTypes_5 hsh hM rfl hdd hk hcc hss kk
theorem cl_R_takeTypes_35 {l : ct_Lx} {d d1 : Nat} {Post Post1 : Option Value → ct_Sg → Prop} {lv : ct_Lv} {st : List Value} {g : ct_Sg} {bc bs c1 s1 : Nat} {a1 : Value} {h : Nat} (hsh : g.2.1 h = (10 + 2, 9)) (hM : ct_Me l M_R_takeType d1 c1 s1 [.ref h, a1] g Post1) (hdd : d1 + 1 ≤ d) (hk : (st.map fun v => v.category).sum ≤ 8) (hcc : c1 ≤ bc) (hss : s1 ≤ bs) (kk : ∀ (v : Option Value) (g' : ct_Sg), Post1 v g' → ct_Wp l M_R_takeTypes d Post (38, lv, v.toList ++ st, g', bc - c1, bs - s1)) : ct_Wp l M_R_takeTypes d Post (35, lv, a1 :: .ref h :: st, g, bc, bs) := ct_Wp.callV (ci := 2) (N := 9) (T := ct_T2) (As := [a1]) lk_R_takeType (Or.inl wd_175) wd_176 wd_177 rfl d_R_takeTypes_35 hsh hM rfl hdd hk hcc hss kk
theorem d_R_takeType_0 : decode prog_2_method_17_code 0 = .ok (.lconst 0, 1) := by decide +kernel
theorem d_R_takeType_1 : decode prog_2_method_17_code 1 = .ok (.lstore_n 2, 1) := by decide +kernel
theorem d_R_takeType_2 : decode prog_2_method_17_code 2 = .ok (.iload_n 1, 1) := by decide +kernel
theorem d_R_takeType_3 : decode prog_2_method_17_code 3 = .ok (.ifCond .eq 27, 3) := by decide +kernel
theorem d_R_takeType_6 : decode prog_2_method_17_code 6 = .ok (.aload_n 0, 1) := by decide +kernel
theorem d_R_takeType_7 : decode prog_2_method_17_code 7 = .ok (.invokevirtual 172, 3) := by decide +kernel
theorem d_R_takeType_10 : decode prog_2_method_17_code 10 = .ok (.bipush 8, 2) := by decide +kernel
theorem d_R_takeType_12 : decode prog_2_method_17_code 12 = .ok (.if_icmp .eq 12, 3) := by decide +kernel
theorem d_R_takeType_15 : decode prog_2_method_17_code 15 = .ok (.aload_n 0, 1) := by decide +kernel
theorem d_R_takeType_16 : decode prog_2_method_17_code 16 = .ok (.invokevirtual 172, 3) := by decide +kernel
theorem d_R_takeType_19 : decode prog_2_method_17_code 19 = .ok (.bipush 9, 2) := by decide +kernel
theorem d_R_takeType_21 : decode prog_2_method_17_code 21 = .ok (.if_icmp .ne 9, 3) := by decide +kernel
theorem d_R_takeType_24 : decode prog_2_method_17_code 24 = .ok (.aload_n 0, 1) := by decide +kernel
theorem d_R_takeType_25 : decode prog_2_method_17_code 25 = .ok (.iconst 1, 1) := by decide +kernel
theorem d_R_takeType_26 : decode prog_2_method_17_code 26 = .ok (.invokevirtual 51, 3) := by decide +kernel
theorem d_R_takeType_29 : decode prog_2_method_17_code 29 = .ok (.lstore_n 2, 1) := by decide +kernel
theorem d_R_takeType_30 : decode prog_2_method_17_code 30 = .ok (.iconst 0, 1) := by decide +kernel
theorem d_R_takeType_31 : decode prog_2_method_17_code 31 = .ok (.istore 4, 2) := by decide +kernel
theorem d_R_takeType_33 : decode prog_2_method_17_code 33 = .ok (.iload 4, 2) := by decide +kernel
theorem d_R_takeType_35 : decode prog_2_method_17_code 35 = .ok (.iconst 4, 1) := by decide +kernel
theorem d_R_takeType_36 : decode prog_2_method_17_code 36 = .ok (.if_icmp .ge 29, 3) := by decide +kernel
theorem d_R_takeType_39 : decode prog_2_method_17_code 39 = .ok (.aload_n 0, 1) := by decide +kernel
theorem d_R_takeType_40 : decode prog_2_method_17_code 40 = .ok (.invokevirtual 172, 3) := by decide +kernel
theorem d_R_takeType_43 : decode prog_2_method_17_code 43 = .ok (.bipush 7, 2) := by decide +kernel
theorem d_R_takeType_45 : decode prog_2_method_17_code 45 = .ok (.if_icmp .ne 20, 3) := by decide +kernel
theorem d_R_takeType_48 : decode prog_2_method_17_code 48 = .ok (.lload_n 2, 1) := by decide +kernel
theorem d_R_takeType_49 : decode prog_2_method_17_code 49 = .ok (.bipush 8, 2) := by decide +kernel
theorem d_R_takeType_51 : decode prog_2_method_17_code 51 = .ok (.lshl, 1) := by decide +kernel
theorem d_R_takeType_52 : decode prog_2_method_17_code 52 = .ok (.aload_n 0, 1) := by decide +kernel
theorem d_R_takeType_53 : decode prog_2_method_17_code 53 = .ok (.iconst 1, 1) := by decide +kernel
theorem d_R_takeType_54 : decode prog_2_method_17_code 54 = .ok (.invokevirtual 51, 3) := by decide +kernel
theorem d_R_takeType_57 : decode prog_2_method_17_code 57 = .ok (.lor, 1) := by decide +kernel
theorem d_R_takeType_58 : decode prog_2_method_17_code 58 = .ok (.lstore_n 2, 1) := by decide +kernel
theorem d_R_takeType_59 : decode prog_2_method_17_code 59 = .ok (.iinc 4 1, 3) := by decide +kernel
theorem d_R_takeType_62 : decode prog_2_method_17_code 62 = .ok (.goto (-29), 3) := by decide +kernel
theorem d_R_takeType_65 : decode prog_2_method_17_code 65 = .ok (.aload_n 0, 1) := by decide +kernel
theorem d_R_takeType_66 : decode prog_2_method_17_code 66 = .ok (.getfield 28, 3) := by decide +kernel
theorem d_R_takeType_69 : decode prog_2_method_17_code 69 = .ok (.istore 4, 2) := by decide +kernel
theorem d_R_takeType_71 : decode prog_2_method_17_code 71 = .ok (.aload_n 0, 1) := by decide +kernel
theorem d_R_takeType_72 : decode prog_2_method_17_code 72 = .ok (.iconst 1, 1) := by decide +kernel
theorem d_R_takeType_73 : decode prog_2_method_17_code 73 = .ok (.invokevirtual 51, 3) := by decide +kernel
theorem d_R_takeType_76 : decode prog_2_method_17_code 76 = .ok (.lstore 5, 2) := by decide +kernel
theorem d_R_takeType_78 : decode prog_2_method_17_code 78 = .ok (.lload 5, 2) := by decide +kernel
theorem d_R_takeType_80 : decode prog_2_method_17_code 80 = .ok (.lconst 1, 1) := by decide +kernel
theorem d_R_takeType_81 : decode prog_2_method_17_code 81 = .ok (.lcmp, 1) := by decide +kernel
theorem d_R_takeType_82 : decode prog_2_method_17_code 82 = .ok (.ifCond .lt 12, 3) := by decide +kernel
theorem d_R_takeType_85 : decode prog_2_method_17_code 85 = .ok (.lload 5, 2) := by decide +kernel
theorem d_R_takeType_87 : decode prog_2_method_17_code 87 = .ok (.ldc2_w 175, 3) := by decide +kernel
theorem d_R_takeType_90 : decode prog_2_method_17_code 90 = .ok (.lcmp, 1) := by decide +kernel
theorem d_R_takeType_91 : decode prog_2_method_17_code 91 = .ok (.ifCond .le 10, 3) := by decide +kernel
theorem d_R_takeType_94 : decode prog_2_method_17_code 94 = .ok (.aload_n 0, 1) := by decide +kernel
theorem d_R_takeType_95 : decode prog_2_method_17_code 95 = .ok (.iconst 4, 1) := by decide +kernel
theorem d_R_takeType_96 : decode prog_2_method_17_code 96 = .ok (.iload 4, 2) := by decide +kernel
theorem d_R_takeType_98 : decode prog_2_method_17_code 98 = .ok (.invokevirtual 70, 3) := by decide +kernel
theorem d_R_takeType_101 : decode prog_2_method_17_code 101 = .ok (.lload_n 2, 1) := by decide +kernel
theorem d_R_takeType_102 : decode prog_2_method_17_code 102 = .ok (.bipush 8, 2) := by decide +kernel
theorem d_R_takeType_104 : decode prog_2_method_17_code 104 = .ok (.lshl, 1) := by decide +kernel
theorem d_R_takeType_105 : decode prog_2_method_17_code 105 = .ok (.lload 5, 2) := by decide +kernel
theorem d_R_takeType_107 : decode prog_2_method_17_code 107 = .ok (.lor, 1) := by decide +kernel
theorem d_R_takeType_108 : decode prog_2_method_17_code 108 = .ok (.lstore_n 2, 1) := by decide +kernel
theorem d_R_takeType_109 : decode prog_2_method_17_code 109 = .ok (.lload 5, 2) := by decide +kernel
theorem d_R_takeType_111 : decode prog_2_method_17_code 111 = .ok (.ldc2_w 175, 3) := by decide +kernel
theorem d_R_takeType_114 : decode prog_2_method_17_code 114 = .ok (.lcmp, 1) := by decide +kernel
theorem d_R_takeType_115 : decode prog_2_method_17_code 115 = .ok (.ifCond .eq 5, 3) := by decide +kernel
theorem d_R_takeType_118 : decode prog_2_method_17_code 118 = .ok (.lload_n 2, 1) := by decide +kernel
theorem d_R_takeType_119 : decode prog_2_method_17_code 119 = .ok (.lreturn, 1) := by decide +kernel
theorem d_R_takeType_120 : decode prog_2_method_17_code 120 = .ok (.aload_n 0, 1) := by decide +kernel
theorem d_R_takeType_121 : decode prog_2_method_17_code 121 = .ok (.getfield 28, 3) := by decide +kernel
theorem d_R_takeType_124 : decode prog_2_method_17_code 124 = .ok (.istore 7, 2) := by decide +kernel
theorem d_R_takeType_126 : decode prog_2_method_17_code 126 = .ok (.aload_n 0, 1) := by decide +kernel
theorem d_R_takeType_127 : decode prog_2_method_17_code 127 = .ok (.iconst 1, 1) := by decide +kernel
theorem d_R_takeType_128 : decode prog_2_method_17_code 128 = .ok (.invokevirtual 51, 3) := by decide +kernel
theorem d_R_takeType_131 : decode prog_2_method_17_code 131 = .ok (.lstore 8, 2) := by decide +kernel
theorem d_R_takeType_133 : decode prog_2_method_17_code 133 = .ok (.aload_n 0, 1) := by decide +kernel
theorem d_R_takeType_134 : decode prog_2_method_17_code 134 = .ok (.getfield 31, 3) := by decide +kernel
theorem d_R_takeType_137 : decode prog_2_method_17_code 137 = .ok (.ifCond .eq 25, 3) := by decide +kernel
theorem d_R_takeType_140 : decode prog_2_method_17_code 140 = .ok (.lload 8, 2) := by decide +kernel
theorem d_R_takeType_142 : decode prog_2_method_17_code 142 = .ok (.aload_n 0, 1) := by decide +kernel
theorem d_R_takeType_143 : decode prog_2_method_17_code 143 = .ok (.getfield 41, 3) := by decide +kernel
theorem d_R_takeType_146 : decode prog_2_method_17_code 146 = .ok (.invokevirtual 165, 3) := by decide +kernel
theorem d_R_takeType_149 : decode prog_2_method_17_code 149 = .ok (.i2l, 1) := by decide +kernel
theorem d_R_takeType_150 : decode prog_2_method_17_code 150 = .ok (.lcmp, 1) := by decide +kernel
theorem d_R_takeType_151 : decode prog_2_method_17_code 151 = .ok (.ifCond .lt 11, 3) := by decide +kernel
theorem d_R_takeType_154 : decode prog_2_method_17_code 154 = .ok (.aload_n 0, 1) := by decide +kernel
theorem d_R_takeType_155 : decode prog_2_method_17_code 155 = .ok (.bipush 7, 2) := by decide +kernel
theorem d_R_takeType_157 : decode prog_2_method_17_code 157 = .ok (.iload 7, 2) := by decide +kernel
theorem d_R_takeType_159 : decode prog_2_method_17_code 159 = .ok (.invokevirtual 70, 3) := by decide +kernel
theorem d_R_takeType_162 : decode prog_2_method_17_code 162 = .ok (.lload_n 2, 1) := by decide +kernel
theorem d_R_takeType_163 : decode prog_2_method_17_code 163 = .ok (.bipush 8, 2) := by decide +kernel
theorem d_R_takeType_165 : decode prog_2_method_17_code 165 = .ok (.lshl, 1) := by decide +kernel
theorem d_R_takeType_166 : decode prog_2_method_17_code 166 = .ok (.lload 8, 2) := by decide +kernel
theorem d_R_takeType_168 : decode prog_2_method_17_code 168 = .ok (.lor, 1) := by decide +kernel
theorem d_R_takeType_169 : decode prog_2_method_17_code 169 = .ok (.lreturn, 1) := by decide +kernel
abbrev T_R_takeType : List (Nat × ct_PT) := [(0, o_push (.long 0) 1), (1, o_lstore 2 1), (2, o_iload 1 1), (3, o_if (fun x => x = 0) (fun x => ¬ x = 0) 30), (6, o_aload 0 1), (10, o_push (.int 8) 2), (12, o_ic (fun x y => x = y) (fun x y => ¬ x = y) 24), (15, o_aload 0 1), (19, o_push (.int 9) 2), (21, o_ic (fun x y => ¬ x = y) (fun x y => x = y) 30), (24, o_aload 0 1), (25, o_push (.int 1) 1), (29, o_lstore 2 1), (30, o_push (.int 0) 1), (31, o_istore 4 2), (33, o_iload 4 2), (35, o_push (.int 4) 1), (36, o_ic (fun x y => y ≤ x) (fun x y => ¬ y ≤ x) 65), (39, o_aload 0 1), (43, o_push (.int 7) 2), (45, o_ic (fun x y => ¬ x = y) (fun x y => x = y) 65), (48, o_lload 2 1), (49, o_push (.int 8) 2), (51, o_li fun x y => x <<< (y.toInt64 &&& 63)), (52, o_aload 0 1), (53, o_push (.int 1) 1), (57, o_ll fun x y => x ||| y), (58, o_lstore 2 1), (59, o_iinc 4 1), (62, o_goto 33), (65, o_aload 0 1), (66, o_getI 2 9 5), (69, o_istore 4 2), (71, o_aload 0 1), (72, o_push (.int 1) 1), (76, o_lstore 5 2), (78, o_lload 5 2), (80, o_push (.long 1) 1), (81, o_lcmp), (82, o_if (fun x => x < 0) (fun x => ¬ x < 0) 94), (85, o_lload 5 2), (87, o_push (.long 6) 3), (90, o_lcmp), (91, o_if (fun x => x ≤ 0) (fun x => ¬ x ≤ 0) 101), (94, o_aload 0 1), (95, o_push (.int 4) 1), (96, o_iload 4 2), (101, o_lload 2 1), (102, o_push (.int 8) 2), (104, o_li fun x y => x <<< (y.toInt64 &&& 63)), (105, o_lload 5 2), (107, o_ll fun x y => x ||| y), (108, o_lstore 2 1), (109, o_lload 5 2), (111, o_push (.long 6) 3), (114, o_lcmp), (115, o_if (fun x => x = 0) (fun x => ¬ x = 0) 120), (118, o_lload 2 1), (120, o_aload 0 1), (121, o_getI 2 9 5), (124, o_istore 7 2), (126, o_aload 0 1), (127, o_push (.int 1) 1), (131, o_lstore 8 2), (133, o_aload 0 1), (134, o_getI 2 9 6), (137, o_if (fun x => x = 0) (fun x => ¬ x = 0) 162), (140, o_lload 8 2), (142, o_aload 0 1), (143, o_getR 2 9 0), (149, o_i2l), (150, o_lcmp), (151, o_if (fun x => x < 0) (fun x => ¬ x < 0) 162), (154, o_aload 0 1), (155, o_push (.int 7) 2), (157, o_iload 7 2), (162, o_lload 2 1), (163, o_push (.int 8) 2), (165, o_li fun x y => x <<< (y.toInt64 &&& 63)), (166, o_lload 8 2), (168, o_ll fun x y => x ||| y)]
set_option maxRecDepth 100000 in
theorem A_R_takeType (l : ct_Lx) : ct_al l M_R_takeType (T_R_takeType) := by
  refine ct_al.cons (so_lconst d_R_takeType_0 (by decide)) ?_
  refine ct_al.cons (so_lstore_n d_R_takeType_1 rfl (by decide)) ?_
  refine ct_al.cons (so_iload_n d_R_takeType_2 rfl) ?_
  refine ct_al.cons (so_if_eq d_R_takeType_3 (by decide)) ?_
  refine ct_al.cons (so_aload_n d_R_takeType_6 rfl) ?_
  refine ct_al.cons (so_bipush d_R_takeType_10 (by decide)) ?_
  refine ct_al.cons (so_ic_eq d_R_takeType_12 (by decide)) ?_
  refine ct_al.cons (so_aload_n d_R_takeType_15 rfl) ?_
  refine ct_al.cons (so_bipush d_R_takeType_19 (by decide)) ?_
  refine ct_al.cons (so_ic_ne d_R_takeType_21 (by decide)) ?_
  refine ct_al.cons (so_aload_n d_R_takeType_24 rfl) ?_
  refine ct_al.cons (so_iconst d_R_takeType_25 (by decide)) ?_
  refine ct_al.cons (so_lstore_n d_R_takeType_29 rfl (by decide)) ?_
  refine ct_al.cons (so_iconst d_R_takeType_30 (by decide)) ?_
  refine ct_al.cons (so_istore d_R_takeType_31 (by decide)) ?_
  refine ct_al.cons (so_iload d_R_takeType_33) ?_
  refine ct_al.cons (so_iconst d_R_takeType_35 (by decide)) ?_
  refine ct_al.cons (so_ic_ge d_R_takeType_36 (by decide)) ?_
  refine ct_al.cons (so_aload_n d_R_takeType_39 rfl) ?_
  refine ct_al.cons (so_bipush d_R_takeType_43 (by decide)) ?_
  refine ct_al.cons (so_ic_ne d_R_takeType_45 (by decide)) ?_
  refine ct_al.cons (so_lload_n d_R_takeType_48 rfl) ?_
  refine ct_al.cons (so_bipush d_R_takeType_49 (by decide)) ?_
  refine ct_al.cons (so_lshl d_R_takeType_51) ?_
  refine ct_al.cons (so_aload_n d_R_takeType_52 rfl) ?_
  refine ct_al.cons (so_iconst d_R_takeType_53 (by decide)) ?_
  refine ct_al.cons (so_lor d_R_takeType_57) ?_
  refine ct_al.cons (so_lstore_n d_R_takeType_58 rfl (by decide)) ?_
  refine ct_al.cons (so_iinc d_R_takeType_59 (by decide) (by decide)) ?_
  refine ct_al.cons (so_goto d_R_takeType_62 (by decide)) ?_
  refine ct_al.cons (so_aload_n d_R_takeType_65 rfl) ?_
  refine ct_al.cons (so_getI (Cn := "CodeTables$Reader") (T := ct_T2) kc_2 (by decide) rfl rfl wd_51 d_R_takeType_66) ?_
  refine ct_al.cons (so_istore d_R_takeType_69 (by decide)) ?_
  refine ct_al.cons (so_aload_n d_R_takeType_71 rfl) ?_
  refine ct_al.cons (so_iconst d_R_takeType_72 (by decide)) ?_
  refine ct_al.cons (so_lstore d_R_takeType_76 (by decide)) ?_
  refine ct_al.cons (so_lload d_R_takeType_78) ?_
  refine ct_al.cons (so_lconst d_R_takeType_80 (by decide)) ?_
  refine ct_al.cons (so_lcmp d_R_takeType_81) ?_
  refine ct_al.cons (so_if_lt d_R_takeType_82 (by decide)) ?_
  refine ct_al.cons (so_lload d_R_takeType_85) ?_
  refine ct_al.cons (so_ldc2 wd_183 d_R_takeType_87) ?_
  refine ct_al.cons (so_lcmp d_R_takeType_90) ?_
  refine ct_al.cons (so_if_le d_R_takeType_91 (by decide)) ?_
  refine ct_al.cons (so_aload_n d_R_takeType_94 rfl) ?_
  refine ct_al.cons (so_iconst d_R_takeType_95 (by decide)) ?_
  refine ct_al.cons (so_iload d_R_takeType_96) ?_
  refine ct_al.cons (so_lload_n d_R_takeType_101 rfl) ?_
  refine ct_al.cons (so_bipush d_R_takeType_102 (by decide)) ?_
  refine ct_al.cons (so_lshl d_R_takeType_104) ?_
  refine ct_al.cons (so_lload d_R_takeType_105) ?_
  refine ct_al.cons (so_lor d_R_takeType_107) ?_
  refine ct_al.cons (so_lstore_n d_R_takeType_108 rfl (by decide)) ?_
  refine ct_al.cons (so_lload d_R_takeType_109) ?_
  refine ct_al.cons (so_ldc2 wd_183 d_R_takeType_111) ?_
  refine ct_al.cons (so_lcmp d_R_takeType_114) ?_
  refine ct_al.cons (so_if_eq d_R_takeType_115 (by decide)) ?_
  refine ct_al.cons (so_lload_n d_R_takeType_118 rfl) ?_
  refine ct_al.cons (so_aload_n d_R_takeType_120 rfl) ?_
  refine ct_al.cons (so_getI (Cn := "CodeTables$Reader") (T := ct_T2) kc_2 (by decide) rfl rfl wd_51 d_R_takeType_121) ?_
  refine ct_al.cons (so_istore d_R_takeType_124 (by decide)) ?_
  refine ct_al.cons (so_aload_n d_R_takeType_126 rfl) ?_
  refine ct_al.cons (so_iconst d_R_takeType_127 (by decide)) ?_
  refine ct_al.cons (so_lstore d_R_takeType_131 (by decide)) ?_
  refine ct_al.cons (so_aload_n d_R_takeType_133 rfl) ?_
  refine ct_al.cons (so_getI (Cn := "CodeTables$Reader") (T := ct_T2) kc_2 (by decide) rfl rfl wd_52 d_R_takeType_134) ?_
  refine ct_al.cons (so_if_eq d_R_takeType_137 (by decide)) ?_
  refine ct_al.cons (so_lload d_R_takeType_140) ?_
  refine ct_al.cons (so_aload_n d_R_takeType_142 rfl) ?_
  refine ct_al.cons (so_getR (Cn := "CodeTables$Reader") (T := ct_T2) kc_2 (by decide) rfl rfl wd_55 d_R_takeType_143) ?_
  refine ct_al.cons (so_i2l d_R_takeType_149) ?_
  refine ct_al.cons (so_lcmp d_R_takeType_150) ?_
  refine ct_al.cons (so_if_lt d_R_takeType_151 (by decide)) ?_
  refine ct_al.cons (so_aload_n d_R_takeType_154 rfl) ?_
  refine ct_al.cons (so_bipush d_R_takeType_155 (by decide)) ?_
  refine ct_al.cons (so_iload d_R_takeType_157) ?_
  refine ct_al.cons (so_lload_n d_R_takeType_162 rfl) ?_
  refine ct_al.cons (so_bipush d_R_takeType_163 (by decide)) ?_
  refine ct_al.cons (so_lshl d_R_takeType_165) ?_
  refine ct_al.cons (so_lload d_R_takeType_166) ?_
  refine ct_al.cons (so_lor d_R_takeType_168) ?_
  exact ct_al.nil
theorem e_R_takeType_0 : ct_tab (T_R_takeType) 0 = some (o_push (.long 0) 1) := rfl
theorem e_R_takeType_1 : ct_tab (T_R_takeType) 1 = some (o_lstore 2 1) := rfl
theorem e_R_takeType_2 : ct_tab (T_R_takeType) 2 = some (o_iload 1 1) := rfl
theorem e_R_takeType_3 : ct_tab (T_R_takeType) 3 = some (o_if (fun x => x = 0) (fun x => ¬ x = 0) 30) := rfl
theorem e_R_takeType_6 : ct_tab (T_R_takeType) 6 = some (o_aload 0 1) := rfl
theorem e_R_takeType_10 : ct_tab (T_R_takeType) 10 = some (o_push (.int 8) 2) := rfl
theorem e_R_takeType_12 : ct_tab (T_R_takeType) 12 = some (o_ic (fun x y => x = y) (fun x y => ¬ x = y) 24) := rfl
theorem e_R_takeType_15 : ct_tab (T_R_takeType) 15 = some (o_aload 0 1) := rfl
theorem e_R_takeType_19 : ct_tab (T_R_takeType) 19 = some (o_push (.int 9) 2) := rfl
theorem e_R_takeType_21 : ct_tab (T_R_takeType) 21 = some (o_ic (fun x y => ¬ x = y) (fun x y => x = y) 30) := rfl
theorem e_R_takeType_24 : ct_tab (T_R_takeType) 24 = some (o_aload 0 1) := rfl
theorem e_R_takeType_25 : ct_tab (T_R_takeType) 25 = some (o_push (.int 1) 1) := rfl
theorem e_R_takeType_29 : ct_tab (T_R_takeType) 29 = some (o_lstore 2 1) := rfl
theorem e_R_takeType_30 : ct_tab (T_R_takeType) 30 = some (o_push (.int 0) 1) := rfl
theorem e_R_takeType_31 : ct_tab (T_R_takeType) 31 = some (o_istore 4 2) := rfl
theorem e_R_takeType_33 : ct_tab (T_R_takeType) 33 = some (o_iload 4 2) := rfl
theorem e_R_takeType_35 : ct_tab (T_R_takeType) 35 = some (o_push (.int 4) 1) := rfl
theorem e_R_takeType_36 : ct_tab (T_R_takeType) 36 = some (o_ic (fun x y => y ≤ x) (fun x y => ¬ y ≤ x) 65) := rfl
theorem e_R_takeType_39 : ct_tab (T_R_takeType) 39 = some (o_aload 0 1) := rfl
theorem e_R_takeType_43 : ct_tab (T_R_takeType) 43 = some (o_push (.int 7) 2) := rfl
theorem e_R_takeType_45 : ct_tab (T_R_takeType) 45 = some (o_ic (fun x y => ¬ x = y) (fun x y => x = y) 65) := rfl
theorem e_R_takeType_48 : ct_tab (T_R_takeType) 48 = some (o_lload 2 1) := rfl
theorem e_R_takeType_49 : ct_tab (T_R_takeType) 49 = some (o_push (.int 8) 2) := rfl
theorem e_R_takeType_51 : ct_tab (T_R_takeType) 51 = some (o_li fun x y => x <<< (y.toInt64 &&& 63)) := rfl
theorem e_R_takeType_52 : ct_tab (T_R_takeType) 52 = some (o_aload 0 1) := rfl
theorem e_R_takeType_53 : ct_tab (T_R_takeType) 53 = some (o_push (.int 1) 1) := rfl
theorem e_R_takeType_57 : ct_tab (T_R_takeType) 57 = some (o_ll fun x y => x ||| y) := rfl
theorem e_R_takeType_58 : ct_tab (T_R_takeType) 58 = some (o_lstore 2 1) := rfl
theorem e_R_takeType_59 : ct_tab (T_R_takeType) 59 = some (o_iinc 4 1) := rfl
theorem e_R_takeType_62 : ct_tab (T_R_takeType) 62 = some (o_goto 33) := rfl
theorem e_R_takeType_65 : ct_tab (T_R_takeType) 65 = some (o_aload 0 1) := rfl
theorem e_R_takeType_66 : ct_tab (T_R_takeType) 66 = some (o_getI 2 9 5) := rfl
theorem e_R_takeType_69 : ct_tab (T_R_takeType) 69 = some (o_istore 4 2) := rfl
theorem e_R_takeType_71 : ct_tab (T_R_takeType) 71 = some (o_aload 0 1) := rfl
theorem e_R_takeType_72 : ct_tab (T_R_takeType) 72 = some (o_push (.int 1) 1) := rfl
theorem e_R_takeType_76 : ct_tab (T_R_takeType) 76 = some (o_lstore 5 2) := rfl
theorem e_R_takeType_78 : ct_tab (T_R_takeType) 78 = some (o_lload 5 2) := rfl
theorem e_R_takeType_80 : ct_tab (T_R_takeType) 80 = some (o_push (.long 1) 1) := rfl
theorem e_R_takeType_81 : ct_tab (T_R_takeType) 81 = some (o_lcmp) := rfl
theorem e_R_takeType_82 : ct_tab (T_R_takeType) 82 = some (o_if (fun x => x < 0) (fun x => ¬ x < 0) 94) := rfl
theorem e_R_takeType_85 : ct_tab (T_R_takeType) 85 = some (o_lload 5 2) := rfl
theorem e_R_takeType_87 : ct_tab (T_R_takeType) 87 = some (o_push (.long 6) 3) := rfl
theorem e_R_takeType_90 : ct_tab (T_R_takeType) 90 = some (o_lcmp) := rfl
theorem e_R_takeType_91 : ct_tab (T_R_takeType) 91 = some (o_if (fun x => x ≤ 0) (fun x => ¬ x ≤ 0) 101) := rfl
theorem e_R_takeType_94 : ct_tab (T_R_takeType) 94 = some (o_aload 0 1) := rfl
theorem e_R_takeType_95 : ct_tab (T_R_takeType) 95 = some (o_push (.int 4) 1) := rfl
theorem e_R_takeType_96 : ct_tab (T_R_takeType) 96 = some (o_iload 4 2) := rfl
theorem e_R_takeType_101 : ct_tab (T_R_takeType) 101 = some (o_lload 2 1) := rfl
theorem e_R_takeType_102 : ct_tab (T_R_takeType) 102 = some (o_push (.int 8) 2) := rfl
theorem e_R_takeType_104 : ct_tab (T_R_takeType) 104 = some (o_li fun x y => x <<< (y.toInt64 &&& 63)) := rfl
theorem e_R_takeType_105 : ct_tab (T_R_takeType) 105 = some (o_lload 5 2) := rfl
theorem e_R_takeType_107 : ct_tab (T_R_takeType) 107 = some (o_ll fun x y => x ||| y) := rfl
theorem e_R_takeType_108 : ct_tab (T_R_takeType) 108 = some (o_lstore 2 1) := rfl
theorem e_R_takeType_109 : ct_tab (T_R_takeType) 109 = some (o_lload 5 2) := rfl
theorem e_R_takeType_111 : ct_tab (T_R_takeType) 111 = some (o_push (.long 6) 3) := rfl
theorem e_R_takeType_114 : ct_tab (T_R_takeType) 114 = some (o_lcmp) := rfl
theorem e_R_takeType_115 : ct_tab (T_R_takeType) 115 = some (o_if (fun x => x = 0) (fun x => ¬ x = 0) 120) := rfl
theorem e_R_takeType_118 : ct_tab (T_R_takeType) 118 = some (o_lload 2 1) := rfl
theorem e_R_takeType_120 : ct_tab (T_R_takeType) 120 = some (o_aload 0 1) := rfl
theorem e_R_takeType_121 : ct_tab (T_R_takeType) 121 = some (o_getI 2 9 5) := rfl
theorem e_R_takeType_124 : ct_tab (T_R_takeType) 124 = some (o_istore 7 2) := rfl
theorem e_R_takeType_126 : ct_tab (T_R_takeType) 126 = some (o_aload 0 1) := rfl
theorem e_R_takeType_127 : ct_tab (T_R_takeType) 127 = some (o_push (.int 1) 1) := rfl
theorem e_R_takeType_131 : ct_tab (T_R_takeType) 131 = some (o_lstore 8 2) := rfl
theorem e_R_takeType_133 : ct_tab (T_R_takeType) 133 = some (o_aload 0 1) := rfl
theorem e_R_takeType_134 : ct_tab (T_R_takeType) 134 = some (o_getI 2 9 6) := rfl
theorem e_R_takeType_137 : ct_tab (T_R_takeType) 137 = some (o_if (fun x => x = 0) (fun x => ¬ x = 0) 162) := rfl
theorem e_R_takeType_140 : ct_tab (T_R_takeType) 140 = some (o_lload 8 2) := rfl
theorem e_R_takeType_142 : ct_tab (T_R_takeType) 142 = some (o_aload 0 1) := rfl
theorem e_R_takeType_143 : ct_tab (T_R_takeType) 143 = some (o_getR 2 9 0) := rfl
theorem e_R_takeType_149 : ct_tab (T_R_takeType) 149 = some (o_i2l) := rfl
theorem e_R_takeType_150 : ct_tab (T_R_takeType) 150 = some (o_lcmp) := rfl
theorem e_R_takeType_151 : ct_tab (T_R_takeType) 151 = some (o_if (fun x => x < 0) (fun x => ¬ x < 0) 162) := rfl
theorem e_R_takeType_154 : ct_tab (T_R_takeType) 154 = some (o_aload 0 1) := rfl
theorem e_R_takeType_155 : ct_tab (T_R_takeType) 155 = some (o_push (.int 7) 2) := rfl
theorem e_R_takeType_157 : ct_tab (T_R_takeType) 157 = some (o_iload 7 2) := rfl
theorem e_R_takeType_162 : ct_tab (T_R_takeType) 162 = some (o_lload 2 1) := rfl
theorem e_R_takeType_163 : ct_tab (T_R_takeType) 163 = some (o_push (.int 8) 2) := rfl
theorem e_R_takeType_165 : ct_tab (T_R_takeType) 165 = some (o_li fun x y => x <<< (y.toInt64 &&& 63)) := rfl
theorem e_R_takeType_166 : ct_tab (T_R_takeType) 166 = some (o_lload 8 2) := rfl
theorem e_R_takeType_168 : ct_tab (T_R_takeType) 168 = some (o_ll fun x y => x ||| y) := rfl
theorem cl_R_takeType_7 {l : ct_Lx} {d d1 : Nat} {Post Post1 : Option Value → ct_Sg → Prop} {lv : ct_Lv} {st : List Value} {g : ct_Sg} {bc bs c1 s1 : Nat} {h : Nat} (hsh : g.2.1 h = (10 + 2, 9)) (hM : ct_Me l M_R_nextByte d1 c1 s1 [.ref h] g Post1) (hdd : d1 + 1 ≤ d) (hk : (st.map fun v => v.category).sum ≤ 8) (hcc : c1 ≤ bc) (hss : s1 ≤ bs) (kk : ∀ (v : Option Value) (g' : ct_Sg), Post1 v g' → ct_Wp l M_R_takeType d Post (10, lv, v.toList ++ st, g', bc - c1, bs - s1)) : ct_Wp l M_R_takeType d Post (7, lv, .ref h :: st, g, bc, bs) := ct_Wp.callV (ci := 2) (N := 9) (T := ct_T2) (As := []) lk_R_nextByte (Or.inl wd_180) wd_181 wd_182 rfl d_R_takeType_7 hsh hM rfl hdd hk hcc hss kk
theorem cl_R_takeType_16 {l : ct_Lx} {d d1 : Nat} {Post Post1 : Option Value → ct_Sg → Prop} {lv : ct_Lv} {st : List Value} {g : ct_Sg} {bc bs c1 s1 : Nat} {h : Nat} (hsh : g.2.1 h = (10 + 2, 9)) (hM : ct_Me l M_R_nextByte d1 c1 s1 [.ref h] g Post1) (hdd : d1 + 1 ≤ d) (hk : (st.map fun v => v.category).sum ≤ 8) (hcc : c1 ≤ bc) (hss : s1 ≤ bs) (kk : ∀ (v : Option Value) (g' : ct_Sg), Post1 v g' → ct_Wp l M_R_takeType d Post (19, lv, v.toList ++ st, g', bc - c1, bs - s1)) : ct_Wp l M_R_takeType d Post (16, lv, .ref h :: st, g, bc, bs) := ct_Wp.callV (ci := 2) (N := 9) (T := ct_T2) (As := []) lk_R_nextByte (Or.inl wd_180) wd_181 wd_182 rfl d_R_takeType_16 hsh hM rfl hdd hk hcc hss kk
theorem cl_R_takeType_26 {l : ct_Lx} {d d1 : Nat} {Post Post1 : Option Value → ct_Sg → Prop} {lv : ct_Lv} {st : List Value} {g : ct_Sg} {bc bs c1 s1 : Nat} {a1 : Value} {h : Nat} (hsh : g.2.1 h = (10 + 2, 9)) (hM : ct_Me l M_R_take d1 c1 s1 [.ref h, a1] g Post1) (hdd : d1 + 1 ≤ d) (hk : (st.map fun v => v.category).sum ≤ 8) (hcc : c1 ≤ bc) (hss : s1 ≤ bs) (kk : ∀ (v : Option Value) (g' : ct_Sg), Post1 v g' → ct_Wp l M_R_takeType d Post (29, lv, v.toList ++ st, g', bc - c1, bs - s1)) : ct_Wp l M_R_takeType d Post (26, lv, a1 :: .ref h :: st, g, bc, bs) := ct_Wp.callV (ci := 2) (N := 9) (T := ct_T2) (As := [a1]) lk_R_take (Or.inl wd_65) wd_66 wd_67 rfl d_R_takeType_26 hsh hM rfl hdd hk hcc hss kk
theorem cl_R_takeType_40 {l : ct_Lx} {d d1 : Nat} {Post Post1 : Option Value → ct_Sg → Prop} {lv : ct_Lv} {st : List Value} {g : ct_Sg} {bc bs c1 s1 : Nat} {h : Nat} (hsh : g.2.1 h = (10 + 2, 9)) (hM : ct_Me l M_R_nextByte d1 c1 s1 [.ref h] g Post1) (hdd : d1 + 1 ≤ d) (hk : (st.map fun v => v.category).sum ≤ 8) (hcc : c1 ≤ bc) (hss : s1 ≤ bs) (kk : ∀ (v : Option Value) (g' : ct_Sg), Post1 v g' → ct_Wp l M_R_takeType d Post (43, lv, v.toList ++ st, g', bc - c1, bs - s1)) : ct_Wp l M_R_takeType d Post (40, lv, .ref h :: st, g, bc, bs) := ct_Wp.callV (ci := 2) (N := 9) (T := ct_T2) (As := []) lk_R_nextByte (Or.inl wd_180) wd_181 wd_182 rfl d_R_takeType_40 hsh hM rfl hdd hk hcc hss kk
theorem cl_R_takeType_54 {l : ct_Lx} {d d1 : Nat} {Post Post1 : Option Value → ct_Sg → Prop} {lv : ct_Lv} {st : List Value} {g : ct_Sg} {bc bs c1 s1 : Nat} {a1 : Value} {h : Nat} (hsh : g.2.1 h = (10 + 2, 9)) (hM : ct_Me l M_R_take d1 c1 s1 [.ref h, a1] g Post1) (hdd : d1 + 1 ≤ d) (hk : (st.map fun v => v.category).sum ≤ 8) (hcc : c1 ≤ bc) (hss : s1 ≤ bs) (kk : ∀ (v : Option Value) (g' : ct_Sg), Post1 v g' → ct_Wp l M_R_takeType d Post (57, lv, v.toList ++ st, g', bc - c1, bs - s1)) : ct_Wp l M_R_takeType d Post (54, lv, a1 :: .ref h :: st, g, bc, bs) := ct_Wp.callV (ci := 2) (N := 9) (T := ct_T2) (As := [a1]) lk_R_take (Or.inl wd_65) wd_66 wd_67 rfl d_R_takeType_54 hsh hM rfl hdd hk hcc hss kk
theorem cl_R_takeType_73 {l : ct_Lx} {d d1 : Nat} {Post Post1 : Option Value → ct_Sg → Prop} {lv : ct_Lv} {st : List Value} {g : ct_Sg} {bc bs c1 s1 : Nat} {a1 : Value} {h : Nat} (hsh : g.2.1 h = (10 + 2, 9)) (hM : ct_Me l M_R_take d1 c1 s1 [.ref h, a1] g Post1) (hdd : d1 + 1 ≤ d) (hk : (st.map fun v => v.category).sum ≤ 8) (hcc : c1 ≤ bc) (hss : s1 ≤ bs) (kk : ∀ (v : Option Value) (g' : ct_Sg), Post1 v g' → ct_Wp l M_R_takeType d Post (76, lv, v.toList ++ st, g', bc - c1, bs - s1)) : ct_Wp l M_R_takeType d Post (73, lv, a1 :: .ref h :: st, g, bc, bs) := ct_Wp.callV (ci := 2) (N := 9) (T := ct_T2) (As := [a1]) lk_R_take (Or.inl wd_65) wd_66 wd_67 rfl d_R_takeType_73 hsh hM rfl hdd hk hcc hss kk
theorem cl_R_takeType_98 {l : ct_Lx} {d d1 : Nat} {Post Post1 : Option Value → ct_Sg → Prop} {lv : ct_Lv} {st : List Value} {g : ct_Sg} {bc bs c1 s1 : Nat} {a1 a2 : Value} {h : Nat} (hsh : g.2.1 h = (10 + 2, 9)) (hM : ct_Me l M_R_fail d1 c1 s1 [.ref h, a1, a2] g Post1) (hdd : d1 + 1 ≤ d) (hk : (st.map fun v => v.category).sum ≤ 8) (hcc : c1 ≤ bc) (hss : s1 ≤ bs) (kk : ∀ (v : Option Value) (g' : ct_Sg), Post1 v g' → ct_Wp l M_R_takeType d Post (101, lv, v.toList ++ st, g', bc - c1, bs - s1)) : ct_Wp l M_R_takeType d Post (98, lv, a2 :: a1 :: .ref h :: st, g, bc, bs) := ct_Wp.callV (ci := 2) (N := 9) (T := ct_T2) (As := [a1, a2]) lk_R_fail (Or.inl wd_95) wd_96 wd_97 rfl d_R_takeType_98 hsh hM rfl hdd hk hcc hss kk
theorem cl_R_takeType_128 {l : ct_Lx} {d d1 : Nat} {Post Post1 : Option Value → ct_Sg → Prop} {lv : ct_Lv} {st : List Value} {g : ct_Sg} {bc bs c1 s1 : Nat} {a1 : Value} {h : Nat} (hsh : g.2.1 h = (10 + 2, 9)) (hM : ct_Me l M_R_take d1 c1 s1 [.ref h, a1] g Post1) (hdd : d1 + 1 ≤ d) (hk : (st.map fun v => v.category).sum ≤ 8) (hcc : c1 ≤ bc) (hss : s1 ≤ bs) (kk : ∀ (v : Option Value) (g' : ct_Sg), Post1 v g' → ct_Wp l M_R_takeType d Post (131, lv, v.toList ++ st, g', bc - c1, bs - s1)) : ct_Wp l M_R_takeType d Post (128, lv, a1 :: .ref h :: st, g, bc, bs) := ct_Wp.callV (ci := 2) (N := 9) (T := ct_T2) (As := [a1]) lk_R_take (Or.inl wd_65) wd_66 wd_67 rfl d_R_takeType_128 hsh hM rfl hdd hk hcc hss kk
theorem cl_R_takeType_146 {l : ct_Lx} {d d1 : Nat} {Post Post1 : Option Value → ct_Sg → Prop} {lv : ct_Lv} {st : List Value} {g : ct_Sg} {bc bs c1 s1 : Nat} {h : Nat} (hsh : g.2.1 h = (10 + 1, 10)) (hM : ct_Me l M_T_allStructures d1 c1 s1 [.ref h] g Post1) (hdd : d1 + 1 ≤ d) (hk : (st.map fun v => v.category).sum ≤ 8) (hcc : c1 ≤ bc) (hss : s1 ≤ bs) (kk : ∀ (v : Option Value) (g' : ct_Sg), Post1 v g' → ct_Wp l M_R_takeType d Post (149, lv, v.toList ++ st, g', bc - c1, bs - s1)) : ct_Wp l M_R_takeType d Post (146, lv, .ref h :: st, g, bc, bs) := ct_Wp.callV (ci := 1) (N := 10) (T := ct_T1) (As := []) lk_T_allStructures (Or.inl wd_172) wd_20 wd_21 rfl d_R_takeType_146 hsh hM rfl hdd hk hcc hss kk
theorem cl_R_takeType_159 {l : ct_Lx} {d d1 : Nat} {Post Post1 : Option Value → ct_Sg → Prop} {lv : ct_Lv} {st : List Value} {g : ct_Sg} {bc bs c1 s1 : Nat} {a1 a2 : Value} {h : Nat} (hsh : g.2.1 h = (10 + 2, 9)) (hM : ct_Me l M_R_fail d1 c1 s1 [.ref h, a1, a2] g Post1) (hdd : d1 + 1 ≤ d) (hk : (st.map fun v => v.category).sum ≤ 8) (hcc : c1 ≤ bc) (hss : s1 ≤ bs) (kk : ∀ (v : Option Value) (g' : ct_Sg), Post1 v g' → ct_Wp l M_R_takeType d Post (162, lv, v.toList ++ st, g', bc - c1, bs - s1)) : ct_Wp l M_R_takeType d Post (159, lv, a2 :: a1 :: .ref h :: st, g, bc, bs) := ct_Wp.callV (ci := 2) (N := 9) (T := ct_T2) (As := [a1, a2]) lk_R_fail (Or.inl wd_95) wd_96 wd_97 rfl d_R_takeType_159 hsh hM rfl hdd hk hcc hss kk
theorem d_R_takeName_0 : decode prog_2_method_18_code 0 = .ok (.aload_n 0, 1) := by decide +kernel
theorem d_R_takeName_1 : decode prog_2_method_18_code 1 = .ok (.getfield 28, 3) := by decide +kernel
theorem d_R_takeName_4 : decode prog_2_method_18_code 4 = .ok (.istore 4, 2) := by decide +kernel
theorem d_R_takeName_6 : decode prog_2_method_18_code 6 = .ok (.aload_n 0, 1) := by decide +kernel
theorem d_R_takeName_7 : decode prog_2_method_18_code 7 = .ok (.iload_n 1, 1) := by decide +kernel
theorem d_R_takeName_8 : decode prog_2_method_18_code 8 = .ok (.invokevirtual 51, 3) := by decide +kernel
theorem d_R_takeName_11 : decode prog_2_method_18_code 11 = .ok (.l2i, 1) := by decide +kernel
theorem d_R_takeName_12 : decode prog_2_method_18_code 12 = .ok (.istore 5, 2) := by decide +kernel
theorem d_R_takeName_14 : decode prog_2_method_18_code 14 = .ok (.aload_n 0, 1) := by decide +kernel
theorem d_R_takeName_15 : decode prog_2_method_18_code 15 = .ok (.getfield 31, 3) := by decide +kernel
theorem d_R_takeName_18 : decode prog_2_method_18_code 18 = .ok (.ifCond .eq 16, 3) := by decide +kernel
theorem d_R_takeName_21 : decode prog_2_method_18_code 21 = .ok (.iload 5, 2) := by decide +kernel
theorem d_R_takeName_23 : decode prog_2_method_18_code 23 = .ok (.iload_n 2, 1) := by decide +kernel
theorem d_R_takeName_24 : decode prog_2_method_18_code 24 = .ok (.if_icmp .lt 10, 3) := by decide +kernel
theorem d_R_takeName_27 : decode prog_2_method_18_code 27 = .ok (.aload_n 0, 1) := by decide +kernel
theorem d_R_takeName_28 : decode prog_2_method_18_code 28 = .ok (.iload_n 3, 1) := by decide +kernel
theorem d_R_takeName_29 : decode prog_2_method_18_code 29 = .ok (.iload 4, 2) := by decide +kernel
theorem d_R_takeName_31 : decode prog_2_method_18_code 31 = .ok (.invokevirtual 70, 3) := by decide +kernel
theorem d_R_takeName_34 : decode prog_2_method_18_code 34 = .ok (.iload 5, 2) := by decide +kernel
theorem d_R_takeName_36 : decode prog_2_method_18_code 36 = .ok (.ireturn, 1) := by decide +kernel
abbrev T_R_takeName : List (Nat × ct_PT) := [(0, o_aload 0 1), (1, o_getI 2 9 5), (4, o_istore 4 2), (6, o_aload 0 1), (7, o_iload 1 1), (11, o_l2i), (12, o_istore 5 2), (14, o_aload 0 1), (15, o_getI 2 9 6), (18, o_if (fun x => x = 0) (fun x => ¬ x = 0) 34), (21, o_iload 5 2), (23, o_iload 2 1), (24, o_ic (fun x y => x < y) (fun x y => ¬ x < y) 34), (27, o_aload 0 1), (28, o_iload 3 1), (29, o_iload 4 2), (34, o_iload 5 2)]
set_option maxRecDepth 100000 in
theorem A_R_takeName (l : ct_Lx) : ct_al l M_R_takeName (T_R_takeName) := by
  refine ct_al.cons (so_aload_n d_R_takeName_0 rfl) ?_
  refine ct_al.cons (so_getI (Cn := "CodeTables$Reader") (T := ct_T2) kc_2 (by decide) rfl rfl wd_51 d_R_takeName_1) ?_
  refine ct_al.cons (so_istore d_R_takeName_4 (by decide)) ?_
  refine ct_al.cons (so_aload_n d_R_takeName_6 rfl) ?_
  refine ct_al.cons (so_iload_n d_R_takeName_7 rfl) ?_
  refine ct_al.cons (so_l2i d_R_takeName_11) ?_
  refine ct_al.cons (so_istore d_R_takeName_12 (by decide)) ?_
  refine ct_al.cons (so_aload_n d_R_takeName_14 rfl) ?_
  refine ct_al.cons (so_getI (Cn := "CodeTables$Reader") (T := ct_T2) kc_2 (by decide) rfl rfl wd_52 d_R_takeName_15) ?_
  refine ct_al.cons (so_if_eq d_R_takeName_18 (by decide)) ?_
  refine ct_al.cons (so_iload d_R_takeName_21) ?_
  refine ct_al.cons (so_iload_n d_R_takeName_23 rfl) ?_
  refine ct_al.cons (so_ic_lt d_R_takeName_24 (by decide)) ?_
  refine ct_al.cons (so_aload_n d_R_takeName_27 rfl) ?_
  refine ct_al.cons (so_iload_n d_R_takeName_28 rfl) ?_
  refine ct_al.cons (so_iload d_R_takeName_29) ?_
  refine ct_al.cons (so_iload d_R_takeName_34) ?_
  exact ct_al.nil
theorem e_R_takeName_0 : ct_tab (T_R_takeName) 0 = some (o_aload 0 1) := rfl
theorem e_R_takeName_1 : ct_tab (T_R_takeName) 1 = some (o_getI 2 9 5) := rfl
theorem e_R_takeName_4 : ct_tab (T_R_takeName) 4 = some (o_istore 4 2) := rfl
theorem e_R_takeName_6 : ct_tab (T_R_takeName) 6 = some (o_aload 0 1) := rfl
theorem e_R_takeName_7 : ct_tab (T_R_takeName) 7 = some (o_iload 1 1) := rfl
theorem e_R_takeName_11 : ct_tab (T_R_takeName) 11 = some (o_l2i) := rfl
theorem e_R_takeName_12 : ct_tab (T_R_takeName) 12 = some (o_istore 5 2) := rfl
theorem e_R_takeName_14 : ct_tab (T_R_takeName) 14 = some (o_aload 0 1) := rfl
theorem e_R_takeName_15 : ct_tab (T_R_takeName) 15 = some (o_getI 2 9 6) := rfl
theorem e_R_takeName_18 : ct_tab (T_R_takeName) 18 = some (o_if (fun x => x = 0) (fun x => ¬ x = 0) 34) := rfl
theorem e_R_takeName_21 : ct_tab (T_R_takeName) 21 = some (o_iload 5 2) := rfl
theorem e_R_takeName_23 : ct_tab (T_R_takeName) 23 = some (o_iload 2 1) := rfl
theorem e_R_takeName_24 : ct_tab (T_R_takeName) 24 = some (o_ic (fun x y => x < y) (fun x y => ¬ x < y) 34) := rfl
theorem e_R_takeName_27 : ct_tab (T_R_takeName) 27 = some (o_aload 0 1) := rfl
theorem e_R_takeName_28 : ct_tab (T_R_takeName) 28 = some (o_iload 3 1) := rfl
theorem e_R_takeName_29 : ct_tab (T_R_takeName) 29 = some (o_iload 4 2) := rfl
theorem e_R_takeName_34 : ct_tab (T_R_takeName) 34 = some (o_iload 5 2) := rfl
theorem cl_R_takeName_8 {l : ct_Lx} {d d1 : Nat} {Post Post1 : Option Value → ct_Sg → Prop} {lv : ct_Lv} {st : List Value} {g : ct_Sg} {bc bs c1 s1 : Nat} {a1 : Value} {h : Nat} (hsh : g.2.1 h = (10 + 2, 9)) (hM : ct_Me l M_R_take d1 c1 s1 [.ref h, a1] g Post1) (hdd : d1 + 1 ≤ d) (hk : (st.map fun v => v.category).sum ≤ 8) (hcc : c1 ≤ bc) (hss : s1 ≤ bs) (kk : ∀ (v : Option Value) (g' : ct_Sg), Post1 v g' → ct_Wp l M_R_takeName d Post (11, lv, v.toList ++ st, g', bc - c1, bs - s1)) : ct_Wp l M_R_takeName d Post (8, lv, a1 :: .ref h :: st, g, bc, bs) := ct_Wp.callV (ci := 2) (N := 9) (T := ct_T2) (As := [a1]) lk_R_take (Or.inl wd_65) wd_66 wd_67 rfl d_R_takeName_8 hsh hM rfl hdd hk hcc hss kk
theorem cl_R_takeName_31 {l : ct_Lx} {d d1 : Nat} {Post Post1 : Option Value → ct_Sg → Prop} {lv : ct_Lv} {st : List Value} {g : ct_Sg} {bc bs c1 s1 : Nat} {a1 a2 : Value} {h : Nat} (hsh : g.2.1 h = (10 + 2, 9)) (hM : ct_Me l M_R_fail d1 c1 s1 [.ref h, a1, a2] g Post1) (hdd : d1 + 1 ≤ d) (hk : (st.map fun v => v.category).sum ≤ 8) (hcc : c1 ≤ bc) (hss : s1 ≤ bs) (kk : ∀ (v : Option Value) (g' : ct_Sg), Post1 v g' → ct_Wp l M_R_takeName d Post (34, lv, v.toList ++ st, g', bc - c1, bs - s1)) : ct_Wp l M_R_takeName d Post (31, lv, a2 :: a1 :: .ref h :: st, g, bc, bs) := ct_Wp.callV (ci := 2) (N := 9) (T := ct_T2) (As := [a1, a2]) lk_R_fail (Or.inl wd_95) wd_96 wd_97 rfl d_R_takeName_31 hsh hM rfl hdd hk hcc hss kk
theorem d_R_takeWithin_0 : decode prog_2_method_19_code 0 = .ok (.aload_n 0, 1) := by decide +kernel
theorem d_R_takeWithin_1 : decode prog_2_method_19_code 1 = .ok (.getfield 28, 3) := by decide +kernel
theorem d_R_takeWithin_4 : decode prog_2_method_19_code 4 = .ok (.istore 4, 2) := by decide +kernel
theorem d_R_takeWithin_6 : decode prog_2_method_19_code 6 = .ok (.aload_n 0, 1) := by decide +kernel
theorem d_R_takeWithin_7 : decode prog_2_method_19_code 7 = .ok (.iload_n 1, 1) := by decide +kernel
theorem d_R_takeWithin_8 : decode prog_2_method_19_code 8 = .ok (.invokevirtual 51, 3) := by decide +kernel
theorem d_R_takeWithin_11 : decode prog_2_method_19_code 11 = .ok (.l2i, 1) := by decide +kernel
theorem d_R_takeWithin_12 : decode prog_2_method_19_code 12 = .ok (.istore 5, 2) := by decide +kernel
theorem d_R_takeWithin_14 : decode prog_2_method_19_code 14 = .ok (.iload 5, 2) := by decide +kernel
theorem d_R_takeWithin_16 : decode prog_2_method_19_code 16 = .ok (.iload_n 2, 1) := by decide +kernel
theorem d_R_takeWithin_17 : decode prog_2_method_19_code 17 = .ok (.if_icmp .lt 9, 3) := by decide +kernel
theorem d_R_takeWithin_20 : decode prog_2_method_19_code 20 = .ok (.iload 5, 2) := by decide +kernel
theorem d_R_takeWithin_22 : decode prog_2_method_19_code 22 = .ok (.iload_n 3, 1) := by decide +kernel
theorem d_R_takeWithin_23 : decode prog_2_method_19_code 23 = .ok (.if_icmp .le 12, 3) := by decide +kernel
theorem d_R_takeWithin_26 : decode prog_2_method_19_code 26 = .ok (.aload_n 0, 1) := by decide +kernel
theorem d_R_takeWithin_27 : decode prog_2_method_19_code 27 = .ok (.iconst 3, 1) := by decide +kernel
theorem d_R_takeWithin_28 : decode prog_2_method_19_code 28 = .ok (.iload 4, 2) := by decide +kernel
theorem d_R_takeWithin_30 : decode prog_2_method_19_code 30 = .ok (.invokevirtual 70, 3) := by decide +kernel
theorem d_R_takeWithin_33 : decode prog_2_method_19_code 33 = .ok (.iconst 0, 1) := by decide +kernel
theorem d_R_takeWithin_34 : decode prog_2_method_19_code 34 = .ok (.ireturn, 1) := by decide +kernel
theorem d_R_takeWithin_35 : decode prog_2_method_19_code 35 = .ok (.iload 5, 2) := by decide +kernel
theorem d_R_takeWithin_37 : decode prog_2_method_19_code 37 = .ok (.ireturn, 1) := by decide +kernel
abbrev T_R_takeWithin : List (Nat × ct_PT) := [(0, o_aload 0 1), (1, o_getI 2 9 5), (4, o_istore 4 2), (6, o_aload 0 1), (7, o_iload 1 1), (11, o_l2i), (12, o_istore 5 2), (14, o_iload 5 2), (16, o_iload 2 1), (17, o_ic (fun x y => x < y) (fun x y => ¬ x < y) 26), (20, o_iload 5 2), (22, o_iload 3 1), (23, o_ic (fun x y => x ≤ y) (fun x y => ¬ x ≤ y) 35), (26, o_aload 0 1), (27, o_push (.int 3) 1), (28, o_iload 4 2), (33, o_push (.int 0) 1), (35, o_iload 5 2)]
set_option maxRecDepth 100000 in
theorem A_R_takeWithin (l : ct_Lx) : ct_al l M_R_takeWithin (T_R_takeWithin) := by
  refine ct_al.cons (so_aload_n d_R_takeWithin_0 rfl) ?_
  refine ct_al.cons (so_getI (Cn := "CodeTables$Reader") (T := ct_T2) kc_2 (by decide) rfl rfl wd_51 d_R_takeWithin_1) ?_
  refine ct_al.cons (so_istore d_R_takeWithin_4 (by decide)) ?_
  refine ct_al.cons (so_aload_n d_R_takeWithin_6 rfl) ?_
  refine ct_al.cons (so_iload_n d_R_takeWithin_7 rfl) ?_
  refine ct_al.cons (so_l2i d_R_takeWithin_11) ?_
  refine ct_al.cons (so_istore d_R_takeWithin_12 (by decide)) ?_
  refine ct_al.cons (so_iload d_R_takeWithin_14) ?_
  refine ct_al.cons (so_iload_n d_R_takeWithin_16 rfl) ?_
  refine ct_al.cons (so_ic_lt d_R_takeWithin_17 (by decide)) ?_
  refine ct_al.cons (so_iload d_R_takeWithin_20) ?_
  refine ct_al.cons (so_iload_n d_R_takeWithin_22 rfl) ?_
  refine ct_al.cons (so_ic_le d_R_takeWithin_23 (by decide)) ?_
  refine ct_al.cons (so_aload_n d_R_takeWithin_26 rfl) ?_
  refine ct_al.cons (so_iconst d_R_takeWithin_27 (by decide)) ?_
  refine ct_al.cons (so_iload d_R_takeWithin_28) ?_
  refine ct_al.cons (so_iconst d_R_takeWithin_33 (by decide)) ?_
  refine ct_al.cons (so_iload d_R_takeWithin_35) ?_
  exact ct_al.nil
theorem e_R_takeWithin_0 : ct_tab (T_R_takeWithin) 0 = some (o_aload 0 1) := rfl
theorem e_R_takeWithin_1 : ct_tab (T_R_takeWithin) 1 = some (o_getI 2 9 5) := rfl
theorem e_R_takeWithin_4 : ct_tab (T_R_takeWithin) 4 = some (o_istore 4 2) := rfl
theorem e_R_takeWithin_6 : ct_tab (T_R_takeWithin) 6 = some (o_aload 0 1) := rfl
theorem e_R_takeWithin_7 : ct_tab (T_R_takeWithin) 7 = some (o_iload 1 1) := rfl
theorem e_R_takeWithin_11 : ct_tab (T_R_takeWithin) 11 = some (o_l2i) := rfl
theorem e_R_takeWithin_12 : ct_tab (T_R_takeWithin) 12 = some (o_istore 5 2) := rfl
theorem e_R_takeWithin_14 : ct_tab (T_R_takeWithin) 14 = some (o_iload 5 2) := rfl
theorem e_R_takeWithin_16 : ct_tab (T_R_takeWithin) 16 = some (o_iload 2 1) := rfl
theorem e_R_takeWithin_17 : ct_tab (T_R_takeWithin) 17 = some (o_ic (fun x y => x < y) (fun x y => ¬ x < y) 26) := rfl
theorem e_R_takeWithin_20 : ct_tab (T_R_takeWithin) 20 = some (o_iload 5 2) := rfl
theorem e_R_takeWithin_22 : ct_tab (T_R_takeWithin) 22 = some (o_iload 3 1) := rfl
theorem e_R_takeWithin_23 : ct_tab (T_R_takeWithin) 23 = some (o_ic (fun x y => x ≤ y) (fun x y => ¬ x ≤ y) 35) := rfl
theorem e_R_takeWithin_26 : ct_tab (T_R_takeWithin) 26 = some (o_aload 0 1) := rfl
theorem e_R_takeWithin_27 : ct_tab (T_R_takeWithin) 27 = some (o_push (.int 3) 1) := rfl
theorem e_R_takeWithin_28 : ct_tab (T_R_takeWithin) 28 = some (o_iload 4 2) := rfl
theorem e_R_takeWithin_33 : ct_tab (T_R_takeWithin) 33 = some (o_push (.int 0) 1) := rfl
theorem e_R_takeWithin_35 : ct_tab (T_R_takeWithin) 35 = some (o_iload 5 2) := rfl
theorem cl_R_takeWithin_8 {l : ct_Lx} {d d1 : Nat} {Post Post1 : Option Value → ct_Sg → Prop} {lv : ct_Lv} {st : List Value} {g : ct_Sg} {bc bs c1 s1 : Nat} {a1 : Value} {h : Nat} (hsh : g.2.1 h = (10 + 2, 9)) (hM : ct_Me l M_R_take d1 c1 s1 [.ref h, a1] g Post1) (hdd : d1 + 1 ≤ d) (hk : (st.map fun v => v.category).sum ≤ 8) (hcc : c1 ≤ bc) (hss : s1 ≤ bs) (kk : ∀ (v : Option Value) (g' : ct_Sg), Post1 v g' → ct_Wp l M_R_takeWithin d Post (11, lv, v.toList ++ st, g', bc - c1, bs - s1)) : ct_Wp l M_R_takeWithin d Post (8, lv, a1 :: .ref h :: st, g, bc, bs) := ct_Wp.callV (ci := 2) (N := 9) (T := ct_T2) (As := [a1]) lk_R_take (Or.inl wd_65) wd_66 wd_67 rfl d_R_takeWithin_8 hsh hM rfl hdd hk hcc hss kk
theorem cl_R_takeWithin_30 {l : ct_Lx} {d d1 : Nat} {Post Post1 : Option Value → ct_Sg → Prop} {lv : ct_Lv} {st : List Value} {g : ct_Sg} {bc bs c1 s1 : Nat} {a1 a2 : Value} {h : Nat} (hsh : g.2.1 h = (10 + 2, 9)) (hM : ct_Me l M_R_fail d1 c1 s1 [.ref h, a1, a2] g Post1) (hdd : d1 + 1 ≤ d) (hk : (st.map fun v => v.category).sum ≤ 8) (hcc : c1 ≤ bc) (hss : s1 ≤ bs) (kk : ∀ (v : Option Value) (g' : ct_Sg), Post1 v g' → ct_Wp l M_R_takeWithin d Post (33, lv, v.toList ++ st, g', bc - c1, bs - s1)) : ct_Wp l M_R_takeWithin d Post (30, lv, a2 :: a1 :: .ref h :: st, g, bc, bs) := ct_Wp.callV (ci := 2) (N := 9) (T := ct_T2) (As := [a1, a2]) lk_R_fail (Or.inl wd_95) wd_96 wd_97 rfl d_R_takeWithin_30 hsh hM rfl hdd hk hcc hss kk
theorem d_R_take_0 : decode prog_2_method_20_code 0 = .ok (.aload_n 0, 1) := by decide +kernel
theorem d_R_take_1 : decode prog_2_method_20_code 1 = .ok (.getfield 35, 3) := by decide +kernel
theorem d_R_take_4 : decode prog_2_method_20_code 4 = .ok (.ifCond .ne 29, 3) := by decide +kernel
theorem d_R_take_7 : decode prog_2_method_20_code 7 = .ok (.aload_n 0, 1) := by decide +kernel
theorem d_R_take_8 : decode prog_2_method_20_code 8 = .ok (.getfield 24, 3) := by decide +kernel
theorem d_R_take_11 : decode prog_2_method_20_code 11 = .ok (.aload_n 0, 1) := by decide +kernel
theorem d_R_take_12 : decode prog_2_method_20_code 12 = .ok (.getfield 28, 3) := by decide +kernel
theorem d_R_take_15 : decode prog_2_method_20_code 15 = .ok (.isub, 1) := by decide +kernel
theorem d_R_take_16 : decode prog_2_method_20_code 16 = .ok (.iload_n 1, 1) := by decide +kernel
theorem d_R_take_17 : decode prog_2_method_20_code 17 = .ok (.if_icmp .ge 16, 3) := by decide +kernel
theorem d_R_take_20 : decode prog_2_method_20_code 20 = .ok (.aload_n 0, 1) := by decide +kernel
theorem d_R_take_21 : decode prog_2_method_20_code 21 = .ok (.iconst 2, 1) := by decide +kernel
theorem d_R_take_22 : decode prog_2_method_20_code 22 = .ok (.putfield 35, 3) := by decide +kernel
theorem d_R_take_25 : decode prog_2_method_20_code 25 = .ok (.aload_n 0, 1) := by decide +kernel
theorem d_R_take_26 : decode prog_2_method_20_code 26 = .ok (.aload_n 0, 1) := by decide +kernel
theorem d_R_take_27 : decode prog_2_method_20_code 27 = .ok (.getfield 24, 3) := by decide +kernel
theorem d_R_take_30 : decode prog_2_method_20_code 30 = .ok (.putfield 38, 3) := by decide +kernel
theorem d_R_take_33 : decode prog_2_method_20_code 33 = .ok (.aload_n 0, 1) := by decide +kernel
theorem d_R_take_34 : decode prog_2_method_20_code 34 = .ok (.getfield 35, 3) := by decide +kernel
theorem d_R_take_37 : decode prog_2_method_20_code 37 = .ok (.ifCond .eq 5, 3) := by decide +kernel
theorem d_R_take_40 : decode prog_2_method_20_code 40 = .ok (.lconst 0, 1) := by decide +kernel
theorem d_R_take_41 : decode prog_2_method_20_code 41 = .ok (.lreturn, 1) := by decide +kernel
theorem d_R_take_42 : decode prog_2_method_20_code 42 = .ok (.lconst 0, 1) := by decide +kernel
theorem d_R_take_43 : decode prog_2_method_20_code 43 = .ok (.lstore_n 2, 1) := by decide +kernel
theorem d_R_take_44 : decode prog_2_method_20_code 44 = .ok (.iconst 0, 1) := by decide +kernel
theorem d_R_take_45 : decode prog_2_method_20_code 45 = .ok (.istore 4, 2) := by decide +kernel
theorem d_R_take_47 : decode prog_2_method_20_code 47 = .ok (.iload 4, 2) := by decide +kernel
theorem d_R_take_49 : decode prog_2_method_20_code 49 = .ok (.iload_n 1, 1) := by decide +kernel
theorem d_R_take_50 : decode prog_2_method_20_code 50 = .ok (.if_icmp .ge 32, 3) := by decide +kernel
theorem d_R_take_53 : decode prog_2_method_20_code 53 = .ok (.lload_n 2, 1) := by decide +kernel
theorem d_R_take_54 : decode prog_2_method_20_code 54 = .ok (.bipush 8, 2) := by decide +kernel
theorem d_R_take_56 : decode prog_2_method_20_code 56 = .ok (.lshl, 1) := by decide +kernel
theorem d_R_take_57 : decode prog_2_method_20_code 57 = .ok (.aload_n 0, 1) := by decide +kernel
theorem d_R_take_58 : decode prog_2_method_20_code 58 = .ok (.getfield 20, 3) := by decide +kernel
theorem d_R_take_61 : decode prog_2_method_20_code 61 = .ok (.aload_n 0, 1) := by decide +kernel
theorem d_R_take_62 : decode prog_2_method_20_code 62 = .ok (.getfield 28, 3) := by decide +kernel
theorem d_R_take_65 : decode prog_2_method_20_code 65 = .ok (.iload 4, 2) := by decide +kernel
theorem d_R_take_67 : decode prog_2_method_20_code 67 = .ok (.iadd, 1) := by decide +kernel
theorem d_R_take_68 : decode prog_2_method_20_code 68 = .ok (.baload, 1) := by decide +kernel
theorem d_R_take_69 : decode prog_2_method_20_code 69 = .ok (.sipush 255, 3) := by decide +kernel
theorem d_R_take_72 : decode prog_2_method_20_code 72 = .ok (.iand, 1) := by decide +kernel
theorem d_R_take_73 : decode prog_2_method_20_code 73 = .ok (.i2l, 1) := by decide +kernel
theorem d_R_take_74 : decode prog_2_method_20_code 74 = .ok (.lor, 1) := by decide +kernel
theorem d_R_take_75 : decode prog_2_method_20_code 75 = .ok (.lstore_n 2, 1) := by decide +kernel
theorem d_R_take_76 : decode prog_2_method_20_code 76 = .ok (.iinc 4 1, 3) := by decide +kernel
theorem d_R_take_79 : decode prog_2_method_20_code 79 = .ok (.goto (-32), 3) := by decide +kernel
theorem d_R_take_82 : decode prog_2_method_20_code 82 = .ok (.aload_n 0, 1) := by decide +kernel
theorem d_R_take_83 : decode prog_2_method_20_code 83 = .ok (.dup, 1) := by decide +kernel
theorem d_R_take_84 : decode prog_2_method_20_code 84 = .ok (.getfield 28, 3) := by decide +kernel
theorem d_R_take_87 : decode prog_2_method_20_code 87 = .ok (.iload_n 1, 1) := by decide +kernel
theorem d_R_take_88 : decode prog_2_method_20_code 88 = .ok (.iadd, 1) := by decide +kernel
theorem d_R_take_89 : decode prog_2_method_20_code 89 = .ok (.putfield 28, 3) := by decide +kernel
theorem d_R_take_92 : decode prog_2_method_20_code 92 = .ok (.lload_n 2, 1) := by decide +kernel
theorem d_R_take_93 : decode prog_2_method_20_code 93 = .ok (.lreturn, 1) := by decide +kernel
abbrev T_R_take : List (Nat × ct_PT) := [(0, o_aload 0 1), (1, o_getI 2 9 7), (4, o_if (fun x => ¬ x = 0) (fun x => x = 0) 33), (7, o_aload 0 1), (8, o_getI 2 9 4), (11, o_aload 0 1), (12, o_getI 2 9 5), (15, o_ii fun x y => x - y), (16, o_iload 1 1), (17, o_ic (fun x y => y ≤ x) (fun x y => ¬ y ≤ x) 33), (20, o_aload 0 1), (21, o_push (.int 2) 1), (22, o_putI 2 9 7), (25, o_aload 0 1), (26, o_aload 0 1), (27, o_getI 2 9 4), (30, o_putI 2 9 8), (33, o_aload 0 1), (34, o_getI 2 9 7), (37, o_if (fun x => x = 0) (fun x => ¬ x = 0) 42), (40, o_push (.long 0) 1), (42, o_push (.long 0) 1), (43, o_lstore 2 1), (44, o_push (.int 0) 1), (45, o_istore 4 2), (47, o_iload 4 2), (49, o_iload 1 1), (50, o_ic (fun x y => y ≤ x) (fun x y => ¬ y ≤ x) 82), (53, o_lload 2 1), (54, o_push (.int 8) 2), (56, o_li fun x y => x <<< (y.toInt64 &&& 63)), (57, o_aload 0 1), (58, o_getR 2 9 3), (61, o_aload 0 1), (62, o_getI 2 9 5), (65, o_iload 4 2), (67, o_ii fun x y => x + y), (68, o_bald), (69, o_push (.int 255) 3), (72, o_ii fun x y => x &&& y), (73, o_i2l), (74, o_ll fun x y => x ||| y), (75, o_lstore 2 1), (76, o_iinc 4 1), (79, o_goto 47), (82, o_aload 0 1), (83, o_dup), (84, o_getI 2 9 5), (87, o_iload 1 1), (88, o_ii fun x y => x + y), (89, o_putI 2 9 5), (92, o_lload 2 1)]
set_option maxRecDepth 100000 in
theorem A_R_take (l : ct_Lx) : ct_al l M_R_take (T_R_take) := by
  refine ct_al.cons (so_aload_n d_R_take_0 rfl) ?_
  refine ct_al.cons (so_getI (Cn := "CodeTables$Reader") (T := ct_T2) kc_2 (by decide) rfl rfl wd_53 d_R_take_1) ?_
  refine ct_al.cons (so_if_ne d_R_take_4 (by decide)) ?_
  refine ct_al.cons (so_aload_n d_R_take_7 rfl) ?_
  refine ct_al.cons (so_getI (Cn := "CodeTables$Reader") (T := ct_T2) kc_2 (by decide) rfl rfl wd_50 d_R_take_8) ?_
  refine ct_al.cons (so_aload_n d_R_take_11 rfl) ?_
  refine ct_al.cons (so_getI (Cn := "CodeTables$Reader") (T := ct_T2) kc_2 (by decide) rfl rfl wd_51 d_R_take_12) ?_
  refine ct_al.cons (so_isub d_R_take_15) ?_
  refine ct_al.cons (so_iload_n d_R_take_16 rfl) ?_
  refine ct_al.cons (so_ic_ge d_R_take_17 (by decide)) ?_
  refine ct_al.cons (so_aload_n d_R_take_20 rfl) ?_
  refine ct_al.cons (so_iconst d_R_take_21 (by decide)) ?_
  refine ct_al.cons (so_putI (Cn := "CodeTables$Reader") (T := ct_T2) kc_2 (by decide) rfl rfl (Or.inl rfl) wd_53 d_R_take_22) ?_
  refine ct_al.cons (so_aload_n d_R_take_25 rfl) ?_
  refine ct_al.cons (so_aload_n d_R_take_26 rfl) ?_
  refine ct_al.cons (so_getI (Cn := "CodeTables$Reader") (T := ct_T2) kc_2 (by decide) rfl rfl wd_50 d_R_take_27) ?_
  refine ct_al.cons (so_putI (Cn := "CodeTables$Reader") (T := ct_T2) kc_2 (by decide) rfl rfl (Or.inl rfl) wd_54 d_R_take_30) ?_
  refine ct_al.cons (so_aload_n d_R_take_33 rfl) ?_
  refine ct_al.cons (so_getI (Cn := "CodeTables$Reader") (T := ct_T2) kc_2 (by decide) rfl rfl wd_53 d_R_take_34) ?_
  refine ct_al.cons (so_if_eq d_R_take_37 (by decide)) ?_
  refine ct_al.cons (so_lconst d_R_take_40 (by decide)) ?_
  refine ct_al.cons (so_lconst d_R_take_42 (by decide)) ?_
  refine ct_al.cons (so_lstore_n d_R_take_43 rfl (by decide)) ?_
  refine ct_al.cons (so_iconst d_R_take_44 (by decide)) ?_
  refine ct_al.cons (so_istore d_R_take_45 (by decide)) ?_
  refine ct_al.cons (so_iload d_R_take_47) ?_
  refine ct_al.cons (so_iload_n d_R_take_49 rfl) ?_
  refine ct_al.cons (so_ic_ge d_R_take_50 (by decide)) ?_
  refine ct_al.cons (so_lload_n d_R_take_53 rfl) ?_
  refine ct_al.cons (so_bipush d_R_take_54 (by decide)) ?_
  refine ct_al.cons (so_lshl d_R_take_56) ?_
  refine ct_al.cons (so_aload_n d_R_take_57 rfl) ?_
  refine ct_al.cons (so_getR (Cn := "CodeTables$Reader") (T := ct_T2) kc_2 (by decide) rfl rfl wd_49 d_R_take_58) ?_
  refine ct_al.cons (so_aload_n d_R_take_61 rfl) ?_
  refine ct_al.cons (so_getI (Cn := "CodeTables$Reader") (T := ct_T2) kc_2 (by decide) rfl rfl wd_51 d_R_take_62) ?_
  refine ct_al.cons (so_iload d_R_take_65) ?_
  refine ct_al.cons (so_iadd d_R_take_67) ?_
  refine ct_al.cons (so_bald d_R_take_68) ?_
  refine ct_al.cons (so_sipush d_R_take_69 (by decide)) ?_
  refine ct_al.cons (so_iand d_R_take_72) ?_
  refine ct_al.cons (so_i2l d_R_take_73) ?_
  refine ct_al.cons (so_lor d_R_take_74) ?_
  refine ct_al.cons (so_lstore_n d_R_take_75 rfl (by decide)) ?_
  refine ct_al.cons (so_iinc d_R_take_76 (by decide) (by decide)) ?_
  refine ct_al.cons (so_goto d_R_take_79 (by decide)) ?_
  refine ct_al.cons (so_aload_n d_R_take_82 rfl) ?_
  refine ct_al.cons (so_dup d_R_take_83) ?_
  refine ct_al.cons (so_getI (Cn := "CodeTables$Reader") (T := ct_T2) kc_2 (by decide) rfl rfl wd_51 d_R_take_84) ?_
  refine ct_al.cons (so_iload_n d_R_take_87 rfl) ?_
  refine ct_al.cons (so_iadd d_R_take_88) ?_
  refine ct_al.cons (so_putI (Cn := "CodeTables$Reader") (T := ct_T2) kc_2 (by decide) rfl rfl (Or.inl rfl) wd_51 d_R_take_89) ?_
  refine ct_al.cons (so_lload_n d_R_take_92 rfl) ?_
  exact ct_al.nil
theorem e_R_take_0 : ct_tab (T_R_take) 0 = some (o_aload 0 1) := rfl
theorem e_R_take_1 : ct_tab (T_R_take) 1 = some (o_getI 2 9 7) := rfl
theorem e_R_take_4 : ct_tab (T_R_take) 4 = some (o_if (fun x => ¬ x = 0) (fun x => x = 0) 33) := rfl
theorem e_R_take_7 : ct_tab (T_R_take) 7 = some (o_aload 0 1) := rfl
theorem e_R_take_8 : ct_tab (T_R_take) 8 = some (o_getI 2 9 4) := rfl
theorem e_R_take_11 : ct_tab (T_R_take) 11 = some (o_aload 0 1) := rfl
theorem e_R_take_12 : ct_tab (T_R_take) 12 = some (o_getI 2 9 5) := rfl
theorem e_R_take_15 : ct_tab (T_R_take) 15 = some (o_ii fun x y => x - y) := rfl
theorem e_R_take_16 : ct_tab (T_R_take) 16 = some (o_iload 1 1) := rfl
theorem e_R_take_17 : ct_tab (T_R_take) 17 = some (o_ic (fun x y => y ≤ x) (fun x y => ¬ y ≤ x) 33) := rfl
theorem e_R_take_20 : ct_tab (T_R_take) 20 = some (o_aload 0 1) := rfl
theorem e_R_take_21 : ct_tab (T_R_take) 21 = some (o_push (.int 2) 1) := rfl
theorem e_R_take_22 : ct_tab (T_R_take) 22 = some (o_putI 2 9 7) := rfl
theorem e_R_take_25 : ct_tab (T_R_take) 25 = some (o_aload 0 1) := rfl
theorem e_R_take_26 : ct_tab (T_R_take) 26 = some (o_aload 0 1) := rfl
theorem e_R_take_27 : ct_tab (T_R_take) 27 = some (o_getI 2 9 4) := rfl
theorem e_R_take_30 : ct_tab (T_R_take) 30 = some (o_putI 2 9 8) := rfl
theorem e_R_take_33 : ct_tab (T_R_take) 33 = some (o_aload 0 1) := rfl
theorem e_R_take_34 : ct_tab (T_R_take) 34 = some (o_getI 2 9 7) := rfl
theorem e_R_take_37 : ct_tab (T_R_take) 37 = some (o_if (fun x => x = 0) (fun x => ¬ x = 0) 42) := rfl
theorem e_R_take_40 : ct_tab (T_R_take) 40 = some (o_push (.long 0) 1) := rfl
theorem e_R_take_42 : ct_tab (T_R_take) 42 = some (o_push (.long 0) 1) := rfl
theorem e_R_take_43 : ct_tab (T_R_take) 43 = some (o_lstore 2 1) := rfl
theorem e_R_take_44 : ct_tab (T_R_take) 44 = some (o_push (.int 0) 1) := rfl
theorem e_R_take_45 : ct_tab (T_R_take) 45 = some (o_istore 4 2) := rfl
theorem e_R_take_47 : ct_tab (T_R_take) 47 = some (o_iload 4 2) := rfl
theorem e_R_take_49 : ct_tab (T_R_take) 49 = some (o_iload 1 1) := rfl
theorem e_R_take_50 : ct_tab (T_R_take) 50 = some (o_ic (fun x y => y ≤ x) (fun x y => ¬ y ≤ x) 82) := rfl
theorem e_R_take_53 : ct_tab (T_R_take) 53 = some (o_lload 2 1) := rfl
theorem e_R_take_54 : ct_tab (T_R_take) 54 = some (o_push (.int 8) 2) := rfl
theorem e_R_take_56 : ct_tab (T_R_take) 56 = some (o_li fun x y => x <<< (y.toInt64 &&& 63)) := rfl
theorem e_R_take_57 : ct_tab (T_R_take) 57 = some (o_aload 0 1) := rfl
theorem e_R_take_58 : ct_tab (T_R_take) 58 = some (o_getR 2 9 3) := rfl
theorem e_R_take_61 : ct_tab (T_R_take) 61 = some (o_aload 0 1) := rfl
theorem e_R_take_62 : ct_tab (T_R_take) 62 = some (o_getI 2 9 5) := rfl
theorem e_R_take_65 : ct_tab (T_R_take) 65 = some (o_iload 4 2) := rfl
theorem e_R_take_67 : ct_tab (T_R_take) 67 = some (o_ii fun x y => x + y) := rfl
theorem e_R_take_68 : ct_tab (T_R_take) 68 = some (o_bald) := rfl
theorem e_R_take_69 : ct_tab (T_R_take) 69 = some (o_push (.int 255) 3) := rfl
theorem e_R_take_72 : ct_tab (T_R_take) 72 = some (o_ii fun x y => x &&& y) := rfl
theorem e_R_take_73 : ct_tab (T_R_take) 73 = some (o_i2l) := rfl
theorem e_R_take_74 : ct_tab (T_R_take) 74 = some (o_ll fun x y => x ||| y) := rfl
theorem e_R_take_75 : ct_tab (T_R_take) 75 = some (o_lstore 2 1) := rfl
theorem e_R_take_76 : ct_tab (T_R_take) 76 = some (o_iinc 4 1) := rfl
theorem e_R_take_79 : ct_tab (T_R_take) 79 = some (o_goto 47) := rfl
theorem e_R_take_82 : ct_tab (T_R_take) 82 = some (o_aload 0 1) := rfl
theorem e_R_take_83 : ct_tab (T_R_take) 83 = some (o_dup) := rfl
theorem e_R_take_84 : ct_tab (T_R_take) 84 = some (o_getI 2 9 5) := rfl
theorem e_R_take_87 : ct_tab (T_R_take) 87 = some (o_iload 1 1) := rfl
theorem e_R_take_88 : ct_tab (T_R_take) 88 = some (o_ii fun x y => x + y) := rfl
theorem e_R_take_89 : ct_tab (T_R_take) 89 = some (o_putI 2 9 5) := rfl
theorem e_R_take_92 : ct_tab (T_R_take) 92 = some (o_lload 2 1) := rfl
theorem d_R_nextByte_0 : decode prog_2_method_21_code 0 = .ok (.aload_n 0, 1) := by decide +kernel
theorem d_R_nextByte_1 : decode prog_2_method_21_code 1 = .ok (.getfield 35, 3) := by decide +kernel
theorem d_R_nextByte_4 : decode prog_2_method_21_code 4 = .ok (.ifCond .ne 30, 3) := by decide +kernel
theorem d_R_nextByte_7 : decode prog_2_method_21_code 7 = .ok (.aload_n 0, 1) := by decide +kernel
theorem d_R_nextByte_8 : decode prog_2_method_21_code 8 = .ok (.getfield 28, 3) := by decide +kernel
theorem d_R_nextByte_11 : decode prog_2_method_21_code 11 = .ok (.aload_n 0, 1) := by decide +kernel
theorem d_R_nextByte_12 : decode prog_2_method_21_code 12 = .ok (.getfield 24, 3) := by decide +kernel
theorem d_R_nextByte_15 : decode prog_2_method_21_code 15 = .ok (.if_icmp .ge 19, 3) := by decide +kernel
theorem d_R_nextByte_18 : decode prog_2_method_21_code 18 = .ok (.aload_n 0, 1) := by decide +kernel
theorem d_R_nextByte_19 : decode prog_2_method_21_code 19 = .ok (.getfield 20, 3) := by decide +kernel
theorem d_R_nextByte_22 : decode prog_2_method_21_code 22 = .ok (.aload_n 0, 1) := by decide +kernel
theorem d_R_nextByte_23 : decode prog_2_method_21_code 23 = .ok (.getfield 28, 3) := by decide +kernel
theorem d_R_nextByte_26 : decode prog_2_method_21_code 26 = .ok (.baload, 1) := by decide +kernel
theorem d_R_nextByte_27 : decode prog_2_method_21_code 27 = .ok (.sipush 255, 3) := by decide +kernel
theorem d_R_nextByte_30 : decode prog_2_method_21_code 30 = .ok (.iand, 1) := by decide +kernel
theorem d_R_nextByte_31 : decode prog_2_method_21_code 31 = .ok (.goto 4, 3) := by decide +kernel
theorem d_R_nextByte_34 : decode prog_2_method_21_code 34 = .ok (.iconst 0, 1) := by decide +kernel
theorem d_R_nextByte_35 : decode prog_2_method_21_code 35 = .ok (.ireturn, 1) := by decide +kernel
abbrev T_R_nextByte : List (Nat × ct_PT) := [(0, o_aload 0 1), (1, o_getI 2 9 7), (4, o_if (fun x => ¬ x = 0) (fun x => x = 0) 34), (7, o_aload 0 1), (8, o_getI 2 9 5), (11, o_aload 0 1), (12, o_getI 2 9 4), (15, o_ic (fun x y => y ≤ x) (fun x y => ¬ y ≤ x) 34), (18, o_aload 0 1), (19, o_getR 2 9 3), (22, o_aload 0 1), (23, o_getI 2 9 5), (26, o_bald), (27, o_push (.int 255) 3), (30, o_ii fun x y => x &&& y), (31, o_goto 35), (34, o_push (.int 0) 1)]
set_option maxRecDepth 100000 in
theorem A_R_nextByte (l : ct_Lx) : ct_al l M_R_nextByte (T_R_nextByte) := by
  refine ct_al.cons (so_aload_n d_R_nextByte_0 rfl) ?_
  refine ct_al.cons (so_getI (Cn := "CodeTables$Reader") (T := ct_T2) kc_2 (by decide) rfl rfl wd_53 d_R_nextByte_1) ?_
  refine ct_al.cons (so_if_ne d_R_nextByte_4 (by decide)) ?_
  refine ct_al.cons (so_aload_n d_R_nextByte_7 rfl) ?_
  refine ct_al.cons (so_getI (Cn := "CodeTables$Reader") (T := ct_T2) kc_2 (by decide) rfl rfl wd_51 d_R_nextByte_8) ?_
  refine ct_al.cons (so_aload_n d_R_nextByte_11 rfl) ?_
  refine ct_al.cons (so_getI (Cn := "CodeTables$Reader") (T := ct_T2) kc_2 (by decide) rfl rfl wd_50 d_R_nextByte_12) ?_
  refine ct_al.cons (so_ic_ge d_R_nextByte_15 (by decide)) ?_
  refine ct_al.cons (so_aload_n d_R_nextByte_18 rfl) ?_
  refine ct_al.cons (so_getR (Cn := "CodeTables$Reader") (T := ct_T2) kc_2 (by decide) rfl rfl wd_49 d_R_nextByte_19) ?_
  refine ct_al.cons (so_aload_n d_R_nextByte_22 rfl) ?_
  refine ct_al.cons (so_getI (Cn := "CodeTables$Reader") (T := ct_T2) kc_2 (by decide) rfl rfl wd_51 d_R_nextByte_23) ?_
  refine ct_al.cons (so_bald d_R_nextByte_26) ?_
  refine ct_al.cons (so_sipush d_R_nextByte_27 (by decide)) ?_
  refine ct_al.cons (so_iand d_R_nextByte_30) ?_
  refine ct_al.cons (so_goto d_R_nextByte_31 (by decide)) ?_
  refine ct_al.cons (so_iconst d_R_nextByte_34 (by decide)) ?_
  exact ct_al.nil
theorem e_R_nextByte_0 : ct_tab (T_R_nextByte) 0 = some (o_aload 0 1) := rfl
theorem e_R_nextByte_1 : ct_tab (T_R_nextByte) 1 = some (o_getI 2 9 7) := rfl
theorem e_R_nextByte_4 : ct_tab (T_R_nextByte) 4 = some (o_if (fun x => ¬ x = 0) (fun x => x = 0) 34) := rfl
theorem e_R_nextByte_7 : ct_tab (T_R_nextByte) 7 = some (o_aload 0 1) := rfl
theorem e_R_nextByte_8 : ct_tab (T_R_nextByte) 8 = some (o_getI 2 9 5) := rfl
theorem e_R_nextByte_11 : ct_tab (T_R_nextByte) 11 = some (o_aload 0 1) := rfl
theorem e_R_nextByte_12 : ct_tab (T_R_nextByte) 12 = some (o_getI 2 9 4) := rfl
theorem e_R_nextByte_15 : ct_tab (T_R_nextByte) 15 = some (o_ic (fun x y => y ≤ x) (fun x y => ¬ y ≤ x) 34) := rfl
theorem e_R_nextByte_18 : ct_tab (T_R_nextByte) 18 = some (o_aload 0 1) := rfl
theorem e_R_nextByte_19 : ct_tab (T_R_nextByte) 19 = some (o_getR 2 9 3) := rfl
theorem e_R_nextByte_22 : ct_tab (T_R_nextByte) 22 = some (o_aload 0 1) := rfl
theorem e_R_nextByte_23 : ct_tab (T_R_nextByte) 23 = some (o_getI 2 9 5) := rfl
theorem e_R_nextByte_26 : ct_tab (T_R_nextByte) 26 = some (o_bald) := rfl
theorem e_R_nextByte_27 : ct_tab (T_R_nextByte) 27 = some (o_push (.int 255) 3) := rfl
theorem e_R_nextByte_30 : ct_tab (T_R_nextByte) 30 = some (o_ii fun x y => x &&& y) := rfl
theorem e_R_nextByte_31 : ct_tab (T_R_nextByte) 31 = some (o_goto 35) := rfl
theorem e_R_nextByte_34 : ct_tab (T_R_nextByte) 34 = some (o_push (.int 0) 1) := rfl
theorem d_R_fail_0 : decode prog_2_method_22_code 0 = .ok (.aload_n 0, 1) := by decide +kernel
theorem d_R_fail_1 : decode prog_2_method_22_code 1 = .ok (.getfield 35, 3) := by decide +kernel
theorem d_R_fail_4 : decode prog_2_method_22_code 4 = .ok (.ifCond .ne 13, 3) := by decide +kernel
theorem d_R_fail_7 : decode prog_2_method_22_code 7 = .ok (.aload_n 0, 1) := by decide +kernel
theorem d_R_fail_8 : decode prog_2_method_22_code 8 = .ok (.iload_n 1, 1) := by decide +kernel
theorem d_R_fail_9 : decode prog_2_method_22_code 9 = .ok (.putfield 35, 3) := by decide +kernel
theorem d_R_fail_12 : decode prog_2_method_22_code 12 = .ok (.aload_n 0, 1) := by decide +kernel
theorem d_R_fail_13 : decode prog_2_method_22_code 13 = .ok (.iload_n 2, 1) := by decide +kernel
theorem d_R_fail_14 : decode prog_2_method_22_code 14 = .ok (.putfield 38, 3) := by decide +kernel
theorem d_R_fail_17 : decode prog_2_method_22_code 17 = .ok (.return_, 1) := by decide +kernel
abbrev T_R_fail : List (Nat × ct_PT) := [(0, o_aload 0 1), (1, o_getI 2 9 7), (4, o_if (fun x => ¬ x = 0) (fun x => x = 0) 17), (7, o_aload 0 1), (8, o_iload 1 1), (9, o_putI 2 9 7), (12, o_aload 0 1), (13, o_iload 2 1), (14, o_putI 2 9 8)]
set_option maxRecDepth 100000 in
theorem A_R_fail (l : ct_Lx) : ct_al l M_R_fail (T_R_fail) := by
  refine ct_al.cons (so_aload_n d_R_fail_0 rfl) ?_
  refine ct_al.cons (so_getI (Cn := "CodeTables$Reader") (T := ct_T2) kc_2 (by decide) rfl rfl wd_53 d_R_fail_1) ?_
  refine ct_al.cons (so_if_ne d_R_fail_4 (by decide)) ?_
  refine ct_al.cons (so_aload_n d_R_fail_7 rfl) ?_
  refine ct_al.cons (so_iload_n d_R_fail_8 rfl) ?_
  refine ct_al.cons (so_putI (Cn := "CodeTables$Reader") (T := ct_T2) kc_2 (by decide) rfl rfl (Or.inl rfl) wd_53 d_R_fail_9) ?_
  refine ct_al.cons (so_aload_n d_R_fail_12 rfl) ?_
  refine ct_al.cons (so_iload_n d_R_fail_13 rfl) ?_
  refine ct_al.cons (so_putI (Cn := "CodeTables$Reader") (T := ct_T2) kc_2 (by decide) rfl rfl (Or.inl rfl) wd_54 d_R_fail_14) ?_
  exact ct_al.nil
theorem e_R_fail_0 : ct_tab (T_R_fail) 0 = some (o_aload 0 1) := rfl
theorem e_R_fail_1 : ct_tab (T_R_fail) 1 = some (o_getI 2 9 7) := rfl
theorem e_R_fail_4 : ct_tab (T_R_fail) 4 = some (o_if (fun x => ¬ x = 0) (fun x => x = 0) 17) := rfl
theorem e_R_fail_7 : ct_tab (T_R_fail) 7 = some (o_aload 0 1) := rfl
theorem e_R_fail_8 : ct_tab (T_R_fail) 8 = some (o_iload 1 1) := rfl
theorem e_R_fail_9 : ct_tab (T_R_fail) 9 = some (o_putI 2 9 7) := rfl
theorem e_R_fail_12 : ct_tab (T_R_fail) 12 = some (o_aload 0 1) := rfl
theorem e_R_fail_13 : ct_tab (T_R_fail) 13 = some (o_iload 2 1) := rfl
theorem e_R_fail_14 : ct_tab (T_R_fail) 14 = some (o_putI 2 9 8) := rfl
theorem d_R_findCircle_0 : decode prog_2_method_23_code 0 = .ok (.aload_n 0, 1) := by decide +kernel
theorem d_R_findCircle_1 : decode prog_2_method_23_code 1 = .ok (.getfield 35, 3) := by decide +kernel
theorem d_R_findCircle_4 : decode prog_2_method_23_code 4 = .ok (.ifCond .eq 4, 3) := by decide +kernel
theorem d_R_findCircle_7 : decode prog_2_method_23_code 7 = .ok (.return_, 1) := by decide +kernel
theorem d_R_findCircle_8 : decode prog_2_method_23_code 8 = .ok (.aload_n 0, 1) := by decide +kernel
theorem d_R_findCircle_9 : decode prog_2_method_23_code 9 = .ok (.getfield 41, 3) := by decide +kernel
theorem d_R_findCircle_12 : decode prog_2_method_23_code 12 = .ok (.getfield 48, 3) := by decide +kernel
theorem d_R_findCircle_15 : decode prog_2_method_23_code 15 = .ok (.iconst 1, 1) := by decide +kernel
theorem d_R_findCircle_16 : decode prog_2_method_23_code 16 = .ok (.iaload, 1) := by decide +kernel
theorem d_R_findCircle_17 : decode prog_2_method_23_code 17 = .ok (.istore_n 1, 1) := by decide +kernel
theorem d_R_findCircle_18 : decode prog_2_method_23_code 18 = .ok (.iconst 0, 1) := by decide +kernel
theorem d_R_findCircle_19 : decode prog_2_method_23_code 19 = .ok (.istore_n 2, 1) := by decide +kernel
theorem d_R_findCircle_20 : decode prog_2_method_23_code 20 = .ok (.iload_n 2, 1) := by decide +kernel
theorem d_R_findCircle_21 : decode prog_2_method_23_code 21 = .ok (.iload_n 1, 1) := by decide +kernel
theorem d_R_findCircle_22 : decode prog_2_method_23_code 22 = .ok (.if_icmp .ge 21, 3) := by decide +kernel
theorem d_R_findCircle_25 : decode prog_2_method_23_code 25 = .ok (.aload_n 0, 1) := by decide +kernel
theorem d_R_findCircle_26 : decode prog_2_method_23_code 26 = .ok (.getfield 17, 3) := by decide +kernel
theorem d_R_findCircle_29 : decode prog_2_method_23_code 29 = .ok (.iload_n 2, 1) := by decide +kernel
theorem d_R_findCircle_30 : decode prog_2_method_23_code 30 = .ok (.aload_n 0, 1) := by decide +kernel
theorem d_R_findCircle_31 : decode prog_2_method_23_code 31 = .ok (.iload_n 2, 1) := by decide +kernel
theorem d_R_findCircle_32 : decode prog_2_method_23_code 32 = .ok (.iload_n 1, 1) := by decide +kernel
theorem d_R_findCircle_33 : decode prog_2_method_23_code 33 = .ok (.invokevirtual 177, 3) := by decide +kernel
theorem d_R_findCircle_36 : decode prog_2_method_23_code 36 = .ok (.iastore, 1) := by decide +kernel
theorem d_R_findCircle_37 : decode prog_2_method_23_code 37 = .ok (.iinc 2 1, 3) := by decide +kernel
theorem d_R_findCircle_40 : decode prog_2_method_23_code 40 = .ok (.goto (-20), 3) := by decide +kernel
theorem d_R_findCircle_43 : decode prog_2_method_23_code 43 = .ok (.iconst 0, 1) := by decide +kernel
theorem d_R_findCircle_44 : decode prog_2_method_23_code 44 = .ok (.istore_n 2, 1) := by decide +kernel
theorem d_R_findCircle_45 : decode prog_2_method_23_code 45 = .ok (.iload_n 2, 1) := by decide +kernel
theorem d_R_findCircle_46 : decode prog_2_method_23_code 46 = .ok (.iload_n 1, 1) := by decide +kernel
theorem d_R_findCircle_47 : decode prog_2_method_23_code 47 = .ok (.if_icmp .ge 50, 3) := by decide +kernel
theorem d_R_findCircle_50 : decode prog_2_method_23_code 50 = .ok (.iconst 0, 1) := by decide +kernel
theorem d_R_findCircle_51 : decode prog_2_method_23_code 51 = .ok (.istore_n 3, 1) := by decide +kernel
theorem d_R_findCircle_52 : decode prog_2_method_23_code 52 = .ok (.iload_n 3, 1) := by decide +kernel
theorem d_R_findCircle_53 : decode prog_2_method_23_code 53 = .ok (.iload_n 1, 1) := by decide +kernel
theorem d_R_findCircle_54 : decode prog_2_method_23_code 54 = .ok (.if_icmp .ge 37, 3) := by decide +kernel
theorem d_R_findCircle_57 : decode prog_2_method_23_code 57 = .ok (.aload_n 0, 1) := by decide +kernel
theorem d_R_findCircle_58 : decode prog_2_method_23_code 58 = .ok (.getfield 17, 3) := by decide +kernel
theorem d_R_findCircle_61 : decode prog_2_method_23_code 61 = .ok (.iload_n 3, 1) := by decide +kernel
theorem d_R_findCircle_62 : decode prog_2_method_23_code 62 = .ok (.iaload, 1) := by decide +kernel
theorem d_R_findCircle_63 : decode prog_2_method_23_code 63 = .ok (.iload_n 2, 1) := by decide +kernel
theorem d_R_findCircle_64 : decode prog_2_method_23_code 64 = .ok (.iushr, 1) := by decide +kernel
theorem d_R_findCircle_65 : decode prog_2_method_23_code 65 = .ok (.iconst 1, 1) := by decide +kernel
theorem d_R_findCircle_66 : decode prog_2_method_23_code 66 = .ok (.iand, 1) := by decide +kernel
theorem d_R_findCircle_67 : decode prog_2_method_23_code 67 = .ok (.ifCond .eq 18, 3) := by decide +kernel
theorem d_R_findCircle_70 : decode prog_2_method_23_code 70 = .ok (.aload_n 0, 1) := by decide +kernel
theorem d_R_findCircle_71 : decode prog_2_method_23_code 71 = .ok (.getfield 17, 3) := by decide +kernel
theorem d_R_findCircle_74 : decode prog_2_method_23_code 74 = .ok (.iload_n 3, 1) := by decide +kernel
theorem d_R_findCircle_75 : decode prog_2_method_23_code 75 = .ok (.dup2, 1) := by decide +kernel
theorem d_R_findCircle_76 : decode prog_2_method_23_code 76 = .ok (.iaload, 1) := by decide +kernel
theorem d_R_findCircle_77 : decode prog_2_method_23_code 77 = .ok (.aload_n 0, 1) := by decide +kernel
theorem d_R_findCircle_78 : decode prog_2_method_23_code 78 = .ok (.getfield 17, 3) := by decide +kernel
theorem d_R_findCircle_81 : decode prog_2_method_23_code 81 = .ok (.iload_n 2, 1) := by decide +kernel
theorem d_R_findCircle_82 : decode prog_2_method_23_code 82 = .ok (.iaload, 1) := by decide +kernel
theorem d_R_findCircle_83 : decode prog_2_method_23_code 83 = .ok (.ior, 1) := by decide +kernel
theorem d_R_findCircle_84 : decode prog_2_method_23_code 84 = .ok (.iastore, 1) := by decide +kernel
theorem d_R_findCircle_85 : decode prog_2_method_23_code 85 = .ok (.iinc 3 1, 3) := by decide +kernel
theorem d_R_findCircle_88 : decode prog_2_method_23_code 88 = .ok (.goto (-36), 3) := by decide +kernel
theorem d_R_findCircle_91 : decode prog_2_method_23_code 91 = .ok (.iinc 2 1, 3) := by decide +kernel
theorem d_R_findCircle_94 : decode prog_2_method_23_code 94 = .ok (.goto (-49), 3) := by decide +kernel
theorem d_R_findCircle_97 : decode prog_2_method_23_code 97 = .ok (.iconst 0, 1) := by decide +kernel
theorem d_R_findCircle_98 : decode prog_2_method_23_code 98 = .ok (.istore_n 2, 1) := by decide +kernel
theorem d_R_findCircle_99 : decode prog_2_method_23_code 99 = .ok (.iload_n 2, 1) := by decide +kernel
theorem d_R_findCircle_100 : decode prog_2_method_23_code 100 = .ok (.iload_n 1, 1) := by decide +kernel
theorem d_R_findCircle_101 : decode prog_2_method_23_code 101 = .ok (.if_icmp .ge 34, 3) := by decide +kernel
theorem d_R_findCircle_104 : decode prog_2_method_23_code 104 = .ok (.aload_n 0, 1) := by decide +kernel
theorem d_R_findCircle_105 : decode prog_2_method_23_code 105 = .ok (.getfield 17, 3) := by decide +kernel
theorem d_R_findCircle_108 : decode prog_2_method_23_code 108 = .ok (.iload_n 2, 1) := by decide +kernel
theorem d_R_findCircle_109 : decode prog_2_method_23_code 109 = .ok (.iaload, 1) := by decide +kernel
theorem d_R_findCircle_110 : decode prog_2_method_23_code 110 = .ok (.iload_n 2, 1) := by decide +kernel
theorem d_R_findCircle_111 : decode prog_2_method_23_code 111 = .ok (.iushr, 1) := by decide +kernel
theorem d_R_findCircle_112 : decode prog_2_method_23_code 112 = .ok (.iconst 1, 1) := by decide +kernel
theorem d_R_findCircle_113 : decode prog_2_method_23_code 113 = .ok (.iand, 1) := by decide +kernel
theorem d_R_findCircle_114 : decode prog_2_method_23_code 114 = .ok (.ifCond .eq 15, 3) := by decide +kernel
theorem d_R_findCircle_117 : decode prog_2_method_23_code 117 = .ok (.aload_n 0, 1) := by decide +kernel
theorem d_R_findCircle_118 : decode prog_2_method_23_code 118 = .ok (.bipush 14, 2) := by decide +kernel
theorem d_R_findCircle_120 : decode prog_2_method_23_code 120 = .ok (.aload_n 0, 1) := by decide +kernel
theorem d_R_findCircle_121 : decode prog_2_method_23_code 121 = .ok (.getfield 11, 3) := by decide +kernel
theorem d_R_findCircle_124 : decode prog_2_method_23_code 124 = .ok (.iload_n 2, 1) := by decide +kernel
theorem d_R_findCircle_125 : decode prog_2_method_23_code 125 = .ok (.iaload, 1) := by decide +kernel
theorem d_R_findCircle_126 : decode prog_2_method_23_code 126 = .ok (.invokevirtual 70, 3) := by decide +kernel
theorem d_R_findCircle_129 : decode prog_2_method_23_code 129 = .ok (.iinc 2 1, 3) := by decide +kernel
theorem d_R_findCircle_132 : decode prog_2_method_23_code 132 = .ok (.goto (-33), 3) := by decide +kernel
theorem d_R_findCircle_135 : decode prog_2_method_23_code 135 = .ok (.return_, 1) := by decide +kernel
abbrev T_R_findCircle : List (Nat × ct_PT) := [(0, o_aload 0 1), (1, o_getI 2 9 7), (4, o_if (fun x => x = 0) (fun x => ¬ x = 0) 8), (8, o_aload 0 1), (9, o_getR 2 9 0), (12, o_getR 1 10 0), (15, o_push (.int 1) 1), (16, o_iald), (17, o_istore 1 1), (18, o_push (.int 0) 1), (19, o_istore 2 1), (20, o_iload 2 1), (21, o_iload 1 1), (22, o_ic (fun x y => y ≤ x) (fun x y => ¬ y ≤ x) 43), (25, o_aload 0 1), (26, o_getR 2 9 2), (29, o_iload 2 1), (30, o_aload 0 1), (31, o_iload 2 1), (32, o_iload 1 1), (36, o_iast), (37, o_iinc 2 1), (40, o_goto 20), (43, o_push (.int 0) 1), (44, o_istore 2 1), (45, o_iload 2 1), (46, o_iload 1 1), (47, o_ic (fun x y => y ≤ x) (fun x y => ¬ y ≤ x) 97), (50, o_push (.int 0) 1), (51, o_istore 3 1), (52, o_iload 3 1), (53, o_iload 1 1), (54, o_ic (fun x y => y ≤ x) (fun x y => ¬ y ≤ x) 91), (57, o_aload 0 1), (58, o_getR 2 9 2), (61, o_iload 3 1), (62, o_iald), (63, o_iload 2 1), (64, o_ii fun x y => (x.toUInt32 >>> (y.toUInt32 &&& Int32.toUInt32 31)).toInt32), (65, o_push (.int 1) 1), (66, o_ii fun x y => x &&& y), (67, o_if (fun x => x = 0) (fun x => ¬ x = 0) 85), (70, o_aload 0 1), (71, o_getR 2 9 2), (74, o_iload 3 1), (75, o_dup2), (76, o_iald), (77, o_aload 0 1), (78, o_getR 2 9 2), (81, o_iload 2 1), (82, o_iald), (83, o_ii fun x y => x ||| y), (84, o_iast), (85, o_iinc 3 1), (88, o_goto 52), (91, o_iinc 2 1), (94, o_goto 45), (97, o_push (.int 0) 1), (98, o_istore 2 1), (99, o_iload 2 1), (100, o_iload 1 1), (101, o_ic (fun x y => y ≤ x) (fun x y => ¬ y ≤ x) 135), (104, o_aload 0 1), (105, o_getR 2 9 2), (108, o_iload 2 1), (109, o_iald), (110, o_iload 2 1), (111, o_ii fun x y => (x.toUInt32 >>> (y.toUInt32 &&& Int32.toUInt32 31)).toInt32), (112, o_push (.int 1) 1), (113, o_ii fun x y => x &&& y), (114, o_if (fun x => x = 0) (fun x => ¬ x = 0) 129), (117, o_aload 0 1), (118, o_push (.int 14) 2), (120, o_aload 0 1), (121, o_getR 2 9 1), (124, o_iload 2 1), (125, o_iald), (129, o_iinc 2 1), (132, o_goto 99)]
set_option maxRecDepth 100000 in
theorem A_R_findCircle (l : ct_Lx) : ct_al l M_R_findCircle (T_R_findCircle) := by
  refine ct_al.cons (so_aload_n d_R_findCircle_0 rfl) ?_
  refine ct_al.cons (so_getI (Cn := "CodeTables$Reader") (T := ct_T2) kc_2 (by decide) rfl rfl wd_53 d_R_findCircle_1) ?_
  refine ct_al.cons (so_if_eq d_R_findCircle_4 (by decide)) ?_
  refine ct_al.cons (so_aload_n d_R_findCircle_8 rfl) ?_
  refine ct_al.cons (so_getR (Cn := "CodeTables$Reader") (T := ct_T2) kc_2 (by decide) rfl rfl wd_55 d_R_findCircle_9) ?_
  refine ct_al.cons (so_getR (Cn := "CodeTables$Tables") (T := ct_T1) kc_1 (by decide) rfl rfl wd_62 d_R_findCircle_12) ?_
  refine ct_al.cons (so_iconst d_R_findCircle_15 (by decide)) ?_
  refine ct_al.cons (so_iald d_R_findCircle_16) ?_
  refine ct_al.cons (so_istore_n d_R_findCircle_17 rfl (by decide)) ?_
  refine ct_al.cons (so_iconst d_R_findCircle_18 (by decide)) ?_
  refine ct_al.cons (so_istore_n d_R_findCircle_19 rfl (by decide)) ?_
  refine ct_al.cons (so_iload_n d_R_findCircle_20 rfl) ?_
  refine ct_al.cons (so_iload_n d_R_findCircle_21 rfl) ?_
  refine ct_al.cons (so_ic_ge d_R_findCircle_22 (by decide)) ?_
  refine ct_al.cons (so_aload_n d_R_findCircle_25 rfl) ?_
  refine ct_al.cons (so_getR (Cn := "CodeTables$Reader") (T := ct_T2) kc_2 (by decide) rfl rfl wd_48 d_R_findCircle_26) ?_
  refine ct_al.cons (so_iload_n d_R_findCircle_29 rfl) ?_
  refine ct_al.cons (so_aload_n d_R_findCircle_30 rfl) ?_
  refine ct_al.cons (so_iload_n d_R_findCircle_31 rfl) ?_
  refine ct_al.cons (so_iload_n d_R_findCircle_32 rfl) ?_
  refine ct_al.cons (so_iast d_R_findCircle_36) ?_
  refine ct_al.cons (so_iinc d_R_findCircle_37 (by decide) (by decide)) ?_
  refine ct_al.cons (so_goto d_R_findCircle_40 (by decide)) ?_
  refine ct_al.cons (so_iconst d_R_findCircle_43 (by decide)) ?_
  refine ct_al.cons (so_istore_n d_R_findCircle_44 rfl (by decide)) ?_
  refine ct_al.cons (so_iload_n d_R_findCircle_45 rfl) ?_
  refine ct_al.cons (so_iload_n d_R_findCircle_46 rfl) ?_
  refine ct_al.cons (so_ic_ge d_R_findCircle_47 (by decide)) ?_
  refine ct_al.cons (so_iconst d_R_findCircle_50 (by decide)) ?_
  refine ct_al.cons (so_istore_n d_R_findCircle_51 rfl (by decide)) ?_
  refine ct_al.cons (so_iload_n d_R_findCircle_52 rfl) ?_
  refine ct_al.cons (so_iload_n d_R_findCircle_53 rfl) ?_
  refine ct_al.cons (so_ic_ge d_R_findCircle_54 (by decide)) ?_
  refine ct_al.cons (so_aload_n d_R_findCircle_57 rfl) ?_
  refine ct_al.cons (so_getR (Cn := "CodeTables$Reader") (T := ct_T2) kc_2 (by decide) rfl rfl wd_48 d_R_findCircle_58) ?_
  refine ct_al.cons (so_iload_n d_R_findCircle_61 rfl) ?_
  refine ct_al.cons (so_iald d_R_findCircle_62) ?_
  refine ct_al.cons (so_iload_n d_R_findCircle_63 rfl) ?_
  refine ct_al.cons (so_iushr d_R_findCircle_64) ?_
  refine ct_al.cons (so_iconst d_R_findCircle_65 (by decide)) ?_
  refine ct_al.cons (so_iand d_R_findCircle_66) ?_
  refine ct_al.cons (so_if_eq d_R_findCircle_67 (by decide)) ?_
  refine ct_al.cons (so_aload_n d_R_findCircle_70 rfl) ?_
  refine ct_al.cons (so_getR (Cn := "CodeTables$Reader") (T := ct_T2) kc_2 (by decide) rfl rfl wd_48 d_R_findCircle_71) ?_
  refine ct_al.cons (so_iload_n d_R_findCircle_74 rfl) ?_
  refine ct_al.cons (so_dup2 d_R_findCircle_75) ?_
  refine ct_al.cons (so_iald d_R_findCircle_76) ?_
  refine ct_al.cons (so_aload_n d_R_findCircle_77 rfl) ?_
  refine ct_al.cons (so_getR (Cn := "CodeTables$Reader") (T := ct_T2) kc_2 (by decide) rfl rfl wd_48 d_R_findCircle_78) ?_
  refine ct_al.cons (so_iload_n d_R_findCircle_81 rfl) ?_
  refine ct_al.cons (so_iald d_R_findCircle_82) ?_
  refine ct_al.cons (so_ior d_R_findCircle_83) ?_
  refine ct_al.cons (so_iast d_R_findCircle_84) ?_
  refine ct_al.cons (so_iinc d_R_findCircle_85 (by decide) (by decide)) ?_
  refine ct_al.cons (so_goto d_R_findCircle_88 (by decide)) ?_
  refine ct_al.cons (so_iinc d_R_findCircle_91 (by decide) (by decide)) ?_
  refine ct_al.cons (so_goto d_R_findCircle_94 (by decide)) ?_
  refine ct_al.cons (so_iconst d_R_findCircle_97 (by decide)) ?_
  refine ct_al.cons (so_istore_n d_R_findCircle_98 rfl (by decide)) ?_
  refine ct_al.cons (so_iload_n d_R_findCircle_99 rfl) ?_
  refine ct_al.cons (so_iload_n d_R_findCircle_100 rfl) ?_
  refine ct_al.cons (so_ic_ge d_R_findCircle_101 (by decide)) ?_
  refine ct_al.cons (so_aload_n d_R_findCircle_104 rfl) ?_
  refine ct_al.cons (so_getR (Cn := "CodeTables$Reader") (T := ct_T2) kc_2 (by decide) rfl rfl wd_48 d_R_findCircle_105) ?_
  refine ct_al.cons (so_iload_n d_R_findCircle_108 rfl) ?_
  refine ct_al.cons (so_iald d_R_findCircle_109) ?_
  refine ct_al.cons (so_iload_n d_R_findCircle_110 rfl) ?_
  refine ct_al.cons (so_iushr d_R_findCircle_111) ?_
  refine ct_al.cons (so_iconst d_R_findCircle_112 (by decide)) ?_
  refine ct_al.cons (so_iand d_R_findCircle_113) ?_
  refine ct_al.cons (so_if_eq d_R_findCircle_114 (by decide)) ?_
  refine ct_al.cons (so_aload_n d_R_findCircle_117 rfl) ?_
  refine ct_al.cons (so_bipush d_R_findCircle_118 (by decide)) ?_
  refine ct_al.cons (so_aload_n d_R_findCircle_120 rfl) ?_
  refine ct_al.cons (so_getR (Cn := "CodeTables$Reader") (T := ct_T2) kc_2 (by decide) rfl rfl wd_47 d_R_findCircle_121) ?_
  refine ct_al.cons (so_iload_n d_R_findCircle_124 rfl) ?_
  refine ct_al.cons (so_iald d_R_findCircle_125) ?_
  refine ct_al.cons (so_iinc d_R_findCircle_129 (by decide) (by decide)) ?_
  refine ct_al.cons (so_goto d_R_findCircle_132 (by decide)) ?_
  exact ct_al.nil
theorem e_R_findCircle_0 : ct_tab (T_R_findCircle) 0 = some (o_aload 0 1) := rfl
theorem e_R_findCircle_1 : ct_tab (T_R_findCircle) 1 = some (o_getI 2 9 7) := rfl
theorem e_R_findCircle_4 : ct_tab (T_R_findCircle) 4 = some (o_if (fun x => x = 0) (fun x => ¬ x = 0) 8) := rfl
theorem e_R_findCircle_8 : ct_tab (T_R_findCircle) 8 = some (o_aload 0 1) := rfl
theorem e_R_findCircle_9 : ct_tab (T_R_findCircle) 9 = some (o_getR 2 9 0) := rfl
theorem e_R_findCircle_12 : ct_tab (T_R_findCircle) 12 = some (o_getR 1 10 0) := rfl
theorem e_R_findCircle_15 : ct_tab (T_R_findCircle) 15 = some (o_push (.int 1) 1) := rfl
theorem e_R_findCircle_16 : ct_tab (T_R_findCircle) 16 = some (o_iald) := rfl
theorem e_R_findCircle_17 : ct_tab (T_R_findCircle) 17 = some (o_istore 1 1) := rfl
theorem e_R_findCircle_18 : ct_tab (T_R_findCircle) 18 = some (o_push (.int 0) 1) := rfl
theorem e_R_findCircle_19 : ct_tab (T_R_findCircle) 19 = some (o_istore 2 1) := rfl
theorem e_R_findCircle_20 : ct_tab (T_R_findCircle) 20 = some (o_iload 2 1) := rfl
theorem e_R_findCircle_21 : ct_tab (T_R_findCircle) 21 = some (o_iload 1 1) := rfl
theorem e_R_findCircle_22 : ct_tab (T_R_findCircle) 22 = some (o_ic (fun x y => y ≤ x) (fun x y => ¬ y ≤ x) 43) := rfl
theorem e_R_findCircle_25 : ct_tab (T_R_findCircle) 25 = some (o_aload 0 1) := rfl
theorem e_R_findCircle_26 : ct_tab (T_R_findCircle) 26 = some (o_getR 2 9 2) := rfl
theorem e_R_findCircle_29 : ct_tab (T_R_findCircle) 29 = some (o_iload 2 1) := rfl
theorem e_R_findCircle_30 : ct_tab (T_R_findCircle) 30 = some (o_aload 0 1) := rfl
theorem e_R_findCircle_31 : ct_tab (T_R_findCircle) 31 = some (o_iload 2 1) := rfl
theorem e_R_findCircle_32 : ct_tab (T_R_findCircle) 32 = some (o_iload 1 1) := rfl
theorem e_R_findCircle_36 : ct_tab (T_R_findCircle) 36 = some (o_iast) := rfl
theorem e_R_findCircle_37 : ct_tab (T_R_findCircle) 37 = some (o_iinc 2 1) := rfl
theorem e_R_findCircle_40 : ct_tab (T_R_findCircle) 40 = some (o_goto 20) := rfl
theorem e_R_findCircle_43 : ct_tab (T_R_findCircle) 43 = some (o_push (.int 0) 1) := rfl
theorem e_R_findCircle_44 : ct_tab (T_R_findCircle) 44 = some (o_istore 2 1) := rfl
theorem e_R_findCircle_45 : ct_tab (T_R_findCircle) 45 = some (o_iload 2 1) := rfl
theorem e_R_findCircle_46 : ct_tab (T_R_findCircle) 46 = some (o_iload 1 1) := rfl
theorem e_R_findCircle_47 : ct_tab (T_R_findCircle) 47 = some (o_ic (fun x y => y ≤ x) (fun x y => ¬ y ≤ x) 97) := rfl
theorem e_R_findCircle_50 : ct_tab (T_R_findCircle) 50 = some (o_push (.int 0) 1) := rfl
theorem e_R_findCircle_51 : ct_tab (T_R_findCircle) 51 = some (o_istore 3 1) := rfl
theorem e_R_findCircle_52 : ct_tab (T_R_findCircle) 52 = some (o_iload 3 1) := rfl
theorem e_R_findCircle_53 : ct_tab (T_R_findCircle) 53 = some (o_iload 1 1) := rfl
theorem e_R_findCircle_54 : ct_tab (T_R_findCircle) 54 = some (o_ic (fun x y => y ≤ x) (fun x y => ¬ y ≤ x) 91) := rfl
theorem e_R_findCircle_57 : ct_tab (T_R_findCircle) 57 = some (o_aload 0 1) := rfl
theorem e_R_findCircle_58 : ct_tab (T_R_findCircle) 58 = some (o_getR 2 9 2) := rfl
theorem e_R_findCircle_61 : ct_tab (T_R_findCircle) 61 = some (o_iload 3 1) := rfl
theorem e_R_findCircle_62 : ct_tab (T_R_findCircle) 62 = some (o_iald) := rfl
theorem e_R_findCircle_63 : ct_tab (T_R_findCircle) 63 = some (o_iload 2 1) := rfl
theorem e_R_findCircle_64 : ct_tab (T_R_findCircle) 64 = some (o_ii fun x y => (x.toUInt32 >>> (y.toUInt32 &&& Int32.toUInt32 31)).toInt32) := rfl
theorem e_R_findCircle_65 : ct_tab (T_R_findCircle) 65 = some (o_push (.int 1) 1) := rfl
theorem e_R_findCircle_66 : ct_tab (T_R_findCircle) 66 = some (o_ii fun x y => x &&& y) := rfl
theorem e_R_findCircle_67 : ct_tab (T_R_findCircle) 67 = some (o_if (fun x => x = 0) (fun x => ¬ x = 0) 85) := rfl
theorem e_R_findCircle_70 : ct_tab (T_R_findCircle) 70 = some (o_aload 0 1) := rfl
theorem e_R_findCircle_71 : ct_tab (T_R_findCircle) 71 = some (o_getR 2 9 2) := rfl
theorem e_R_findCircle_74 : ct_tab (T_R_findCircle) 74 = some (o_iload 3 1) := rfl
theorem e_R_findCircle_75 : ct_tab (T_R_findCircle) 75 = some (o_dup2) := rfl
theorem e_R_findCircle_76 : ct_tab (T_R_findCircle) 76 = some (o_iald) := rfl
theorem e_R_findCircle_77 : ct_tab (T_R_findCircle) 77 = some (o_aload 0 1) := rfl
theorem e_R_findCircle_78 : ct_tab (T_R_findCircle) 78 = some (o_getR 2 9 2) := rfl
theorem e_R_findCircle_81 : ct_tab (T_R_findCircle) 81 = some (o_iload 2 1) := rfl
theorem e_R_findCircle_82 : ct_tab (T_R_findCircle) 82 = some (o_iald) := rfl
theorem e_R_findCircle_83 : ct_tab (T_R_findCircle) 83 = some (o_ii fun x y => x ||| y) := rfl
theorem e_R_findCircle_84 : ct_tab (T_R_findCircle) 84 = some (o_iast) := rfl
theorem e_R_findCircle_85 : ct_tab (T_R_findCircle) 85 = some (o_iinc 3 1) := rfl
theorem e_R_findCircle_88 : ct_tab (T_R_findCircle) 88 = some (o_goto 52) := rfl
theorem e_R_findCircle_91 : ct_tab (T_R_findCircle) 91 = some (o_iinc 2 1) := rfl
theorem e_R_findCircle_94 : ct_tab (T_R_findCircle) 94 = some (o_goto 45) := rfl
theorem e_R_findCircle_97 : ct_tab (T_R_findCircle) 97 = some (o_push (.int 0) 1) := rfl
theorem e_R_findCircle_98 : ct_tab (T_R_findCircle) 98 = some (o_istore 2 1) := rfl
theorem e_R_findCircle_99 : ct_tab (T_R_findCircle) 99 = some (o_iload 2 1) := rfl
theorem e_R_findCircle_100 : ct_tab (T_R_findCircle) 100 = some (o_iload 1 1) := rfl
theorem e_R_findCircle_101 : ct_tab (T_R_findCircle) 101 = some (o_ic (fun x y => y ≤ x) (fun x y => ¬ y ≤ x) 135) := rfl
theorem e_R_findCircle_104 : ct_tab (T_R_findCircle) 104 = some (o_aload 0 1) := rfl
theorem e_R_findCircle_105 : ct_tab (T_R_findCircle) 105 = some (o_getR 2 9 2) := rfl
theorem e_R_findCircle_108 : ct_tab (T_R_findCircle) 108 = some (o_iload 2 1) := rfl
theorem e_R_findCircle_109 : ct_tab (T_R_findCircle) 109 = some (o_iald) := rfl
theorem e_R_findCircle_110 : ct_tab (T_R_findCircle) 110 = some (o_iload 2 1) := rfl
theorem e_R_findCircle_111 : ct_tab (T_R_findCircle) 111 = some (o_ii fun x y => (x.toUInt32 >>> (y.toUInt32 &&& Int32.toUInt32 31)).toInt32) := rfl
theorem e_R_findCircle_112 : ct_tab (T_R_findCircle) 112 = some (o_push (.int 1) 1) := rfl
theorem e_R_findCircle_113 : ct_tab (T_R_findCircle) 113 = some (o_ii fun x y => x &&& y) := rfl
theorem e_R_findCircle_114 : ct_tab (T_R_findCircle) 114 = some (o_if (fun x => x = 0) (fun x => ¬ x = 0) 129) := rfl
theorem e_R_findCircle_117 : ct_tab (T_R_findCircle) 117 = some (o_aload 0 1) := rfl
theorem e_R_findCircle_118 : ct_tab (T_R_findCircle) 118 = some (o_push (.int 14) 2) := rfl
theorem e_R_findCircle_120 : ct_tab (T_R_findCircle) 120 = some (o_aload 0 1) := rfl
theorem e_R_findCircle_121 : ct_tab (T_R_findCircle) 121 = some (o_getR 2 9 1) := rfl
theorem e_R_findCircle_124 : ct_tab (T_R_findCircle) 124 = some (o_iload 2 1) := rfl
theorem e_R_findCircle_125 : ct_tab (T_R_findCircle) 125 = some (o_iald) := rfl
theorem e_R_findCircle_129 : ct_tab (T_R_findCircle) 129 = some (o_iinc 2 1) := rfl
theorem e_R_findCircle_132 : ct_tab (T_R_findCircle) 132 = some (o_goto 99) := rfl
theorem cl_R_findCircle_33 {l : ct_Lx} {d d1 : Nat} {Post Post1 : Option Value → ct_Sg → Prop} {lv : ct_Lv} {st : List Value} {g : ct_Sg} {bc bs c1 s1 : Nat} {a1 a2 : Value} {h : Nat} (hsh : g.2.1 h = (10 + 2, 9)) (hM : ct_Me l M_R_structuresInFields d1 c1 s1 [.ref h, a1, a2] g Post1) (hdd : d1 + 1 ≤ d) (hk : (st.map fun v => v.category).sum ≤ 8) (hcc : c1 ≤ bc) (hss : s1 ≤ bs) (kk : ∀ (v : Option Value) (g' : ct_Sg), Post1 v g' → ct_Wp l M_R_findCircle d Post (36, lv, v.toList ++ st, g', bc - c1, bs - s1)) : ct_Wp l M_R_findCircle d Post (33, lv, a2 :: a1 :: .ref h :: st, g, bc, bs) := ct_Wp.callV (ci := 2) (N := 9) (T := ct_T2) (As := [a1, a2]) lk_R_structuresInFields (Or.inl wd_186) wd_187 wd_188 rfl d_R_findCircle_33 hsh hM rfl hdd hk hcc hss kk
theorem cl_R_findCircle_126 {l : ct_Lx} {d d1 : Nat} {Post Post1 : Option Value → ct_Sg → Prop} {lv : ct_Lv} {st : List Value} {g : ct_Sg} {bc bs c1 s1 : Nat} {a1 a2 : Value} {h : Nat} (hsh : g.2.1 h = (10 + 2, 9)) (hM : ct_Me l M_R_fail d1 c1 s1 [.ref h, a1, a2] g Post1) (hdd : d1 + 1 ≤ d) (hk : (st.map fun v => v.category).sum ≤ 8) (hcc : c1 ≤ bc) (hss : s1 ≤ bs) (kk : ∀ (v : Option Value) (g' : ct_Sg), Post1 v g' → ct_Wp l M_R_findCircle d Post (129, lv, v.toList ++ st, g', bc - c1, bs - s1)) : ct_Wp l M_R_findCircle d Post (126, lv, a2 :: a1 :: .ref h :: st, g, bc, bs) := ct_Wp.callV (ci := 2) (N := 9) (T := ct_T2) (As := [a1, a2]) lk_R_fail (Or.inl wd_95) wd_96 wd_97 rfl d_R_findCircle_126 hsh hM rfl hdd hk hcc hss kk
theorem d_R_structuresInFields_0 : decode prog_2_method_24_code 0 = .ok (.iconst 0, 1) := by decide +kernel
theorem d_R_structuresInFields_1 : decode prog_2_method_24_code 1 = .ok (.istore_n 3, 1) := by decide +kernel
theorem d_R_structuresInFields_2 : decode prog_2_method_24_code 2 = .ok (.aload_n 0, 1) := by decide +kernel
theorem d_R_structuresInFields_3 : decode prog_2_method_24_code 3 = .ok (.getfield 41, 3) := by decide +kernel
theorem d_R_structuresInFields_6 : decode prog_2_method_24_code 6 = .ok (.iload_n 1, 1) := by decide +kernel
theorem d_R_structuresInFields_7 : decode prog_2_method_24_code 7 = .ok (.iconst 1, 1) := by decide +kernel
theorem d_R_structuresInFields_8 : decode prog_2_method_24_code 8 = .ok (.invokevirtual 159, 3) := by decide +kernel
theorem d_R_structuresInFields_11 : decode prog_2_method_24_code 11 = .ok (.istore 4, 2) := by decide +kernel
theorem d_R_structuresInFields_13 : decode prog_2_method_24_code 13 = .ok (.iconst 0, 1) := by decide +kernel
theorem d_R_structuresInFields_14 : decode prog_2_method_24_code 14 = .ok (.istore 5, 2) := by decide +kernel
theorem d_R_structuresInFields_16 : decode prog_2_method_24_code 16 = .ok (.iload 5, 2) := by decide +kernel
theorem d_R_structuresInFields_18 : decode prog_2_method_24_code 18 = .ok (.iload 4, 2) := by decide +kernel
theorem d_R_structuresInFields_20 : decode prog_2_method_24_code 20 = .ok (.if_icmp .ge 59, 3) := by decide +kernel
theorem d_R_structuresInFields_23 : decode prog_2_method_24_code 23 = .ok (.aload_n 0, 1) := by decide +kernel
theorem d_R_structuresInFields_24 : decode prog_2_method_24_code 24 = .ok (.getfield 41, 3) := by decide +kernel
theorem d_R_structuresInFields_27 : decode prog_2_method_24_code 27 = .ok (.iload_n 1, 1) := by decide +kernel
theorem d_R_structuresInFields_28 : decode prog_2_method_24_code 28 = .ok (.iload 5, 2) := by decide +kernel
theorem d_R_structuresInFields_30 : decode prog_2_method_24_code 30 = .ok (.invokevirtual 180, 3) := by decide +kernel
theorem d_R_structuresInFields_33 : decode prog_2_method_24_code 33 = .ok (.lstore 6, 2) := by decide +kernel
theorem d_R_structuresInFields_35 : decode prog_2_method_24_code 35 = .ok (.lload 6, 2) := by decide +kernel
theorem d_R_structuresInFields_37 : decode prog_2_method_24_code 37 = .ok (.ldc2_w 183, 3) := by decide +kernel
theorem d_R_structuresInFields_40 : decode prog_2_method_24_code 40 = .ok (.land, 1) := by decide +kernel
theorem d_R_structuresInFields_41 : decode prog_2_method_24_code 41 = .ok (.l2i, 1) := by decide +kernel
theorem d_R_structuresInFields_42 : decode prog_2_method_24_code 42 = .ok (.istore 8, 2) := by decide +kernel
theorem d_R_structuresInFields_44 : decode prog_2_method_24_code 44 = .ok (.lload 6, 2) := by decide +kernel
theorem d_R_structuresInFields_46 : decode prog_2_method_24_code 46 = .ok (.bipush 8, 2) := by decide +kernel
theorem d_R_structuresInFields_48 : decode prog_2_method_24_code 48 = .ok (.lushr, 1) := by decide +kernel
theorem d_R_structuresInFields_49 : decode prog_2_method_24_code 49 = .ok (.ldc2_w 183, 3) := by decide +kernel
theorem d_R_structuresInFields_52 : decode prog_2_method_24_code 52 = .ok (.land, 1) := by decide +kernel
theorem d_R_structuresInFields_53 : decode prog_2_method_24_code 53 = .ok (.ldc2_w 175, 3) := by decide +kernel
theorem d_R_structuresInFields_56 : decode prog_2_method_24_code 56 = .ok (.lcmp, 1) := by decide +kernel
theorem d_R_structuresInFields_57 : decode prog_2_method_24_code 57 = .ok (.ifCond .ne 16, 3) := by decide +kernel
theorem d_R_structuresInFields_60 : decode prog_2_method_24_code 60 = .ok (.iload 8, 2) := by decide +kernel
theorem d_R_structuresInFields_62 : decode prog_2_method_24_code 62 = .ok (.iload_n 2, 1) := by decide +kernel
theorem d_R_structuresInFields_63 : decode prog_2_method_24_code 63 = .ok (.if_icmp .ge 10, 3) := by decide +kernel
theorem d_R_structuresInFields_66 : decode prog_2_method_24_code 66 = .ok (.iload_n 3, 1) := by decide +kernel
theorem d_R_structuresInFields_67 : decode prog_2_method_24_code 67 = .ok (.iconst 1, 1) := by decide +kernel
theorem d_R_structuresInFields_68 : decode prog_2_method_24_code 68 = .ok (.iload 8, 2) := by decide +kernel
theorem d_R_structuresInFields_70 : decode prog_2_method_24_code 70 = .ok (.ishl, 1) := by decide +kernel
theorem d_R_structuresInFields_71 : decode prog_2_method_24_code 71 = .ok (.ior, 1) := by decide +kernel
theorem d_R_structuresInFields_72 : decode prog_2_method_24_code 72 = .ok (.istore_n 3, 1) := by decide +kernel
theorem d_R_structuresInFields_73 : decode prog_2_method_24_code 73 = .ok (.iinc 5 1, 3) := by decide +kernel
theorem d_R_structuresInFields_76 : decode prog_2_method_24_code 76 = .ok (.goto (-60), 3) := by decide +kernel
theorem d_R_structuresInFields_79 : decode prog_2_method_24_code 79 = .ok (.iload_n 3, 1) := by decide +kernel
theorem d_R_structuresInFields_80 : decode prog_2_method_24_code 80 = .ok (.ireturn, 1) := by decide +kernel
abbrev T_R_structuresInFields : List (Nat × ct_PT) := [(0, o_push (.int 0) 1), (1, o_istore 3 1), (2, o_aload 0 1), (3, o_getR 2 9 0), (6, o_iload 1 1), (7, o_push (.int 1) 1), (11, o_istore 4 2), (13, o_push (.int 0) 1), (14, o_istore 5 2), (16, o_iload 5 2), (18, o_iload 4 2), (20, o_ic (fun x y => y ≤ x) (fun x y => ¬ y ≤ x) 79), (23, o_aload 0 1), (24, o_getR 2 9 0), (27, o_iload 1 1), (28, o_iload 5 2), (33, o_lstore 6 2), (35, o_lload 6 2), (37, o_push (.long 255) 3), (40, o_ll fun x y => x &&& y), (41, o_l2i), (42, o_istore 8 2), (44, o_lload 6 2), (46, o_push (.int 8) 2), (48, o_li fun x y => (x.toUInt64 >>> (y.toInt64.toUInt64 &&& Int64.toUInt64 63)).toInt64), (49, o_push (.long 255) 3), (52, o_ll fun x y => x &&& y), (53, o_push (.long 6) 3), (56, o_lcmp), (57, o_if (fun x => ¬ x = 0) (fun x => x = 0) 73), (60, o_iload 8 2), (62, o_iload 2 1), (63, o_ic (fun x y => y ≤ x) (fun x y => ¬ y ≤ x) 73), (66, o_iload 3 1), (67, o_push (.int 1) 1), (68, o_iload 8 2), (70, o_ii fun x y => x <<< (y &&& 31)), (71, o_ii fun x y => x ||| y), (72, o_istore 3 1), (73, o_iinc 5 1), (76, o_goto 16), (79, o_iload 3 1)]
set_option maxRecDepth 100000 in
theorem A_R_structuresInFields (l : ct_Lx) : ct_al l M_R_structuresInFields (T_R_structuresInFields) := by
  refine ct_al.cons (so_iconst d_R_structuresInFields_0 (by decide)) ?_
  refine ct_al.cons (so_istore_n d_R_structuresInFields_1 rfl (by decide)) ?_
  refine ct_al.cons (so_aload_n d_R_structuresInFields_2 rfl) ?_
  refine ct_al.cons (so_getR (Cn := "CodeTables$Reader") (T := ct_T2) kc_2 (by decide) rfl rfl wd_55 d_R_structuresInFields_3) ?_
  refine ct_al.cons (so_iload_n d_R_structuresInFields_6 rfl) ?_
  refine ct_al.cons (so_iconst d_R_structuresInFields_7 (by decide)) ?_
  refine ct_al.cons (so_istore d_R_structuresInFields_11 (by decide)) ?_
  refine ct_al.cons (so_iconst d_R_structuresInFields_13 (by decide)) ?_
  refine ct_al.cons (so_istore d_R_structuresInFields_14 (by decide)) ?_
  refine ct_al.cons (so_iload d_R_structuresInFields_16) ?_
  refine ct_al.cons (so_iload d_R_structuresInFields_18) ?_
  refine ct_al.cons (so_ic_ge d_R_structuresInFields_20 (by decide)) ?_
  refine ct_al.cons (so_aload_n d_R_structuresInFields_23 rfl) ?_
  refine ct_al.cons (so_getR (Cn := "CodeTables$Reader") (T := ct_T2) kc_2 (by decide) rfl rfl wd_55 d_R_structuresInFields_24) ?_
  refine ct_al.cons (so_iload_n d_R_structuresInFields_27 rfl) ?_
  refine ct_al.cons (so_iload d_R_structuresInFields_28) ?_
  refine ct_al.cons (so_lstore d_R_structuresInFields_33 (by decide)) ?_
  refine ct_al.cons (so_lload d_R_structuresInFields_35) ?_
  refine ct_al.cons (so_ldc2 wd_194 d_R_structuresInFields_37) ?_
  refine ct_al.cons (so_land d_R_structuresInFields_40) ?_
  refine ct_al.cons (so_l2i d_R_structuresInFields_41) ?_
  refine ct_al.cons (so_istore d_R_structuresInFields_42 (by decide)) ?_
  refine ct_al.cons (so_lload d_R_structuresInFields_44) ?_
  refine ct_al.cons (so_bipush d_R_structuresInFields_46 (by decide)) ?_
  refine ct_al.cons (so_lushr d_R_structuresInFields_48) ?_
  refine ct_al.cons (so_ldc2 wd_194 d_R_structuresInFields_49) ?_
  refine ct_al.cons (so_land d_R_structuresInFields_52) ?_
  refine ct_al.cons (so_ldc2 wd_183 d_R_structuresInFields_53) ?_
  refine ct_al.cons (so_lcmp d_R_structuresInFields_56) ?_
  refine ct_al.cons (so_if_ne d_R_structuresInFields_57 (by decide)) ?_
  refine ct_al.cons (so_iload d_R_structuresInFields_60) ?_
  refine ct_al.cons (so_iload_n d_R_structuresInFields_62 rfl) ?_
  refine ct_al.cons (so_ic_ge d_R_structuresInFields_63 (by decide)) ?_
  refine ct_al.cons (so_iload_n d_R_structuresInFields_66 rfl) ?_
  refine ct_al.cons (so_iconst d_R_structuresInFields_67 (by decide)) ?_
  refine ct_al.cons (so_iload d_R_structuresInFields_68) ?_
  refine ct_al.cons (so_ishl d_R_structuresInFields_70) ?_
  refine ct_al.cons (so_ior d_R_structuresInFields_71) ?_
  refine ct_al.cons (so_istore_n d_R_structuresInFields_72 rfl (by decide)) ?_
  refine ct_al.cons (so_iinc d_R_structuresInFields_73 (by decide) (by decide)) ?_
  refine ct_al.cons (so_goto d_R_structuresInFields_76 (by decide)) ?_
  refine ct_al.cons (so_iload_n d_R_structuresInFields_79 rfl) ?_
  exact ct_al.nil
theorem e_R_structuresInFields_0 : ct_tab (T_R_structuresInFields) 0 = some (o_push (.int 0) 1) := rfl
theorem e_R_structuresInFields_1 : ct_tab (T_R_structuresInFields) 1 = some (o_istore 3 1) := rfl
theorem e_R_structuresInFields_2 : ct_tab (T_R_structuresInFields) 2 = some (o_aload 0 1) := rfl
theorem e_R_structuresInFields_3 : ct_tab (T_R_structuresInFields) 3 = some (o_getR 2 9 0) := rfl
theorem e_R_structuresInFields_6 : ct_tab (T_R_structuresInFields) 6 = some (o_iload 1 1) := rfl
theorem e_R_structuresInFields_7 : ct_tab (T_R_structuresInFields) 7 = some (o_push (.int 1) 1) := rfl
theorem e_R_structuresInFields_11 : ct_tab (T_R_structuresInFields) 11 = some (o_istore 4 2) := rfl
theorem e_R_structuresInFields_13 : ct_tab (T_R_structuresInFields) 13 = some (o_push (.int 0) 1) := rfl
theorem e_R_structuresInFields_14 : ct_tab (T_R_structuresInFields) 14 = some (o_istore 5 2) := rfl
theorem e_R_structuresInFields_16 : ct_tab (T_R_structuresInFields) 16 = some (o_iload 5 2) := rfl
theorem e_R_structuresInFields_18 : ct_tab (T_R_structuresInFields) 18 = some (o_iload 4 2) := rfl
theorem e_R_structuresInFields_20 : ct_tab (T_R_structuresInFields) 20 = some (o_ic (fun x y => y ≤ x) (fun x y => ¬ y ≤ x) 79) := rfl
theorem e_R_structuresInFields_23 : ct_tab (T_R_structuresInFields) 23 = some (o_aload 0 1) := rfl
theorem e_R_structuresInFields_24 : ct_tab (T_R_structuresInFields) 24 = some (o_getR 2 9 0) := rfl
theorem e_R_structuresInFields_27 : ct_tab (T_R_structuresInFields) 27 = some (o_iload 1 1) := rfl
theorem e_R_structuresInFields_28 : ct_tab (T_R_structuresInFields) 28 = some (o_iload 5 2) := rfl
theorem e_R_structuresInFields_33 : ct_tab (T_R_structuresInFields) 33 = some (o_lstore 6 2) := rfl
theorem e_R_structuresInFields_35 : ct_tab (T_R_structuresInFields) 35 = some (o_lload 6 2) := rfl
theorem e_R_structuresInFields_37 : ct_tab (T_R_structuresInFields) 37 = some (o_push (.long 255) 3) := rfl
theorem e_R_structuresInFields_40 : ct_tab (T_R_structuresInFields) 40 = some (o_ll fun x y => x &&& y) := rfl
theorem e_R_structuresInFields_41 : ct_tab (T_R_structuresInFields) 41 = some (o_l2i) := rfl
theorem e_R_structuresInFields_42 : ct_tab (T_R_structuresInFields) 42 = some (o_istore 8 2) := rfl
theorem e_R_structuresInFields_44 : ct_tab (T_R_structuresInFields) 44 = some (o_lload 6 2) := rfl
theorem e_R_structuresInFields_46 : ct_tab (T_R_structuresInFields) 46 = some (o_push (.int 8) 2) := rfl
theorem e_R_structuresInFields_48 : ct_tab (T_R_structuresInFields) 48 = some (o_li fun x y => (x.toUInt64 >>> (y.toInt64.toUInt64 &&& Int64.toUInt64 63)).toInt64) := rfl
theorem e_R_structuresInFields_49 : ct_tab (T_R_structuresInFields) 49 = some (o_push (.long 255) 3) := rfl
theorem e_R_structuresInFields_52 : ct_tab (T_R_structuresInFields) 52 = some (o_ll fun x y => x &&& y) := rfl
theorem e_R_structuresInFields_53 : ct_tab (T_R_structuresInFields) 53 = some (o_push (.long 6) 3) := rfl
theorem e_R_structuresInFields_56 : ct_tab (T_R_structuresInFields) 56 = some (o_lcmp) := rfl
theorem e_R_structuresInFields_57 : ct_tab (T_R_structuresInFields) 57 = some (o_if (fun x => ¬ x = 0) (fun x => x = 0) 73) := rfl
theorem e_R_structuresInFields_60 : ct_tab (T_R_structuresInFields) 60 = some (o_iload 8 2) := rfl
theorem e_R_structuresInFields_62 : ct_tab (T_R_structuresInFields) 62 = some (o_iload 2 1) := rfl
theorem e_R_structuresInFields_63 : ct_tab (T_R_structuresInFields) 63 = some (o_ic (fun x y => y ≤ x) (fun x y => ¬ y ≤ x) 73) := rfl
theorem e_R_structuresInFields_66 : ct_tab (T_R_structuresInFields) 66 = some (o_iload 3 1) := rfl
theorem e_R_structuresInFields_67 : ct_tab (T_R_structuresInFields) 67 = some (o_push (.int 1) 1) := rfl
theorem e_R_structuresInFields_68 : ct_tab (T_R_structuresInFields) 68 = some (o_iload 8 2) := rfl
theorem e_R_structuresInFields_70 : ct_tab (T_R_structuresInFields) 70 = some (o_ii fun x y => x <<< (y &&& 31)) := rfl
theorem e_R_structuresInFields_71 : ct_tab (T_R_structuresInFields) 71 = some (o_ii fun x y => x ||| y) := rfl
theorem e_R_structuresInFields_72 : ct_tab (T_R_structuresInFields) 72 = some (o_istore 3 1) := rfl
theorem e_R_structuresInFields_73 : ct_tab (T_R_structuresInFields) 73 = some (o_iinc 5 1) := rfl
theorem e_R_structuresInFields_76 : ct_tab (T_R_structuresInFields) 76 = some (o_goto 16) := rfl
theorem e_R_structuresInFields_79 : ct_tab (T_R_structuresInFields) 79 = some (o_iload 3 1) := rfl
theorem cl_R_structuresInFields_8 {l : ct_Lx} {d d1 : Nat} {Post Post1 : Option Value → ct_Sg → Prop} {lv : ct_Lv} {st : List Value} {g : ct_Sg} {bc bs c1 s1 : Nat} {a1 a2 : Value} {h : Nat} (hsh : g.2.1 h = (10 + 1, 10)) (hM : ct_Me l M_T_structureFact d1 c1 s1 [.ref h, a1, a2] g Post1) (hdd : d1 + 1 ≤ d) (hk : (st.map fun v => v.category).sum ≤ 8) (hcc : c1 ≤ bc) (hss : s1 ≤ bs) (kk : ∀ (v : Option Value) (g' : ct_Sg), Post1 v g' → ct_Wp l M_R_structuresInFields d Post (11, lv, v.toList ++ st, g', bc - c1, bs - s1)) : ct_Wp l M_R_structuresInFields d Post (8, lv, a2 :: a1 :: .ref h :: st, g, bc, bs) := ct_Wp.callV (ci := 1) (N := 10) (T := ct_T1) (As := [a1, a2]) lk_T_structureFact (Or.inl wd_167) wd_25 wd_26 rfl d_R_structuresInFields_8 hsh hM rfl hdd hk hcc hss kk
theorem cl_R_structuresInFields_30 {l : ct_Lx} {d d1 : Nat} {Post Post1 : Option Value → ct_Sg → Prop} {lv : ct_Lv} {st : List Value} {g : ct_Sg} {bc bs c1 s1 : Nat} {a1 a2 : Value} {h : Nat} (hsh : g.2.1 h = (10 + 1, 10)) (hM : ct_Me l M_T_fieldType d1 c1 s1 [.ref h, a1, a2] g Post1) (hdd : d1 + 1 ≤ d) (hk : (st.map fun v => v.category).sum ≤ 8) (hcc : c1 ≤ bc) (hss : s1 ≤ bs) (kk : ∀ (v : Option Value) (g' : ct_Sg), Post1 v g' → ct_Wp l M_R_structuresInFields d Post (33, lv, v.toList ++ st, g', bc - c1, bs - s1)) : ct_Wp l M_R_structuresInFields d Post (30, lv, a2 :: a1 :: .ref h :: st, g, bc, bs) := ct_Wp.callV (ci := 1) (N := 10) (T := ct_T1) (As := [a1, a2]) lk_T_fieldType (Or.inl wd_191) wd_192 wd_193 rfl d_R_structuresInFields_30 hsh hM rfl hdd hk hcc hss kk
