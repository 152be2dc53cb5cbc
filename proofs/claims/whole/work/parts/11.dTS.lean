theorem d_S_of_0 : decode prog_3_method_2_code 0 = .ok (.iload_n 0, 1) := by decide +kernel
theorem d_S_of_1 : decode prog_3_method_2_code 1 = .ok (.tableswitch 268 2 58 #[243, 243, 243, 246, 248, 251, 268, 268, 248, 254, 254, 254, 254, 254, 256, 256, 268, 268, 268, 258, 258, 260, 268, 268, 268, 268, 268, 268, 268, 268, 268, 268, 268, 268, 268, 268, 268, 268, 268, 268, 268, 268, 268, 268, 268, 258, 258, 258, 258, 258, 262, 265, 265, 265, 265, 265, 265], 243) := by decide +kernel
theorem d_S_of_244 : decode prog_3_method_2_code 244 = .ok (.bipush 8, 2) := by decide +kernel
theorem d_S_of_246 : decode prog_3_method_2_code 246 = .ok (.ireturn, 1) := by decide +kernel
theorem d_S_of_247 : decode prog_3_method_2_code 247 = .ok (.iconst 1, 1) := by decide +kernel
theorem d_S_of_248 : decode prog_3_method_2_code 248 = .ok (.ireturn, 1) := by decide +kernel
theorem d_S_of_249 : decode prog_3_method_2_code 249 = .ok (.bipush 9, 2) := by decide +kernel
theorem d_S_of_251 : decode prog_3_method_2_code 251 = .ok (.ireturn, 1) := by decide +kernel
theorem d_S_of_252 : decode prog_3_method_2_code 252 = .ok (.bipush 10, 2) := by decide +kernel
theorem d_S_of_254 : decode prog_3_method_2_code 254 = .ok (.ireturn, 1) := by decide +kernel
theorem d_S_of_255 : decode prog_3_method_2_code 255 = .ok (.iconst 2, 1) := by decide +kernel
theorem d_S_of_256 : decode prog_3_method_2_code 256 = .ok (.ireturn, 1) := by decide +kernel
theorem d_S_of_257 : decode prog_3_method_2_code 257 = .ok (.iconst 4, 1) := by decide +kernel
theorem d_S_of_258 : decode prog_3_method_2_code 258 = .ok (.ireturn, 1) := by decide +kernel
theorem d_S_of_259 : decode prog_3_method_2_code 259 = .ok (.iconst 3, 1) := by decide +kernel
theorem d_S_of_260 : decode prog_3_method_2_code 260 = .ok (.ireturn, 1) := by decide +kernel
theorem d_S_of_261 : decode prog_3_method_2_code 261 = .ok (.iconst 5, 1) := by decide +kernel
theorem d_S_of_262 : decode prog_3_method_2_code 262 = .ok (.ireturn, 1) := by decide +kernel
theorem d_S_of_263 : decode prog_3_method_2_code 263 = .ok (.bipush 7, 2) := by decide +kernel
theorem d_S_of_265 : decode prog_3_method_2_code 265 = .ok (.ireturn, 1) := by decide +kernel
theorem d_S_of_266 : decode prog_3_method_2_code 266 = .ok (.bipush 6, 2) := by decide +kernel
theorem d_S_of_268 : decode prog_3_method_2_code 268 = .ok (.ireturn, 1) := by decide +kernel
theorem d_S_of_269 : decode prog_3_method_2_code 269 = .ok (.iconst 0, 1) := by decide +kernel
theorem d_S_of_270 : decode prog_3_method_2_code 270 = .ok (.ireturn, 1) := by decide +kernel
abbrev T_S_of : List (Nat × ct_PT) := [(0, o_iload 0 1), (1, o_sw [(2, 244), (3, 244), (4, 244), (5, 247), (6, 249), (7, 252), (8, 269), (9, 269), (10, 249), (11, 255), (12, 255), (13, 255), (14, 255), (15, 255), (16, 257), (17, 257), (18, 269), (19, 269), (20, 269), (21, 259), (22, 259), (23, 261), (24, 269), (25, 269), (26, 269), (27, 269), (28, 269), (29, 269), (30, 269), (31, 269), (32, 269), (33, 269), (34, 269), (35, 269), (36, 269), (37, 269), (38, 269), (39, 269), (40, 269), (41, 269), (42, 269), (43, 269), (44, 269), (45, 269), (46, 269), (47, 259), (48, 259), (49, 259), (50, 259), (51, 259), (52, 263), (53, 266), (54, 266), (55, 266), (56, 266), (57, 266), (58, 266)] 269), (244, o_push (.int 8) 2), (247, o_push (.int 1) 1), (249, o_push (.int 9) 2), (252, o_push (.int 10) 2), (255, o_push (.int 2) 1), (257, o_push (.int 4) 1), (259, o_push (.int 3) 1), (261, o_push (.int 5) 1), (263, o_push (.int 7) 2), (266, o_push (.int 6) 2), (269, o_push (.int 0) 1)]
set_option maxRecDepth 100000 in
theorem A_S_of (l : ct_Lx) : ct_al l M_S_of (T_S_of) := by
  refine ct_al.cons (so_iload_n d_S_of_0 rfl) ?_
  refine ct_al.cons (so_tsw d_S_of_1 (by decide) (by decide) (by decide) (by decide)) ?_
  refine ct_al.cons (so_bipush d_S_of_244 (by decide)) ?_
  refine ct_al.cons (so_iconst d_S_of_247 (by decide)) ?_
  refine ct_al.cons (so_bipush d_S_of_249 (by decide)) ?_
  refine ct_al.cons (so_bipush d_S_of_252 (by decide)) ?_
  refine ct_al.cons (so_iconst d_S_of_255 (by decide)) ?_
  refine ct_al.cons (so_iconst d_S_of_257 (by decide)) ?_
  refine ct_al.cons (so_iconst d_S_of_259 (by decide)) ?_
  refine ct_al.cons (so_iconst d_S_of_261 (by decide)) ?_
  refine ct_al.cons (so_bipush d_S_of_263 (by decide)) ?_
  refine ct_al.cons (so_bipush d_S_of_266 (by decide)) ?_
  refine ct_al.cons (so_iconst d_S_of_269 (by decide)) ?_
  exact ct_al.nil
theorem e_S_of_0 : ct_tab (T_S_of) 0 = some (o_iload 0 1) := rfl
theorem e_S_of_1 : ct_tab (T_S_of) 1 = some (o_sw [(2, 244), (3, 244), (4, 244), (5, 247), (6, 249), (7, 252), (8, 269), (9, 269), (10, 249), (11, 255), (12, 255), (13, 255), (14, 255), (15, 255), (16, 257), (17, 257), (18, 269), (19, 269), (20, 269), (21, 259), (22, 259), (23, 261), (24, 269), (25, 269), (26, 269), (27, 269), (28, 269), (29, 269), (30, 269), (31, 269), (32, 269), (33, 269), (34, 269), (35, 269), (36, 269), (37, 269), (38, 269), (39, 269), (40, 269), (41, 269), (42, 269), (43, 269), (44, 269), (45, 269), (46, 269), (47, 259), (48, 259), (49, 259), (50, 259), (51, 259), (52, 263), (53, 266), (54, 266), (55, 266), (56, 266), (57, 266), (58, 266)] 269) := rfl
theorem e_S_of_244 : ct_tab (T_S_of) 244 = some (o_push (.int 8) 2) := rfl
theorem e_S_of_247 : ct_tab (T_S_of) 247 = some (o_push (.int 1) 1) := rfl
theorem e_S_of_249 : ct_tab (T_S_of) 249 = some (o_push (.int 9) 2) := rfl
theorem e_S_of_252 : ct_tab (T_S_of) 252 = some (o_push (.int 10) 2) := rfl
theorem e_S_of_255 : ct_tab (T_S_of) 255 = some (o_push (.int 2) 1) := rfl
theorem e_S_of_257 : ct_tab (T_S_of) 257 = some (o_push (.int 4) 1) := rfl
theorem e_S_of_259 : ct_tab (T_S_of) 259 = some (o_push (.int 3) 1) := rfl
theorem e_S_of_261 : ct_tab (T_S_of) 261 = some (o_push (.int 5) 1) := rfl
theorem e_S_of_263 : ct_tab (T_S_of) 263 = some (o_push (.int 7) 2) := rfl
theorem e_S_of_266 : ct_tab (T_S_of) 266 = some (o_push (.int 6) 2) := rfl
theorem e_S_of_269 : ct_tab (T_S_of) 269 = some (o_push (.int 0) 1) := rfl
theorem d_S_firstSize_0 : decode prog_3_method_3_code 0 = .ok (.iload_n 0, 1) := by decide +kernel
theorem d_S_firstSize_1 : decode prog_3_method_3_code 1 = .ok (.lookupswitch 50 #[(0, 43), (8, 45), (9, 47), (10, 47)], 43) := by decide +kernel
theorem d_S_firstSize_44 : decode prog_3_method_3_code 44 = .ok (.iconst 0, 1) := by decide +kernel
theorem d_S_firstSize_45 : decode prog_3_method_3_code 45 = .ok (.ireturn, 1) := by decide +kernel
theorem d_S_firstSize_46 : decode prog_3_method_3_code 46 = .ok (.iconst 2, 1) := by decide +kernel
theorem d_S_firstSize_47 : decode prog_3_method_3_code 47 = .ok (.ireturn, 1) := by decide +kernel
theorem d_S_firstSize_48 : decode prog_3_method_3_code 48 = .ok (.bipush 8, 2) := by decide +kernel
theorem d_S_firstSize_50 : decode prog_3_method_3_code 50 = .ok (.ireturn, 1) := by decide +kernel
theorem d_S_firstSize_51 : decode prog_3_method_3_code 51 = .ok (.iconst 1, 1) := by decide +kernel
theorem d_S_firstSize_52 : decode prog_3_method_3_code 52 = .ok (.ireturn, 1) := by decide +kernel
abbrev T_S_firstSize : List (Nat × ct_PT) := [(0, o_iload 0 1), (1, o_sw [(0, 44), (8, 46), (9, 48), (10, 48)] 51), (44, o_push (.int 0) 1), (46, o_push (.int 2) 1), (48, o_push (.int 8) 2), (51, o_push (.int 1) 1)]
set_option maxRecDepth 100000 in
theorem A_S_firstSize (l : ct_Lx) : ct_al l M_S_firstSize (T_S_firstSize) := by
  refine ct_al.cons (so_iload_n d_S_firstSize_0 rfl) ?_
  refine ct_al.cons (so_lsw d_S_firstSize_1 (by decide) (by decide) (by decide)) ?_
  refine ct_al.cons (so_iconst d_S_firstSize_44 (by decide)) ?_
  refine ct_al.cons (so_iconst d_S_firstSize_46 (by decide)) ?_
  refine ct_al.cons (so_bipush d_S_firstSize_48 (by decide)) ?_
  refine ct_al.cons (so_iconst d_S_firstSize_51 (by decide)) ?_
  exact ct_al.nil
theorem e_S_firstSize_0 : ct_tab (T_S_firstSize) 0 = some (o_iload 0 1) := rfl
theorem e_S_firstSize_1 : ct_tab (T_S_firstSize) 1 = some (o_sw [(0, 44), (8, 46), (9, 48), (10, 48)] 51) := rfl
theorem e_S_firstSize_44 : ct_tab (T_S_firstSize) 44 = some (o_push (.int 0) 1) := rfl
theorem e_S_firstSize_46 : ct_tab (T_S_firstSize) 46 = some (o_push (.int 2) 1) := rfl
theorem e_S_firstSize_48 : ct_tab (T_S_firstSize) 48 = some (o_push (.int 8) 2) := rfl
theorem e_S_firstSize_51 : ct_tab (T_S_firstSize) 51 = some (o_push (.int 1) 1) := rfl
theorem d_S_secondSize_0 : decode prog_3_method_4_code 0 = .ok (.iload_n 0, 1) := by decide +kernel
theorem d_S_secondSize_1 : decode prog_3_method_4_code 1 = .ok (.lookupswitch 40 #[(4, 35), (7, 35), (10, 37)], 35) := by decide +kernel
theorem d_S_secondSize_36 : decode prog_3_method_4_code 36 = .ok (.iconst 1, 1) := by decide +kernel
theorem d_S_secondSize_37 : decode prog_3_method_4_code 37 = .ok (.ireturn, 1) := by decide +kernel
theorem d_S_secondSize_38 : decode prog_3_method_4_code 38 = .ok (.bipush 8, 2) := by decide +kernel
theorem d_S_secondSize_40 : decode prog_3_method_4_code 40 = .ok (.ireturn, 1) := by decide +kernel
theorem d_S_secondSize_41 : decode prog_3_method_4_code 41 = .ok (.iconst 0, 1) := by decide +kernel
theorem d_S_secondSize_42 : decode prog_3_method_4_code 42 = .ok (.ireturn, 1) := by decide +kernel
abbrev T_S_secondSize : List (Nat × ct_PT) := [(0, o_iload 0 1), (1, o_sw [(4, 36), (7, 36), (10, 38)] 41), (36, o_push (.int 1) 1), (38, o_push (.int 8) 2), (41, o_push (.int 0) 1)]
set_option maxRecDepth 100000 in
theorem A_S_secondSize (l : ct_Lx) : ct_al l M_S_secondSize (T_S_secondSize) := by
  refine ct_al.cons (so_iload_n d_S_secondSize_0 rfl) ?_
  refine ct_al.cons (so_lsw d_S_secondSize_1 (by decide) (by decide) (by decide)) ?_
  refine ct_al.cons (so_iconst d_S_secondSize_36 (by decide)) ?_
  refine ct_al.cons (so_bipush d_S_secondSize_38 (by decide)) ?_
  refine ct_al.cons (so_iconst d_S_secondSize_41 (by decide)) ?_
  exact ct_al.nil
theorem e_S_secondSize_0 : ct_tab (T_S_secondSize) 0 = some (o_iload 0 1) := rfl
theorem e_S_secondSize_1 : ct_tab (T_S_secondSize) 1 = some (o_sw [(4, 36), (7, 36), (10, 38)] 41) := rfl
theorem e_S_secondSize_36 : ct_tab (T_S_secondSize) 36 = some (o_push (.int 1) 1) := rfl
theorem e_S_secondSize_38 : ct_tab (T_S_secondSize) 38 = some (o_push (.int 8) 2) := rfl
theorem e_S_secondSize_41 : ct_tab (T_S_secondSize) 41 = some (o_push (.int 0) 1) := rfl
theorem d_T_init_0 : decode prog_4_method_1_code 0 = .ok (.aload_n 0, 1) := by decide +kernel
theorem d_T_init_1 : decode prog_4_method_1_code 1 = .ok (.invokespecial 5, 3) := by decide +kernel
theorem d_T_init_4 : decode prog_4_method_1_code 4 = .ok (.aload_n 0, 1) := by decide +kernel
theorem d_T_init_5 : decode prog_4_method_1_code 5 = .ok (.bipush 7, 2) := by decide +kernel
theorem d_T_init_7 : decode prog_4_method_1_code 7 = .ok (.newarray .int, 2) := by decide +kernel
theorem d_T_init_9 : decode prog_4_method_1_code 9 = .ok (.putfield 11, 3) := by decide +kernel
theorem d_T_init_12 : decode prog_4_method_1_code 12 = .ok (.aload_n 0, 1) := by decide +kernel
theorem d_T_init_13 : decode prog_4_method_1_code 13 = .ok (.sipush 256, 3) := by decide +kernel
theorem d_T_init_16 : decode prog_4_method_1_code 16 = .ok (.newarray .int, 2) := by decide +kernel
theorem d_T_init_18 : decode prog_4_method_1_code 18 = .ok (.putfield 15, 3) := by decide +kernel
theorem d_T_init_21 : decode prog_4_method_1_code 21 = .ok (.aload_n 0, 1) := by decide +kernel
theorem d_T_init_22 : decode prog_4_method_1_code 22 = .ok (.sipush 512, 3) := by decide +kernel
theorem d_T_init_25 : decode prog_4_method_1_code 25 = .ok (.newarray .long, 2) := by decide +kernel
theorem d_T_init_27 : decode prog_4_method_1_code 27 = .ok (.putfield 18, 3) := by decide +kernel
theorem d_T_init_30 : decode prog_4_method_1_code 30 = .ok (.aload_n 0, 1) := by decide +kernel
theorem d_T_init_31 : decode prog_4_method_1_code 31 = .ok (.sipush 672, 3) := by decide +kernel
theorem d_T_init_34 : decode prog_4_method_1_code 34 = .ok (.newarray .int, 2) := by decide +kernel
theorem d_T_init_36 : decode prog_4_method_1_code 36 = .ok (.putfield 22, 3) := by decide +kernel
theorem d_T_init_39 : decode prog_4_method_1_code 39 = .ok (.aload_n 0, 1) := by decide +kernel
theorem d_T_init_40 : decode prog_4_method_1_code 40 = .ok (.sipush 4608, 3) := by decide +kernel
theorem d_T_init_43 : decode prog_4_method_1_code 43 = .ok (.newarray .long, 2) := by decide +kernel
theorem d_T_init_45 : decode prog_4_method_1_code 45 = .ok (.putfield 25, 3) := by decide +kernel
theorem d_T_init_48 : decode prog_4_method_1_code 48 = .ok (.aload_n 0, 1) := by decide +kernel
theorem d_T_init_49 : decode prog_4_method_1_code 49 = .ok (.bipush 32, 2) := by decide +kernel
theorem d_T_init_51 : decode prog_4_method_1_code 51 = .ok (.newarray .long, 2) := by decide +kernel
theorem d_T_init_53 : decode prog_4_method_1_code 53 = .ok (.putfield 28, 3) := by decide +kernel
theorem d_T_init_56 : decode prog_4_method_1_code 56 = .ok (.aload_n 0, 1) := by decide +kernel
theorem d_T_init_57 : decode prog_4_method_1_code 57 = .ok (.bipush 64, 2) := by decide +kernel
theorem d_T_init_59 : decode prog_4_method_1_code 59 = .ok (.newarray .int, 2) := by decide +kernel
theorem d_T_init_61 : decode prog_4_method_1_code 61 = .ok (.putfield 31, 3) := by decide +kernel
theorem d_T_init_64 : decode prog_4_method_1_code 64 = .ok (.aload_n 0, 1) := by decide +kernel
theorem d_T_init_65 : decode prog_4_method_1_code 65 = .ok (.sipush 8192, 3) := by decide +kernel
theorem d_T_init_68 : decode prog_4_method_1_code 68 = .ok (.newarray .byte, 2) := by decide +kernel
theorem d_T_init_70 : decode prog_4_method_1_code 70 = .ok (.putfield 34, 3) := by decide +kernel
theorem d_T_init_73 : decode prog_4_method_1_code 73 = .ok (.aload_n 0, 1) := by decide +kernel
theorem d_T_init_74 : decode prog_4_method_1_code 74 = .ok (.sipush 8192, 3) := by decide +kernel
theorem d_T_init_77 : decode prog_4_method_1_code 77 = .ok (.newarray .long, 2) := by decide +kernel
theorem d_T_init_79 : decode prog_4_method_1_code 79 = .ok (.putfield 38, 3) := by decide +kernel
theorem d_T_init_82 : decode prog_4_method_1_code 82 = .ok (.aload_n 0, 1) := by decide +kernel
theorem d_T_init_83 : decode prog_4_method_1_code 83 = .ok (.sipush 8192, 3) := by decide +kernel
theorem d_T_init_86 : decode prog_4_method_1_code 86 = .ok (.newarray .long, 2) := by decide +kernel
theorem d_T_init_88 : decode prog_4_method_1_code 88 = .ok (.putfield 41, 3) := by decide +kernel
theorem d_T_init_91 : decode prog_4_method_1_code 91 = .ok (.return_, 1) := by decide +kernel
abbrev T_T_init : List (Nat × ct_PT) := [(0, o_aload 0 1), (1, o_oinit), (4, o_aload 0 1), (5, o_push (.int 7) 2), (7, o_newa 1), (9, o_putR 1 10 0), (12, o_aload 0 1), (13, o_push (.int 256) 3), (16, o_newa 1), (18, o_putR 1 10 1), (21, o_aload 0 1), (22, o_push (.int 512) 3), (25, o_newa 3), (27, o_putR 1 10 2), (30, o_aload 0 1), (31, o_push (.int 672) 3), (34, o_newa 1), (36, o_putR 1 10 3), (39, o_aload 0 1), (40, o_push (.int 4608) 3), (43, o_newa 3), (45, o_putR 1 10 4), (48, o_aload 0 1), (49, o_push (.int 32) 2), (51, o_newa 3), (53, o_putR 1 10 5), (56, o_aload 0 1), (57, o_push (.int 64) 2), (59, o_newa 1), (61, o_putR 1 10 6), (64, o_aload 0 1), (65, o_push (.int 8192) 3), (68, o_newa 2), (70, o_putR 1 10 7), (73, o_aload 0 1), (74, o_push (.int 8192) 3), (77, o_newa 3), (79, o_putR 1 10 8), (82, o_aload 0 1), (83, o_push (.int 8192) 3), (86, o_newa 3), (88, o_putR 1 10 9)]
set_option maxRecDepth 100000 in
theorem A_T_init (l : ct_Lx) : ct_al l M_T_init (T_T_init) := by
  refine ct_al.cons (so_aload_n d_T_init_0 rfl) ?_
  refine ct_al.cons (so_oinit wd_0 wd_1 wd_2 d_T_init_1) ?_
  refine ct_al.cons (so_aload_n d_T_init_4 rfl) ?_
  refine ct_al.cons (so_bipush d_T_init_5 (by decide)) ?_
  refine ct_al.cons (so_newa (Or.inl ⟨rfl, rfl⟩) rfl wd_3 d_T_init_7) ?_
  refine ct_al.cons (so_putR (Cn := "CodeTables$Tables") (T := ct_T1) kc_1 (by decide) (Or.inr ⟨_, rfl⟩) rfl (Or.inr ⟨rfl, rfl, rfl⟩) wd_4 d_T_init_9) ?_
  refine ct_al.cons (so_aload_n d_T_init_12 rfl) ?_
  refine ct_al.cons (so_sipush d_T_init_13 (by decide)) ?_
  refine ct_al.cons (so_newa (Or.inl ⟨rfl, rfl⟩) rfl wd_3 d_T_init_16) ?_
  refine ct_al.cons (so_putR (Cn := "CodeTables$Tables") (T := ct_T1) kc_1 (by decide) (Or.inr ⟨_, rfl⟩) rfl (Or.inr ⟨rfl, rfl, rfl⟩) wd_5 d_T_init_18) ?_
  refine ct_al.cons (so_aload_n d_T_init_21 rfl) ?_
  refine ct_al.cons (so_sipush d_T_init_22 (by decide)) ?_
  refine ct_al.cons (so_newa (Or.inr (Or.inr (Or.inl ⟨rfl, rfl⟩))) rfl wd_6 d_T_init_25) ?_
  refine ct_al.cons (so_putR (Cn := "CodeTables$Tables") (T := ct_T1) kc_1 (by decide) (Or.inr ⟨_, rfl⟩) rfl (Or.inr ⟨rfl, rfl, rfl⟩) wd_7 d_T_init_27) ?_
  refine ct_al.cons (so_aload_n d_T_init_30 rfl) ?_
  refine ct_al.cons (so_sipush d_T_init_31 (by decide)) ?_
  refine ct_al.cons (so_newa (Or.inl ⟨rfl, rfl⟩) rfl wd_3 d_T_init_34) ?_
  refine ct_al.cons (so_putR (Cn := "CodeTables$Tables") (T := ct_T1) kc_1 (by decide) (Or.inr ⟨_, rfl⟩) rfl (Or.inr ⟨rfl, rfl, rfl⟩) wd_8 d_T_init_36) ?_
  refine ct_al.cons (so_aload_n d_T_init_39 rfl) ?_
  refine ct_al.cons (so_sipush d_T_init_40 (by decide)) ?_
  refine ct_al.cons (so_newa (Or.inr (Or.inr (Or.inl ⟨rfl, rfl⟩))) rfl wd_6 d_T_init_43) ?_
  refine ct_al.cons (so_putR (Cn := "CodeTables$Tables") (T := ct_T1) kc_1 (by decide) (Or.inr ⟨_, rfl⟩) rfl (Or.inr ⟨rfl, rfl, rfl⟩) wd_9 d_T_init_45) ?_
  refine ct_al.cons (so_aload_n d_T_init_48 rfl) ?_
  refine ct_al.cons (so_bipush d_T_init_49 (by decide)) ?_
  refine ct_al.cons (so_newa (Or.inr (Or.inr (Or.inl ⟨rfl, rfl⟩))) rfl wd_6 d_T_init_51) ?_
  refine ct_al.cons (so_putR (Cn := "CodeTables$Tables") (T := ct_T1) kc_1 (by decide) (Or.inr ⟨_, rfl⟩) rfl (Or.inr ⟨rfl, rfl, rfl⟩) wd_10 d_T_init_53) ?_
  refine ct_al.cons (so_aload_n d_T_init_56 rfl) ?_
  refine ct_al.cons (so_bipush d_T_init_57 (by decide)) ?_
  refine ct_al.cons (so_newa (Or.inl ⟨rfl, rfl⟩) rfl wd_3 d_T_init_59) ?_
  refine ct_al.cons (so_putR (Cn := "CodeTables$Tables") (T := ct_T1) kc_1 (by decide) (Or.inr ⟨_, rfl⟩) rfl (Or.inr ⟨rfl, rfl, rfl⟩) wd_11 d_T_init_61) ?_
  refine ct_al.cons (so_aload_n d_T_init_64 rfl) ?_
  refine ct_al.cons (so_sipush d_T_init_65 (by decide)) ?_
  refine ct_al.cons (so_newa (Or.inr (Or.inl ⟨rfl, rfl⟩)) rfl wd_12 d_T_init_68) ?_
  refine ct_al.cons (so_putR (Cn := "CodeTables$Tables") (T := ct_T1) kc_1 (by decide) (Or.inr ⟨_, rfl⟩) rfl (Or.inr ⟨rfl, rfl, rfl⟩) wd_13 d_T_init_70) ?_
  refine ct_al.cons (so_aload_n d_T_init_73 rfl) ?_
  refine ct_al.cons (so_sipush d_T_init_74 (by decide)) ?_
  refine ct_al.cons (so_newa (Or.inr (Or.inr (Or.inl ⟨rfl, rfl⟩))) rfl wd_6 d_T_init_77) ?_
  refine ct_al.cons (so_putR (Cn := "CodeTables$Tables") (T := ct_T1) kc_1 (by decide) (Or.inr ⟨_, rfl⟩) rfl (Or.inr ⟨rfl, rfl, rfl⟩) wd_14 d_T_init_79) ?_
  refine ct_al.cons (so_aload_n d_T_init_82 rfl) ?_
  refine ct_al.cons (so_sipush d_T_init_83 (by decide)) ?_
  refine ct_al.cons (so_newa (Or.inr (Or.inr (Or.inl ⟨rfl, rfl⟩))) rfl wd_6 d_T_init_86) ?_
  refine ct_al.cons (so_putR (Cn := "CodeTables$Tables") (T := ct_T1) kc_1 (by decide) (Or.inr ⟨_, rfl⟩) rfl (Or.inr ⟨rfl, rfl, rfl⟩) wd_15 d_T_init_88) ?_
  exact ct_al.nil
theorem e_T_init_0 : ct_tab (T_T_init) 0 = some (o_aload 0 1) := rfl
theorem e_T_init_1 : ct_tab (T_T_init) 1 = some (o_oinit) := rfl
theorem e_T_init_4 : ct_tab (T_T_init) 4 = some (o_aload 0 1) := rfl
theorem e_T_init_5 : ct_tab (T_T_init) 5 = some (o_push (.int 7) 2) := rfl
theorem e_T_init_7 : ct_tab (T_T_init) 7 = some (o_newa 1) := rfl
theorem e_T_init_9 : ct_tab (T_T_init) 9 = some (o_putR 1 10 0) := rfl
theorem e_T_init_12 : ct_tab (T_T_init) 12 = some (o_aload 0 1) := rfl
theorem e_T_init_13 : ct_tab (T_T_init) 13 = some (o_push (.int 256) 3) := rfl
theorem e_T_init_16 : ct_tab (T_T_init) 16 = some (o_newa 1) := rfl
theorem e_T_init_18 : ct_tab (T_T_init) 18 = some (o_putR 1 10 1) := rfl
theorem e_T_init_21 : ct_tab (T_T_init) 21 = some (o_aload 0 1) := rfl
theorem e_T_init_22 : ct_tab (T_T_init) 22 = some (o_push (.int 512) 3) := rfl
theorem e_T_init_25 : ct_tab (T_T_init) 25 = some (o_newa 3) := rfl
theorem e_T_init_27 : ct_tab (T_T_init) 27 = some (o_putR 1 10 2) := rfl
theorem e_T_init_30 : ct_tab (T_T_init) 30 = some (o_aload 0 1) := rfl
theorem e_T_init_31 : ct_tab (T_T_init) 31 = some (o_push (.int 672) 3) := rfl
theorem e_T_init_34 : ct_tab (T_T_init) 34 = some (o_newa 1) := rfl
theorem e_T_init_36 : ct_tab (T_T_init) 36 = some (o_putR 1 10 3) := rfl
theorem e_T_init_39 : ct_tab (T_T_init) 39 = some (o_aload 0 1) := rfl
theorem e_T_init_40 : ct_tab (T_T_init) 40 = some (o_push (.int 4608) 3) := rfl
theorem e_T_init_43 : ct_tab (T_T_init) 43 = some (o_newa 3) := rfl
theorem e_T_init_45 : ct_tab (T_T_init) 45 = some (o_putR 1 10 4) := rfl
theorem e_T_init_48 : ct_tab (T_T_init) 48 = some (o_aload 0 1) := rfl
theorem e_T_init_49 : ct_tab (T_T_init) 49 = some (o_push (.int 32) 2) := rfl
theorem e_T_init_51 : ct_tab (T_T_init) 51 = some (o_newa 3) := rfl
theorem e_T_init_53 : ct_tab (T_T_init) 53 = some (o_putR 1 10 5) := rfl
theorem e_T_init_56 : ct_tab (T_T_init) 56 = some (o_aload 0 1) := rfl
theorem e_T_init_57 : ct_tab (T_T_init) 57 = some (o_push (.int 64) 2) := rfl
theorem e_T_init_59 : ct_tab (T_T_init) 59 = some (o_newa 1) := rfl
theorem e_T_init_61 : ct_tab (T_T_init) 61 = some (o_putR 1 10 6) := rfl
theorem e_T_init_64 : ct_tab (T_T_init) 64 = some (o_aload 0 1) := rfl
theorem e_T_init_65 : ct_tab (T_T_init) 65 = some (o_push (.int 8192) 3) := rfl
theorem e_T_init_68 : ct_tab (T_T_init) 68 = some (o_newa 2) := rfl
theorem e_T_init_70 : ct_tab (T_T_init) 70 = some (o_putR 1 10 7) := rfl
theorem e_T_init_73 : ct_tab (T_T_init) 73 = some (o_aload 0 1) := rfl
theorem e_T_init_74 : ct_tab (T_T_init) 74 = some (o_push (.int 8192) 3) := rfl
theorem e_T_init_77 : ct_tab (T_T_init) 77 = some (o_newa 3) := rfl
theorem e_T_init_79 : ct_tab (T_T_init) 79 = some (o_putR 1 10 8) := rfl
theorem e_T_init_82 : ct_tab (T_T_init) 82 = some (o_aload 0 1) := rfl
theorem e_T_init_83 : ct_tab (T_T_init) 83 = some (o_push (.int 8192) 3) := rfl
theorem e_T_init_86 : ct_tab (T_T_init) 86 = some (o_newa 3) := rfl
theorem e_T_init_88 : ct_tab (T_T_init) 88 = some (o_putR 1 10 9) := rfl
theorem d_T_allStructures_0 : decode prog_4_method_2_code 0 = .ok (.aload_n 0, 1) := by decide +kernel
theorem d_T_allStructures_1 : decode prog_4_method_2_code 1 = .ok (.getfield 11, 3) := by decide +kernel
theorem d_T_allStructures_4 : decode prog_4_method_2_code 4 = .ok (.iconst 1, 1) := by decide +kernel
theorem d_T_allStructures_5 : decode prog_4_method_2_code 5 = .ok (.iaload, 1) := by decide +kernel
theorem d_T_allStructures_6 : decode prog_4_method_2_code 6 = .ok (.aload_n 0, 1) := by decide +kernel
theorem d_T_allStructures_7 : decode prog_4_method_2_code 7 = .ok (.getfield 11, 3) := by decide +kernel
theorem d_T_allStructures_10 : decode prog_4_method_2_code 10 = .ok (.iconst 2, 1) := by decide +kernel
theorem d_T_allStructures_11 : decode prog_4_method_2_code 11 = .ok (.iaload, 1) := by decide +kernel
theorem d_T_allStructures_12 : decode prog_4_method_2_code 12 = .ok (.iadd, 1) := by decide +kernel
theorem d_T_allStructures_13 : decode prog_4_method_2_code 13 = .ok (.ireturn, 1) := by decide +kernel
abbrev T_T_allStructures : List (Nat × ct_PT) := [(0, o_aload 0 1), (1, o_getR 1 10 0), (4, o_push (.int 1) 1), (5, o_iald), (6, o_aload 0 1), (7, o_getR 1 10 0), (10, o_push (.int 2) 1), (11, o_iald), (12, o_ii fun x y => x + y)]
set_option maxRecDepth 100000 in
theorem A_T_allStructures (l : ct_Lx) : ct_al l M_T_allStructures (T_T_allStructures) := by
  refine ct_al.cons (so_aload_n d_T_allStructures_0 rfl) ?_
  refine ct_al.cons (so_getR (Cn := "CodeTables$Tables") (T := ct_T1) kc_1 (by decide) rfl rfl wd_4 d_T_allStructures_1) ?_
  refine ct_al.cons (so_iconst d_T_allStructures_4 (by decide)) ?_
  refine ct_al.cons (so_iald d_T_allStructures_5) ?_
  refine ct_al.cons (so_aload_n d_T_allStructures_6 rfl) ?_
  refine ct_al.cons (so_getR (Cn := "CodeTables$Tables") (T := ct_T1) kc_1 (by decide) rfl rfl wd_4 d_T_allStructures_7) ?_
  refine ct_al.cons (so_iconst d_T_allStructures_10 (by decide)) ?_
  refine ct_al.cons (so_iald d_T_allStructures_11) ?_
  refine ct_al.cons (so_iadd d_T_allStructures_12) ?_
  exact ct_al.nil
theorem e_T_allStructures_0 : ct_tab (T_T_allStructures) 0 = some (o_aload 0 1) := rfl
theorem e_T_allStructures_1 : ct_tab (T_T_allStructures) 1 = some (o_getR 1 10 0) := rfl
theorem e_T_allStructures_4 : ct_tab (T_T_allStructures) 4 = some (o_push (.int 1) 1) := rfl
theorem e_T_allStructures_5 : ct_tab (T_T_allStructures) 5 = some (o_iald) := rfl
theorem e_T_allStructures_6 : ct_tab (T_T_allStructures) 6 = some (o_aload 0 1) := rfl
theorem e_T_allStructures_7 : ct_tab (T_T_allStructures) 7 = some (o_getR 1 10 0) := rfl
theorem e_T_allStructures_10 : ct_tab (T_T_allStructures) 10 = some (o_push (.int 2) 1) := rfl
theorem e_T_allStructures_11 : ct_tab (T_T_allStructures) 11 = some (o_iald) := rfl
theorem e_T_allStructures_12 : ct_tab (T_T_allStructures) 12 = some (o_ii fun x y => x + y) := rfl
theorem d_T_allFunctions_0 : decode prog_4_method_3_code 0 = .ok (.aload_n 0, 1) := by decide +kernel
theorem d_T_allFunctions_1 : decode prog_4_method_3_code 1 = .ok (.getfield 11, 3) := by decide +kernel
theorem d_T_allFunctions_4 : decode prog_4_method_3_code 4 = .ok (.iconst 5, 1) := by decide +kernel
theorem d_T_allFunctions_5 : decode prog_4_method_3_code 5 = .ok (.iaload, 1) := by decide +kernel
theorem d_T_allFunctions_6 : decode prog_4_method_3_code 6 = .ok (.aload_n 0, 1) := by decide +kernel
theorem d_T_allFunctions_7 : decode prog_4_method_3_code 7 = .ok (.getfield 11, 3) := by decide +kernel
theorem d_T_allFunctions_10 : decode prog_4_method_3_code 10 = .ok (.iconst 3, 1) := by decide +kernel
theorem d_T_allFunctions_11 : decode prog_4_method_3_code 11 = .ok (.iaload, 1) := by decide +kernel
theorem d_T_allFunctions_12 : decode prog_4_method_3_code 12 = .ok (.iadd, 1) := by decide +kernel
theorem d_T_allFunctions_13 : decode prog_4_method_3_code 13 = .ok (.ireturn, 1) := by decide +kernel
abbrev T_T_allFunctions : List (Nat × ct_PT) := [(0, o_aload 0 1), (1, o_getR 1 10 0), (4, o_push (.int 5) 1), (5, o_iald), (6, o_aload 0 1), (7, o_getR 1 10 0), (10, o_push (.int 3) 1), (11, o_iald), (12, o_ii fun x y => x + y)]
set_option maxRecDepth 100000 in
theorem A_T_allFunctions (l : ct_Lx) : ct_al l M_T_allFunctions (T_T_allFunctions) := by
  refine ct_al.cons (so_aload_n d_T_allFunctions_0 rfl) ?_
  refine ct_al.cons (so_getR (Cn := "CodeTables$Tables") (T := ct_T1) kc_1 (by decide) rfl rfl wd_4 d_T_allFunctions_1) ?_
  refine ct_al.cons (so_iconst d_T_allFunctions_4 (by decide)) ?_
  refine ct_al.cons (so_iald d_T_allFunctions_5) ?_
  refine ct_al.cons (so_aload_n d_T_allFunctions_6 rfl) ?_
  refine ct_al.cons (so_getR (Cn := "CodeTables$Tables") (T := ct_T1) kc_1 (by decide) rfl rfl wd_4 d_T_allFunctions_7) ?_
  refine ct_al.cons (so_iconst d_T_allFunctions_10 (by decide)) ?_
  refine ct_al.cons (so_iald d_T_allFunctions_11) ?_
  refine ct_al.cons (so_iadd d_T_allFunctions_12) ?_
  exact ct_al.nil
theorem e_T_allFunctions_0 : ct_tab (T_T_allFunctions) 0 = some (o_aload 0 1) := rfl
theorem e_T_allFunctions_1 : ct_tab (T_T_allFunctions) 1 = some (o_getR 1 10 0) := rfl
theorem e_T_allFunctions_4 : ct_tab (T_T_allFunctions) 4 = some (o_push (.int 5) 1) := rfl
theorem e_T_allFunctions_5 : ct_tab (T_T_allFunctions) 5 = some (o_iald) := rfl
theorem e_T_allFunctions_6 : ct_tab (T_T_allFunctions) 6 = some (o_aload 0 1) := rfl
theorem e_T_allFunctions_7 : ct_tab (T_T_allFunctions) 7 = some (o_getR 1 10 0) := rfl
theorem e_T_allFunctions_10 : ct_tab (T_T_allFunctions) 10 = some (o_push (.int 3) 1) := rfl
theorem e_T_allFunctions_11 : ct_tab (T_T_allFunctions) 11 = some (o_iald) := rfl
theorem e_T_allFunctions_12 : ct_tab (T_T_allFunctions) 12 = some (o_ii fun x y => x + y) := rfl
theorem d_T_structureFact_0 : decode prog_4_method_4_code 0 = .ok (.iload_n 1, 1) := by decide +kernel
theorem d_T_structureFact_1 : decode prog_4_method_4_code 1 = .ok (.ifCond .lt 20, 3) := by decide +kernel
theorem d_T_structureFact_4 : decode prog_4_method_4_code 4 = .ok (.iload_n 1, 1) := by decide +kernel
theorem d_T_structureFact_5 : decode prog_4_method_4_code 5 = .ok (.aload_n 0, 1) := by decide +kernel
theorem d_T_structureFact_6 : decode prog_4_method_4_code 6 = .ok (.invokevirtual 44, 3) := by decide +kernel
theorem d_T_structureFact_9 : decode prog_4_method_4_code 9 = .ok (.if_icmp .ge 12, 3) := by decide +kernel
theorem d_T_structureFact_12 : decode prog_4_method_4_code 12 = .ok (.iload_n 2, 1) := by decide +kernel
theorem d_T_structureFact_13 : decode prog_4_method_4_code 13 = .ok (.ifCond .lt 8, 3) := by decide +kernel
theorem d_T_structureFact_16 : decode prog_4_method_4_code 16 = .ok (.iload_n 2, 1) := by decide +kernel
theorem d_T_structureFact_17 : decode prog_4_method_4_code 17 = .ok (.iconst 4, 1) := by decide +kernel
theorem d_T_structureFact_18 : decode prog_4_method_4_code 18 = .ok (.if_icmp .lt 5, 3) := by decide +kernel
theorem d_T_structureFact_21 : decode prog_4_method_4_code 21 = .ok (.iconst (-1), 1) := by decide +kernel
theorem d_T_structureFact_22 : decode prog_4_method_4_code 22 = .ok (.ireturn, 1) := by decide +kernel
theorem d_T_structureFact_23 : decode prog_4_method_4_code 23 = .ok (.aload_n 0, 1) := by decide +kernel
theorem d_T_structureFact_24 : decode prog_4_method_4_code 24 = .ok (.getfield 15, 3) := by decide +kernel
theorem d_T_structureFact_27 : decode prog_4_method_4_code 27 = .ok (.iload_n 1, 1) := by decide +kernel
theorem d_T_structureFact_28 : decode prog_4_method_4_code 28 = .ok (.iconst 4, 1) := by decide +kernel
theorem d_T_structureFact_29 : decode prog_4_method_4_code 29 = .ok (.imul, 1) := by decide +kernel
theorem d_T_structureFact_30 : decode prog_4_method_4_code 30 = .ok (.iload_n 2, 1) := by decide +kernel
theorem d_T_structureFact_31 : decode prog_4_method_4_code 31 = .ok (.iadd, 1) := by decide +kernel
theorem d_T_structureFact_32 : decode prog_4_method_4_code 32 = .ok (.iaload, 1) := by decide +kernel
theorem d_T_structureFact_33 : decode prog_4_method_4_code 33 = .ok (.ireturn, 1) := by decide +kernel
abbrev T_T_structureFact : List (Nat × ct_PT) := [(0, o_iload 1 1), (1, o_if (fun x => x < 0) (fun x => ¬ x < 0) 21), (4, o_iload 1 1), (5, o_aload 0 1), (9, o_ic (fun x y => y ≤ x) (fun x y => ¬ y ≤ x) 21), (12, o_iload 2 1), (13, o_if (fun x => x < 0) (fun x => ¬ x < 0) 21), (16, o_iload 2 1), (17, o_push (.int 4) 1), (18, o_ic (fun x y => x < y) (fun x y => ¬ x < y) 23), (21, o_push (.int (-1)) 1), (23, o_aload 0 1), (24, o_getR 1 10 1), (27, o_iload 1 1), (28, o_push (.int 4) 1), (29, o_ii fun x y => x * y), (30, o_iload 2 1), (31, o_ii fun x y => x + y), (32, o_iald)]
set_option maxRecDepth 100000 in
theorem A_T_structureFact (l : ct_Lx) : ct_al l M_T_structureFact (T_T_structureFact) := by
  refine ct_al.cons (so_iload_n d_T_structureFact_0 rfl) ?_
  refine ct_al.cons (so_if_lt d_T_structureFact_1 (by decide)) ?_
  refine ct_al.cons (so_iload_n d_T_structureFact_4 rfl) ?_
  refine ct_al.cons (so_aload_n d_T_structureFact_5 rfl) ?_
  refine ct_al.cons (so_ic_ge d_T_structureFact_9 (by decide)) ?_
  refine ct_al.cons (so_iload_n d_T_structureFact_12 rfl) ?_
  refine ct_al.cons (so_if_lt d_T_structureFact_13 (by decide)) ?_
  refine ct_al.cons (so_iload_n d_T_structureFact_16 rfl) ?_
  refine ct_al.cons (so_iconst d_T_structureFact_17 (by decide)) ?_
  refine ct_al.cons (so_ic_lt d_T_structureFact_18 (by decide)) ?_
  refine ct_al.cons (so_iconst d_T_structureFact_21 (by decide)) ?_
  refine ct_al.cons (so_aload_n d_T_structureFact_23 rfl) ?_
  refine ct_al.cons (so_getR (Cn := "CodeTables$Tables") (T := ct_T1) kc_1 (by decide) rfl rfl wd_5 d_T_structureFact_24) ?_
  refine ct_al.cons (so_iload_n d_T_structureFact_27 rfl) ?_
  refine ct_al.cons (so_iconst d_T_structureFact_28 (by decide)) ?_
  refine ct_al.cons (so_imul d_T_structureFact_29) ?_
  refine ct_al.cons (so_iload_n d_T_structureFact_30 rfl) ?_
  refine ct_al.cons (so_iadd d_T_structureFact_31) ?_
  refine ct_al.cons (so_iald d_T_structureFact_32) ?_
  exact ct_al.nil
theorem e_T_structureFact_0 : ct_tab (T_T_structureFact) 0 = some (o_iload 1 1) := rfl
theorem e_T_structureFact_1 : ct_tab (T_T_structureFact) 1 = some (o_if (fun x => x < 0) (fun x => ¬ x < 0) 21) := rfl
theorem e_T_structureFact_4 : ct_tab (T_T_structureFact) 4 = some (o_iload 1 1) := rfl
theorem e_T_structureFact_5 : ct_tab (T_T_structureFact) 5 = some (o_aload 0 1) := rfl
theorem e_T_structureFact_9 : ct_tab (T_T_structureFact) 9 = some (o_ic (fun x y => y ≤ x) (fun x y => ¬ y ≤ x) 21) := rfl
theorem e_T_structureFact_12 : ct_tab (T_T_structureFact) 12 = some (o_iload 2 1) := rfl
theorem e_T_structureFact_13 : ct_tab (T_T_structureFact) 13 = some (o_if (fun x => x < 0) (fun x => ¬ x < 0) 21) := rfl
theorem e_T_structureFact_16 : ct_tab (T_T_structureFact) 16 = some (o_iload 2 1) := rfl
theorem e_T_structureFact_17 : ct_tab (T_T_structureFact) 17 = some (o_push (.int 4) 1) := rfl
theorem e_T_structureFact_18 : ct_tab (T_T_structureFact) 18 = some (o_ic (fun x y => x < y) (fun x y => ¬ x < y) 23) := rfl
theorem e_T_structureFact_21 : ct_tab (T_T_structureFact) 21 = some (o_push (.int (-1)) 1) := rfl
theorem e_T_structureFact_23 : ct_tab (T_T_structureFact) 23 = some (o_aload 0 1) := rfl
theorem e_T_structureFact_24 : ct_tab (T_T_structureFact) 24 = some (o_getR 1 10 1) := rfl
theorem e_T_structureFact_27 : ct_tab (T_T_structureFact) 27 = some (o_iload 1 1) := rfl
theorem e_T_structureFact_28 : ct_tab (T_T_structureFact) 28 = some (o_push (.int 4) 1) := rfl
theorem e_T_structureFact_29 : ct_tab (T_T_structureFact) 29 = some (o_ii fun x y => x * y) := rfl
theorem e_T_structureFact_30 : ct_tab (T_T_structureFact) 30 = some (o_iload 2 1) := rfl
theorem e_T_structureFact_31 : ct_tab (T_T_structureFact) 31 = some (o_ii fun x y => x + y) := rfl
theorem e_T_structureFact_32 : ct_tab (T_T_structureFact) 32 = some (o_iald) := rfl
theorem cl_T_structureFact_6 {l : ct_Lx} {d d1 : Nat} {Post Post1 : Option Value → ct_Sg → Prop} {lv : ct_Lv} {st : List Value} {g : ct_Sg} {bc bs c1 s1 : Nat} {h : Nat} (hsh : g.2.1 h = (10 + 1, 10)) (hM : ct_Me l M_T_allStructures d1 c1 s1 [.ref h] g Post1) (hdd : d1 + 1 ≤ d) (hk : (st.map fun v => v.category).sum ≤ 8) (hcc : c1 ≤ bc) (hss : s1 ≤ bs) (kk : ∀ (v : Option Value) (g' : ct_Sg), Post1 v g' → ct_Wp l M_T_structureFact d Post (9, lv, v.toList ++ st, g', bc - c1, bs - s1)) : ct_Wp l M_T_structureFact d Post (6, lv, .ref h :: st, g, bc, bs) := ct_Wp.callV (ci := 1) (N := 10) (T := ct_T1) (As := []) lk_T_allStructures (Or.inl wd_19) wd_20 wd_21 rfl d_T_structureFact_6 hsh hM rfl hdd hk hcc hss kk
theorem d_T_fieldType_0 : decode prog_4_method_5_code 0 = .ok (.iload_n 2, 1) := by decide +kernel
theorem d_T_fieldType_1 : decode prog_4_method_5_code 1 = .ok (.ifCond .lt 27, 3) := by decide +kernel
theorem d_T_fieldType_4 : decode prog_4_method_5_code 4 = .ok (.iload_n 2, 1) := by decide +kernel
theorem d_T_fieldType_5 : decode prog_4_method_5_code 5 = .ok (.aload_n 0, 1) := by decide +kernel
theorem d_T_fieldType_6 : decode prog_4_method_5_code 6 = .ok (.iload_n 1, 1) := by decide +kernel
theorem d_T_fieldType_7 : decode prog_4_method_5_code 7 = .ok (.iconst 1, 1) := by decide +kernel
theorem d_T_fieldType_8 : decode prog_4_method_5_code 8 = .ok (.invokevirtual 48, 3) := by decide +kernel
theorem d_T_fieldType_11 : decode prog_4_method_5_code 11 = .ok (.if_icmp .ge 17, 3) := by decide +kernel
theorem d_T_fieldType_14 : decode prog_4_method_5_code 14 = .ok (.aload_n 0, 1) := by decide +kernel
theorem d_T_fieldType_15 : decode prog_4_method_5_code 15 = .ok (.getfield 18, 3) := by decide +kernel
theorem d_T_fieldType_18 : decode prog_4_method_5_code 18 = .ok (.iload_n 1, 1) := by decide +kernel
theorem d_T_fieldType_19 : decode prog_4_method_5_code 19 = .ok (.bipush 16, 2) := by decide +kernel
theorem d_T_fieldType_21 : decode prog_4_method_5_code 21 = .ok (.imul, 1) := by decide +kernel
theorem d_T_fieldType_22 : decode prog_4_method_5_code 22 = .ok (.iload_n 2, 1) := by decide +kernel
theorem d_T_fieldType_23 : decode prog_4_method_5_code 23 = .ok (.iadd, 1) := by decide +kernel
theorem d_T_fieldType_24 : decode prog_4_method_5_code 24 = .ok (.laload, 1) := by decide +kernel
theorem d_T_fieldType_25 : decode prog_4_method_5_code 25 = .ok (.goto 4, 3) := by decide +kernel
theorem d_T_fieldType_28 : decode prog_4_method_5_code 28 = .ok (.lconst 0, 1) := by decide +kernel
theorem d_T_fieldType_29 : decode prog_4_method_5_code 29 = .ok (.lreturn, 1) := by decide +kernel
abbrev T_T_fieldType : List (Nat × ct_PT) := [(0, o_iload 2 1), (1, o_if (fun x => x < 0) (fun x => ¬ x < 0) 28), (4, o_iload 2 1), (5, o_aload 0 1), (6, o_iload 1 1), (7, o_push (.int 1) 1), (11, o_ic (fun x y => y ≤ x) (fun x y => ¬ y ≤ x) 28), (14, o_aload 0 1), (15, o_getR 1 10 2), (18, o_iload 1 1), (19, o_push (.int 16) 2), (21, o_ii fun x y => x * y), (22, o_iload 2 1), (23, o_ii fun x y => x + y), (24, o_lald), (25, o_goto 29), (28, o_push (.long 0) 1)]
set_option maxRecDepth 100000 in
theorem A_T_fieldType (l : ct_Lx) : ct_al l M_T_fieldType (T_T_fieldType) := by
  refine ct_al.cons (so_iload_n d_T_fieldType_0 rfl) ?_
  refine ct_al.cons (so_if_lt d_T_fieldType_1 (by decide)) ?_
  refine ct_al.cons (so_iload_n d_T_fieldType_4 rfl) ?_
  refine ct_al.cons (so_aload_n d_T_fieldType_5 rfl) ?_
  refine ct_al.cons (so_iload_n d_T_fieldType_6 rfl) ?_
  refine ct_al.cons (so_iconst d_T_fieldType_7 (by decide)) ?_
  refine ct_al.cons (so_ic_ge d_T_fieldType_11 (by decide)) ?_
  refine ct_al.cons (so_aload_n d_T_fieldType_14 rfl) ?_
  refine ct_al.cons (so_getR (Cn := "CodeTables$Tables") (T := ct_T1) kc_1 (by decide) rfl rfl wd_7 d_T_fieldType_15) ?_
  refine ct_al.cons (so_iload_n d_T_fieldType_18 rfl) ?_
  refine ct_al.cons (so_bipush d_T_fieldType_19 (by decide)) ?_
  refine ct_al.cons (so_imul d_T_fieldType_21) ?_
  refine ct_al.cons (so_iload_n d_T_fieldType_22 rfl) ?_
  refine ct_al.cons (so_iadd d_T_fieldType_23) ?_
  refine ct_al.cons (so_lald d_T_fieldType_24) ?_
  refine ct_al.cons (so_goto d_T_fieldType_25 (by decide)) ?_
  refine ct_al.cons (so_lconst d_T_fieldType_28 (by decide)) ?_
  exact ct_al.nil
theorem e_T_fieldType_0 : ct_tab (T_T_fieldType) 0 = some (o_iload 2 1) := rfl
theorem e_T_fieldType_1 : ct_tab (T_T_fieldType) 1 = some (o_if (fun x => x < 0) (fun x => ¬ x < 0) 28) := rfl
theorem e_T_fieldType_4 : ct_tab (T_T_fieldType) 4 = some (o_iload 2 1) := rfl
theorem e_T_fieldType_5 : ct_tab (T_T_fieldType) 5 = some (o_aload 0 1) := rfl
theorem e_T_fieldType_6 : ct_tab (T_T_fieldType) 6 = some (o_iload 1 1) := rfl
theorem e_T_fieldType_7 : ct_tab (T_T_fieldType) 7 = some (o_push (.int 1) 1) := rfl
theorem e_T_fieldType_11 : ct_tab (T_T_fieldType) 11 = some (o_ic (fun x y => y ≤ x) (fun x y => ¬ y ≤ x) 28) := rfl
theorem e_T_fieldType_14 : ct_tab (T_T_fieldType) 14 = some (o_aload 0 1) := rfl
theorem e_T_fieldType_15 : ct_tab (T_T_fieldType) 15 = some (o_getR 1 10 2) := rfl
theorem e_T_fieldType_18 : ct_tab (T_T_fieldType) 18 = some (o_iload 1 1) := rfl
theorem e_T_fieldType_19 : ct_tab (T_T_fieldType) 19 = some (o_push (.int 16) 2) := rfl
theorem e_T_fieldType_21 : ct_tab (T_T_fieldType) 21 = some (o_ii fun x y => x * y) := rfl
theorem e_T_fieldType_22 : ct_tab (T_T_fieldType) 22 = some (o_iload 2 1) := rfl
theorem e_T_fieldType_23 : ct_tab (T_T_fieldType) 23 = some (o_ii fun x y => x + y) := rfl
theorem e_T_fieldType_24 : ct_tab (T_T_fieldType) 24 = some (o_lald) := rfl
theorem e_T_fieldType_25 : ct_tab (T_T_fieldType) 25 = some (o_goto 29) := rfl
theorem e_T_fieldType_28 : ct_tab (T_T_fieldType) 28 = some (o_push (.long 0) 1) := rfl
theorem cl_T_fieldType_8 {l : ct_Lx} {d d1 : Nat} {Post Post1 : Option Value → ct_Sg → Prop} {lv : ct_Lv} {st : List Value} {g : ct_Sg} {bc bs c1 s1 : Nat} {a1 a2 : Value} {h : Nat} (hsh : g.2.1 h = (10 + 1, 10)) (hM : ct_Me l M_T_structureFact d1 c1 s1 [.ref h, a1, a2] g Post1) (hdd : d1 + 1 ≤ d) (hk : (st.map fun v => v.category).sum ≤ 8) (hcc : c1 ≤ bc) (hss : s1 ≤ bs) (kk : ∀ (v : Option Value) (g' : ct_Sg), Post1 v g' → ct_Wp l M_T_fieldType d Post (11, lv, v.toList ++ st, g', bc - c1, bs - s1)) : ct_Wp l M_T_fieldType d Post (8, lv, a2 :: a1 :: .ref h :: st, g, bc, bs) := ct_Wp.callV (ci := 1) (N := 10) (T := ct_T1) (As := [a1, a2]) lk_T_structureFact (Or.inl wd_24) wd_25 wd_26 rfl d_T_fieldType_8 hsh hM rfl hdd hk hcc hss kk
theorem d_T_functionFact_0 : decode prog_4_method_6_code 0 = .ok (.iload_n 1, 1) := by decide +kernel
theorem d_T_functionFact_1 : decode prog_4_method_6_code 1 = .ok (.ifCond .lt 21, 3) := by decide +kernel
theorem d_T_functionFact_4 : decode prog_4_method_6_code 4 = .ok (.iload_n 1, 1) := by decide +kernel
theorem d_T_functionFact_5 : decode prog_4_method_6_code 5 = .ok (.aload_n 0, 1) := by decide +kernel
theorem d_T_functionFact_6 : decode prog_4_method_6_code 6 = .ok (.invokevirtual 52, 3) := by decide +kernel
theorem d_T_functionFact_9 : decode prog_4_method_6_code 9 = .ok (.if_icmp .ge 13, 3) := by decide +kernel
theorem d_T_functionFact_12 : decode prog_4_method_6_code 12 = .ok (.iload_n 2, 1) := by decide +kernel
theorem d_T_functionFact_13 : decode prog_4_method_6_code 13 = .ok (.ifCond .lt 9, 3) := by decide +kernel
theorem d_T_functionFact_16 : decode prog_4_method_6_code 16 = .ok (.iload_n 2, 1) := by decide +kernel
theorem d_T_functionFact_17 : decode prog_4_method_6_code 17 = .ok (.bipush 7, 2) := by decide +kernel
theorem d_T_functionFact_19 : decode prog_4_method_6_code 19 = .ok (.if_icmp .lt 5, 3) := by decide +kernel
theorem d_T_functionFact_22 : decode prog_4_method_6_code 22 = .ok (.iconst (-1), 1) := by decide +kernel
theorem d_T_functionFact_23 : decode prog_4_method_6_code 23 = .ok (.ireturn, 1) := by decide +kernel
theorem d_T_functionFact_24 : decode prog_4_method_6_code 24 = .ok (.aload_n 0, 1) := by decide +kernel
theorem d_T_functionFact_25 : decode prog_4_method_6_code 25 = .ok (.getfield 22, 3) := by decide +kernel
theorem d_T_functionFact_28 : decode prog_4_method_6_code 28 = .ok (.aload_n 0, 1) := by decide +kernel
theorem d_T_functionFact_29 : decode prog_4_method_6_code 29 = .ok (.iload_n 1, 1) := by decide +kernel
theorem d_T_functionFact_30 : decode prog_4_method_6_code 30 = .ok (.invokevirtual 55, 3) := by decide +kernel
theorem d_T_functionFact_33 : decode prog_4_method_6_code 33 = .ok (.bipush 7, 2) := by decide +kernel
theorem d_T_functionFact_35 : decode prog_4_method_6_code 35 = .ok (.imul, 1) := by decide +kernel
theorem d_T_functionFact_36 : decode prog_4_method_6_code 36 = .ok (.iload_n 2, 1) := by decide +kernel
theorem d_T_functionFact_37 : decode prog_4_method_6_code 37 = .ok (.iadd, 1) := by decide +kernel
theorem d_T_functionFact_38 : decode prog_4_method_6_code 38 = .ok (.iaload, 1) := by decide +kernel
theorem d_T_functionFact_39 : decode prog_4_method_6_code 39 = .ok (.ireturn, 1) := by decide +kernel
abbrev T_T_functionFact : List (Nat × ct_PT) := [(0, o_iload 1 1), (1, o_if (fun x => x < 0) (fun x => ¬ x < 0) 22), (4, o_iload 1 1), (5, o_aload 0 1), (9, o_ic (fun x y => y ≤ x) (fun x y => ¬ y ≤ x) 22), (12, o_iload 2 1), (13, o_if (fun x => x < 0) (fun x => ¬ x < 0) 22), (16, o_iload 2 1), (17, o_push (.int 7) 2), (19, o_ic (fun x y => x < y) (fun x y => ¬ x < y) 24), (22, o_push (.int (-1)) 1), (24, o_aload 0 1), (25, o_getR 1 10 3), (28, o_aload 0 1), (29, o_iload 1 1), (33, o_push (.int 7) 2), (35, o_ii fun x y => x * y), (36, o_iload 2 1), (37, o_ii fun x y => x + y), (38, o_iald)]
set_option maxRecDepth 100000 in
theorem A_T_functionFact (l : ct_Lx) : ct_al l M_T_functionFact (T_T_functionFact) := by
  refine ct_al.cons (so_iload_n d_T_functionFact_0 rfl) ?_
  refine ct_al.cons (so_if_lt d_T_functionFact_1 (by decide)) ?_
  refine ct_al.cons (so_iload_n d_T_functionFact_4 rfl) ?_
  refine ct_al.cons (so_aload_n d_T_functionFact_5 rfl) ?_
  refine ct_al.cons (so_ic_ge d_T_functionFact_9 (by decide)) ?_
  refine ct_al.cons (so_iload_n d_T_functionFact_12 rfl) ?_
  refine ct_al.cons (so_if_lt d_T_functionFact_13 (by decide)) ?_
  refine ct_al.cons (so_iload_n d_T_functionFact_16 rfl) ?_
  refine ct_al.cons (so_bipush d_T_functionFact_17 (by decide)) ?_
  refine ct_al.cons (so_ic_lt d_T_functionFact_19 (by decide)) ?_
  refine ct_al.cons (so_iconst d_T_functionFact_22 (by decide)) ?_
  refine ct_al.cons (so_aload_n d_T_functionFact_24 rfl) ?_
  refine ct_al.cons (so_getR (Cn := "CodeTables$Tables") (T := ct_T1) kc_1 (by decide) rfl rfl wd_8 d_T_functionFact_25) ?_
  refine ct_al.cons (so_aload_n d_T_functionFact_28 rfl) ?_
  refine ct_al.cons (so_iload_n d_T_functionFact_29 rfl) ?_
  refine ct_al.cons (so_bipush d_T_functionFact_33 (by decide)) ?_
  refine ct_al.cons (so_imul d_T_functionFact_35) ?_
  refine ct_al.cons (so_iload_n d_T_functionFact_36 rfl) ?_
  refine ct_al.cons (so_iadd d_T_functionFact_37) ?_
  refine ct_al.cons (so_iald d_T_functionFact_38) ?_
  exact ct_al.nil
theorem e_T_functionFact_0 : ct_tab (T_T_functionFact) 0 = some (o_iload 1 1) := rfl
theorem e_T_functionFact_1 : ct_tab (T_T_functionFact) 1 = some (o_if (fun x => x < 0) (fun x => ¬ x < 0) 22) := rfl
theorem e_T_functionFact_4 : ct_tab (T_T_functionFact) 4 = some (o_iload 1 1) := rfl
theorem e_T_functionFact_5 : ct_tab (T_T_functionFact) 5 = some (o_aload 0 1) := rfl
theorem e_T_functionFact_9 : ct_tab (T_T_functionFact) 9 = some (o_ic (fun x y => y ≤ x) (fun x y => ¬ y ≤ x) 22) := rfl
theorem e_T_functionFact_12 : ct_tab (T_T_functionFact) 12 = some (o_iload 2 1) := rfl
theorem e_T_functionFact_13 : ct_tab (T_T_functionFact) 13 = some (o_if (fun x => x < 0) (fun x => ¬ x < 0) 22) := rfl
theorem e_T_functionFact_16 : ct_tab (T_T_functionFact) 16 = some (o_iload 2 1) := rfl
theorem e_T_functionFact_17 : ct_tab (T_T_functionFact) 17 = some (o_push (.int 7) 2) := rfl
theorem e_T_functionFact_19 : ct_tab (T_T_functionFact) 19 = some (o_ic (fun x y => x < y) (fun x y => ¬ x < y) 24) := rfl
theorem e_T_functionFact_22 : ct_tab (T_T_functionFact) 22 = some (o_push (.int (-1)) 1) := rfl
theorem e_T_functionFact_24 : ct_tab (T_T_functionFact) 24 = some (o_aload 0 1) := rfl
theorem e_T_functionFact_25 : ct_tab (T_T_functionFact) 25 = some (o_getR 1 10 3) := rfl
theorem e_T_functionFact_28 : ct_tab (T_T_functionFact) 28 = some (o_aload 0 1) := rfl
theorem e_T_functionFact_29 : ct_tab (T_T_functionFact) 29 = some (o_iload 1 1) := rfl
theorem e_T_functionFact_33 : ct_tab (T_T_functionFact) 33 = some (o_push (.int 7) 2) := rfl
theorem e_T_functionFact_35 : ct_tab (T_T_functionFact) 35 = some (o_ii fun x y => x * y) := rfl
theorem e_T_functionFact_36 : ct_tab (T_T_functionFact) 36 = some (o_iload 2 1) := rfl
theorem e_T_functionFact_37 : ct_tab (T_T_functionFact) 37 = some (o_ii fun x y => x + y) := rfl
theorem e_T_functionFact_38 : ct_tab (T_T_functionFact) 38 = some (o_iald) := rfl
theorem cl_T_functionFact_6 {l : ct_Lx} {d d1 : Nat} {Post Post1 : Option Value → ct_Sg → Prop} {lv : ct_Lv} {st : List Value} {g : ct_Sg} {bc bs c1 s1 : Nat} {h : Nat} (hsh : g.2.1 h = (10 + 1, 10)) (hM : ct_Me l M_T_allFunctions d1 c1 s1 [.ref h] g Post1) (hdd : d1 + 1 ≤ d) (hk : (st.map fun v => v.category).sum ≤ 8) (hcc : c1 ≤ bc) (hss : s1 ≤ bs) (kk : ∀ (v : Option Value) (g' : ct_Sg), Post1 v g' → ct_Wp l M_T_functionFact d Post (9, lv, v.toList ++ st, g', bc - c1, bs - s1)) : ct_Wp l M_T_functionFact d Post (6, lv, .ref h :: st, g, bc, bs) := ct_Wp.callV (ci := 1) (N := 10) (T := ct_T1) (As := []) lk_T_allFunctions (Or.inl wd_29) wd_30 wd_31 rfl d_T_functionFact_6 hsh hM rfl hdd hk hcc hss kk
theorem cl_T_functionFact_30 {l : ct_Lx} {d d1 : Nat} {Post Post1 : Option Value → ct_Sg → Prop} {lv : ct_Lv} {st : List Value} {g : ct_Sg} {bc bs c1 s1 : Nat} {a1 : Value} {h : Nat} (hsh : g.2.1 h = (10 + 1, 10)) (hM : ct_Me l M_T_slotOf d1 c1 s1 [.ref h, a1] g Post1) (hdd : d1 + 1 ≤ d) (hk : (st.map fun v => v.category).sum ≤ 8) (hcc : c1 ≤ bc) (hss : s1 ≤ bs) (kk : ∀ (v : Option Value) (g' : ct_Sg), Post1 v g' → ct_Wp l M_T_functionFact d Post (33, lv, v.toList ++ st, g', bc - c1, bs - s1)) : ct_Wp l M_T_functionFact d Post (30, lv, a1 :: .ref h :: st, g, bc, bs) := ct_Wp.callV (ci := 1) (N := 10) (T := ct_T1) (As := [a1]) lk_T_slotOf (Or.inl wd_34) wd_35 wd_36 rfl d_T_functionFact_30 hsh hM rfl hdd hk hcc hss kk
theorem d_T_listedType_0 : decode prog_4_method_7_code 0 = .ok (.iload_n 2, 1) := by decide +kernel
theorem d_T_listedType_1 : decode prog_4_method_7_code 1 = .ok (.ifCond .lt 24, 3) := by decide +kernel
theorem d_T_listedType_4 : decode prog_4_method_7_code 4 = .ok (.iload_n 2, 1) := by decide +kernel
theorem d_T_listedType_5 : decode prog_4_method_7_code 5 = .ok (.iconst 3, 1) := by decide +kernel
theorem d_T_listedType_6 : decode prog_4_method_7_code 6 = .ok (.if_icmp .ge 19, 3) := by decide +kernel
theorem d_T_listedType_9 : decode prog_4_method_7_code 9 = .ok (.iload_n 3, 1) := by decide +kernel
theorem d_T_listedType_10 : decode prog_4_method_7_code 10 = .ok (.ifCond .lt 15, 3) := by decide +kernel
theorem d_T_listedType_13 : decode prog_4_method_7_code 13 = .ok (.iload_n 3, 1) := by decide +kernel
theorem d_T_listedType_14 : decode prog_4_method_7_code 14 = .ok (.aload_n 0, 1) := by decide +kernel
theorem d_T_listedType_15 : decode prog_4_method_7_code 15 = .ok (.iload_n 1, 1) := by decide +kernel
theorem d_T_listedType_16 : decode prog_4_method_7_code 16 = .ok (.iconst 1, 1) := by decide +kernel
theorem d_T_listedType_17 : decode prog_4_method_7_code 17 = .ok (.iload_n 2, 1) := by decide +kernel
theorem d_T_listedType_18 : decode prog_4_method_7_code 18 = .ok (.iadd, 1) := by decide +kernel
theorem d_T_listedType_19 : decode prog_4_method_7_code 19 = .ok (.invokevirtual 59, 3) := by decide +kernel
theorem d_T_listedType_22 : decode prog_4_method_7_code 22 = .ok (.if_icmp .lt 5, 3) := by decide +kernel
theorem d_T_listedType_25 : decode prog_4_method_7_code 25 = .ok (.lconst 0, 1) := by decide +kernel
theorem d_T_listedType_26 : decode prog_4_method_7_code 26 = .ok (.lreturn, 1) := by decide +kernel
theorem d_T_listedType_27 : decode prog_4_method_7_code 27 = .ok (.aload_n 0, 1) := by decide +kernel
theorem d_T_listedType_28 : decode prog_4_method_7_code 28 = .ok (.getfield 25, 3) := by decide +kernel
theorem d_T_listedType_31 : decode prog_4_method_7_code 31 = .ok (.aload_n 0, 1) := by decide +kernel
theorem d_T_listedType_32 : decode prog_4_method_7_code 32 = .ok (.iload_n 1, 1) := by decide +kernel
theorem d_T_listedType_33 : decode prog_4_method_7_code 33 = .ok (.invokevirtual 55, 3) := by decide +kernel
theorem d_T_listedType_36 : decode prog_4_method_7_code 36 = .ok (.iload_n 2, 1) := by decide +kernel
theorem d_T_listedType_37 : decode prog_4_method_7_code 37 = .ok (.invokestatic 62, 3) := by decide +kernel
theorem d_T_listedType_40 : decode prog_4_method_7_code 40 = .ok (.iload_n 3, 1) := by decide +kernel
theorem d_T_listedType_41 : decode prog_4_method_7_code 41 = .ok (.iadd, 1) := by decide +kernel
theorem d_T_listedType_42 : decode prog_4_method_7_code 42 = .ok (.laload, 1) := by decide +kernel
theorem d_T_listedType_43 : decode prog_4_method_7_code 43 = .ok (.lreturn, 1) := by decide +kernel
abbrev T_T_listedType : List (Nat × ct_PT) := [(0, o_iload 2 1), (1, o_if (fun x => x < 0) (fun x => ¬ x < 0) 25), (4, o_iload 2 1), (5, o_push (.int 3) 1), (6, o_ic (fun x y => y ≤ x) (fun x y => ¬ y ≤ x) 25), (9, o_iload 3 1), (10, o_if (fun x => x < 0) (fun x => ¬ x < 0) 25), (13, o_iload 3 1), (14, o_aload 0 1), (15, o_iload 1 1), (16, o_push (.int 1) 1), (17, o_iload 2 1), (18, o_ii fun x y => x + y), (22, o_ic (fun x y => x < y) (fun x y => ¬ x < y) 27), (25, o_push (.long 0) 1), (27, o_aload 0 1), (28, o_getR 1 10 4), (31, o_aload 0 1), (32, o_iload 1 1), (36, o_iload 2 1), (40, o_iload 3 1), (41, o_ii fun x y => x + y), (42, o_lald)]
set_option maxRecDepth 100000 in
theorem A_T_listedType (l : ct_Lx) : ct_al l M_T_listedType (T_T_listedType) := by
  refine ct_al.cons (so_iload_n d_T_listedType_0 rfl) ?_
  refine ct_al.cons (so_if_lt d_T_listedType_1 (by decide)) ?_
  refine ct_al.cons (so_iload_n d_T_listedType_4 rfl) ?_
  refine ct_al.cons (so_iconst d_T_listedType_5 (by decide)) ?_
  refine ct_al.cons (so_ic_ge d_T_listedType_6 (by decide)) ?_
  refine ct_al.cons (so_iload_n d_T_listedType_9 rfl) ?_
  refine ct_al.cons (so_if_lt d_T_listedType_10 (by decide)) ?_
  refine ct_al.cons (so_iload_n d_T_listedType_13 rfl) ?_
  refine ct_al.cons (so_aload_n d_T_listedType_14 rfl) ?_
  refine ct_al.cons (so_iload_n d_T_listedType_15 rfl) ?_
  refine ct_al.cons (so_iconst d_T_listedType_16 (by decide)) ?_
  refine ct_al.cons (so_iload_n d_T_listedType_17 rfl) ?_
  refine ct_al.cons (so_iadd d_T_listedType_18) ?_
  refine ct_al.cons (so_ic_lt d_T_listedType_22 (by decide)) ?_
  refine ct_al.cons (so_lconst d_T_listedType_25 (by decide)) ?_
  refine ct_al.cons (so_aload_n d_T_listedType_27 rfl) ?_
  refine ct_al.cons (so_getR (Cn := "CodeTables$Tables") (T := ct_T1) kc_1 (by decide) rfl rfl wd_9 d_T_listedType_28) ?_
  refine ct_al.cons (so_aload_n d_T_listedType_31 rfl) ?_
  refine ct_al.cons (so_iload_n d_T_listedType_32 rfl) ?_
  refine ct_al.cons (so_iload_n d_T_listedType_36 rfl) ?_
  refine ct_al.cons (so_iload_n d_T_listedType_40 rfl) ?_
  refine ct_al.cons (so_iadd d_T_listedType_41) ?_
  refine ct_al.cons (so_lald d_T_listedType_42) ?_
  exact ct_al.nil
theorem e_T_listedType_0 : ct_tab (T_T_listedType) 0 = some (o_iload 2 1) := rfl
theorem e_T_listedType_1 : ct_tab (T_T_listedType) 1 = some (o_if (fun x => x < 0) (fun x => ¬ x < 0) 25) := rfl
theorem e_T_listedType_4 : ct_tab (T_T_listedType) 4 = some (o_iload 2 1) := rfl
theorem e_T_listedType_5 : ct_tab (T_T_listedType) 5 = some (o_push (.int 3) 1) := rfl
theorem e_T_listedType_6 : ct_tab (T_T_listedType) 6 = some (o_ic (fun x y => y ≤ x) (fun x y => ¬ y ≤ x) 25) := rfl
theorem e_T_listedType_9 : ct_tab (T_T_listedType) 9 = some (o_iload 3 1) := rfl
theorem e_T_listedType_10 : ct_tab (T_T_listedType) 10 = some (o_if (fun x => x < 0) (fun x => ¬ x < 0) 25) := rfl
theorem e_T_listedType_13 : ct_tab (T_T_listedType) 13 = some (o_iload 3 1) := rfl
theorem e_T_listedType_14 : ct_tab (T_T_listedType) 14 = some (o_aload 0 1) := rfl
theorem e_T_listedType_15 : ct_tab (T_T_listedType) 15 = some (o_iload 1 1) := rfl
theorem e_T_listedType_16 : ct_tab (T_T_listedType) 16 = some (o_push (.int 1) 1) := rfl
theorem e_T_listedType_17 : ct_tab (T_T_listedType) 17 = some (o_iload 2 1) := rfl
theorem e_T_listedType_18 : ct_tab (T_T_listedType) 18 = some (o_ii fun x y => x + y) := rfl
theorem e_T_listedType_22 : ct_tab (T_T_listedType) 22 = some (o_ic (fun x y => x < y) (fun x y => ¬ x < y) 27) := rfl
theorem e_T_listedType_25 : ct_tab (T_T_listedType) 25 = some (o_push (.long 0) 1) := rfl
theorem e_T_listedType_27 : ct_tab (T_T_listedType) 27 = some (o_aload 0 1) := rfl
theorem e_T_listedType_28 : ct_tab (T_T_listedType) 28 = some (o_getR 1 10 4) := rfl
theorem e_T_listedType_31 : ct_tab (T_T_listedType) 31 = some (o_aload 0 1) := rfl
theorem e_T_listedType_32 : ct_tab (T_T_listedType) 32 = some (o_iload 1 1) := rfl
theorem e_T_listedType_36 : ct_tab (T_T_listedType) 36 = some (o_iload 2 1) := rfl
theorem e_T_listedType_40 : ct_tab (T_T_listedType) 40 = some (o_iload 3 1) := rfl
theorem e_T_listedType_41 : ct_tab (T_T_listedType) 41 = some (o_ii fun x y => x + y) := rfl
theorem e_T_listedType_42 : ct_tab (T_T_listedType) 42 = some (o_lald) := rfl
theorem cl_T_listedType_19 {l : ct_Lx} {d d1 : Nat} {Post Post1 : Option Value → ct_Sg → Prop} {lv : ct_Lv} {st : List Value} {g : ct_Sg} {bc bs c1 s1 : Nat} {a1 a2 : Value} {h : Nat} (hsh : g.2.1 h = (10 + 1, 10)) (hM : ct_Me l M_T_functionFact d1 c1 s1 [.ref h, a1, a2] g Post1) (hdd : d1 + 1 ≤ d) (hk : (st.map fun v => v.category).sum ≤ 8) (hcc : c1 ≤ bc) (hss : s1 ≤ bs) (kk : ∀ (v : Option Value) (g' : ct_Sg), Post1 v g' → ct_Wp l M_T_listedType d Post (22, lv, v.toList ++ st, g', bc - c1, bs - s1)) : ct_Wp l M_T_listedType d Post (19, lv, a2 :: a1 :: .ref h :: st, g, bc, bs) := ct_Wp.callV (ci := 1) (N := 10) (T := ct_T1) (As := [a1, a2]) lk_T_functionFact (Or.inl wd_39) wd_40 wd_41 rfl d_T_listedType_19 hsh hM rfl hdd hk hcc hss kk
theorem cl_T_listedType_33 {l : ct_Lx} {d d1 : Nat} {Post Post1 : Option Value → ct_Sg → Prop} {lv : ct_Lv} {st : List Value} {g : ct_Sg} {bc bs c1 s1 : Nat} {a1 : Value} {h : Nat} (hsh : g.2.1 h = (10 + 1, 10)) (hM : ct_Me l M_T_slotOf d1 c1 s1 [.ref h, a1] g Post1) (hdd : d1 + 1 ≤ d) (hk : (st.map fun v => v.category).sum ≤ 8) (hcc : c1 ≤ bc) (hss : s1 ≤ bs) (kk : ∀ (v : Option Value) (g' : ct_Sg), Post1 v g' → ct_Wp l M_T_listedType d Post (36, lv, v.toList ++ st, g', bc - c1, bs - s1)) : ct_Wp l M_T_listedType d Post (33, lv, a1 :: .ref h :: st, g, bc, bs) := ct_Wp.callV (ci := 1) (N := 10) (T := ct_T1) (As := [a1]) lk_T_slotOf (Or.inl wd_34) wd_35 wd_36 rfl d_T_listedType_33 hsh hM rfl hdd hk hcc hss kk
theorem cl_T_listedType_37 {l : ct_Lx} {d d1 : Nat} {Post Post1 : Option Value → ct_Sg → Prop} {lv : ct_Lv} {st : List Value} {g : ct_Sg} {bc bs c1 s1 : Nat} {a1 a2 : Value} (hM : ct_Me l M_T_listStart d1 c1 s1 [a1, a2] g Post1) (hdd : d1 + 1 ≤ d) (hk : (st.map fun v => v.category).sum ≤ 8) (hcc : c1 ≤ bc) (hss : s1 ≤ bs) (kk : ∀ (v : Option Value) (g' : ct_Sg), Post1 v g' → ct_Wp l M_T_listedType d Post (40, lv, v.toList ++ st, g', bc - c1, bs - s1)) : ct_Wp l M_T_listedType d Post (37, lv, a2 :: a1 :: st, g, bc, bs) := ct_Wp.callS (As := [a1, a2]) lk_T_listStart (Or.inl wd_44) wd_45 d_T_listedType_37 hM rfl hdd hk hcc hss kk
theorem d_T_instructionAt_0 : decode prog_4_method_8_code 0 = .ok (.iload_n 1, 1) := by decide +kernel
theorem d_T_instructionAt_1 : decode prog_4_method_8_code 1 = .ok (.ifCond .lt 27, 3) := by decide +kernel
theorem d_T_instructionAt_4 : decode prog_4_method_8_code 4 = .ok (.iload_n 1, 1) := by decide +kernel
theorem d_T_instructionAt_5 : decode prog_4_method_8_code 5 = .ok (.aload_n 0, 1) := by decide +kernel
theorem d_T_instructionAt_6 : decode prog_4_method_8_code 6 = .ok (.getfield 11, 3) := by decide +kernel
theorem d_T_instructionAt_9 : decode prog_4_method_8_code 9 = .ok (.iconst 5, 1) := by decide +kernel
theorem d_T_instructionAt_10 : decode prog_4_method_8_code 10 = .ok (.iaload, 1) := by decide +kernel
theorem d_T_instructionAt_11 : decode prog_4_method_8_code 11 = .ok (.if_icmp .ge 17, 3) := by decide +kernel
theorem d_T_instructionAt_14 : decode prog_4_method_8_code 14 = .ok (.iload_n 2, 1) := by decide +kernel
theorem d_T_instructionAt_15 : decode prog_4_method_8_code 15 = .ok (.ifCond .lt 13, 3) := by decide +kernel
theorem d_T_instructionAt_18 : decode prog_4_method_8_code 18 = .ok (.iload_n 2, 1) := by decide +kernel
theorem d_T_instructionAt_19 : decode prog_4_method_8_code 19 = .ok (.aload_n 0, 1) := by decide +kernel
theorem d_T_instructionAt_20 : decode prog_4_method_8_code 20 = .ok (.iload_n 1, 1) := by decide +kernel
theorem d_T_instructionAt_21 : decode prog_4_method_8_code 21 = .ok (.iconst 4, 1) := by decide +kernel
theorem d_T_instructionAt_22 : decode prog_4_method_8_code 22 = .ok (.invokevirtual 59, 3) := by decide +kernel
theorem d_T_instructionAt_25 : decode prog_4_method_8_code 25 = .ok (.if_icmp .lt 5, 3) := by decide +kernel
theorem d_T_instructionAt_28 : decode prog_4_method_8_code 28 = .ok (.iconst (-1), 1) := by decide +kernel
theorem d_T_instructionAt_29 : decode prog_4_method_8_code 29 = .ok (.ireturn, 1) := by decide +kernel
theorem d_T_instructionAt_30 : decode prog_4_method_8_code 30 = .ok (.aload_n 0, 1) := by decide +kernel
theorem d_T_instructionAt_31 : decode prog_4_method_8_code 31 = .ok (.getfield 31, 3) := by decide +kernel
theorem d_T_instructionAt_34 : decode prog_4_method_8_code 34 = .ok (.iload_n 1, 1) := by decide +kernel
theorem d_T_instructionAt_35 : decode prog_4_method_8_code 35 = .ok (.iaload, 1) := by decide +kernel
theorem d_T_instructionAt_36 : decode prog_4_method_8_code 36 = .ok (.iload_n 2, 1) := by decide +kernel
theorem d_T_instructionAt_37 : decode prog_4_method_8_code 37 = .ok (.iadd, 1) := by decide +kernel
theorem d_T_instructionAt_38 : decode prog_4_method_8_code 38 = .ok (.ireturn, 1) := by decide +kernel
abbrev T_T_instructionAt : List (Nat × ct_PT) := [(0, o_iload 1 1), (1, o_if (fun x => x < 0) (fun x => ¬ x < 0) 28), (4, o_iload 1 1), (5, o_aload 0 1), (6, o_getR 1 10 0), (9, o_push (.int 5) 1), (10, o_iald), (11, o_ic (fun x y => y ≤ x) (fun x y => ¬ y ≤ x) 28), (14, o_iload 2 1), (15, o_if (fun x => x < 0) (fun x => ¬ x < 0) 28), (18, o_iload 2 1), (19, o_aload 0 1), (20, o_iload 1 1), (21, o_push (.int 4) 1), (25, o_ic (fun x y => x < y) (fun x y => ¬ x < y) 30), (28, o_push (.int (-1)) 1), (30, o_aload 0 1), (31, o_getR 1 10 6), (34, o_iload 1 1), (35, o_iald), (36, o_iload 2 1), (37, o_ii fun x y => x + y)]
set_option maxRecDepth 100000 in
theorem A_T_instructionAt (l : ct_Lx) : ct_al l M_T_instructionAt (T_T_instructionAt) := by
  refine ct_al.cons (so_iload_n d_T_instructionAt_0 rfl) ?_
  refine ct_al.cons (so_if_lt d_T_instructionAt_1 (by decide)) ?_
  refine ct_al.cons (so_iload_n d_T_instructionAt_4 rfl) ?_
  refine ct_al.cons (so_aload_n d_T_instructionAt_5 rfl) ?_
  refine ct_al.cons (so_getR (Cn := "CodeTables$Tables") (T := ct_T1) kc_1 (by decide) rfl rfl wd_4 d_T_instructionAt_6) ?_
  refine ct_al.cons (so_iconst d_T_instructionAt_9 (by decide)) ?_
  refine ct_al.cons (so_iald d_T_instructionAt_10) ?_
  refine ct_al.cons (so_ic_ge d_T_instructionAt_11 (by decide)) ?_
  refine ct_al.cons (so_iload_n d_T_instructionAt_14 rfl) ?_
  refine ct_al.cons (so_if_lt d_T_instructionAt_15 (by decide)) ?_
  refine ct_al.cons (so_iload_n d_T_instructionAt_18 rfl) ?_
  refine ct_al.cons (so_aload_n d_T_instructionAt_19 rfl) ?_
  refine ct_al.cons (so_iload_n d_T_instructionAt_20 rfl) ?_
  refine ct_al.cons (so_iconst d_T_instructionAt_21 (by decide)) ?_
  refine ct_al.cons (so_ic_lt d_T_instructionAt_25 (by decide)) ?_
  refine ct_al.cons (so_iconst d_T_instructionAt_28 (by decide)) ?_
  refine ct_al.cons (so_aload_n d_T_instructionAt_30 rfl) ?_
  refine ct_al.cons (so_getR (Cn := "CodeTables$Tables") (T := ct_T1) kc_1 (by decide) rfl rfl wd_11 d_T_instructionAt_31) ?_
  refine ct_al.cons (so_iload_n d_T_instructionAt_34 rfl) ?_
  refine ct_al.cons (so_iald d_T_instructionAt_35) ?_
  refine ct_al.cons (so_iload_n d_T_instructionAt_36 rfl) ?_
  refine ct_al.cons (so_iadd d_T_instructionAt_37) ?_
  exact ct_al.nil
theorem e_T_instructionAt_0 : ct_tab (T_T_instructionAt) 0 = some (o_iload 1 1) := rfl
theorem e_T_instructionAt_1 : ct_tab (T_T_instructionAt) 1 = some (o_if (fun x => x < 0) (fun x => ¬ x < 0) 28) := rfl
theorem e_T_instructionAt_4 : ct_tab (T_T_instructionAt) 4 = some (o_iload 1 1) := rfl
theorem e_T_instructionAt_5 : ct_tab (T_T_instructionAt) 5 = some (o_aload 0 1) := rfl
theorem e_T_instructionAt_6 : ct_tab (T_T_instructionAt) 6 = some (o_getR 1 10 0) := rfl
theorem e_T_instructionAt_9 : ct_tab (T_T_instructionAt) 9 = some (o_push (.int 5) 1) := rfl
theorem e_T_instructionAt_10 : ct_tab (T_T_instructionAt) 10 = some (o_iald) := rfl
theorem e_T_instructionAt_11 : ct_tab (T_T_instructionAt) 11 = some (o_ic (fun x y => y ≤ x) (fun x y => ¬ y ≤ x) 28) := rfl
theorem e_T_instructionAt_14 : ct_tab (T_T_instructionAt) 14 = some (o_iload 2 1) := rfl
theorem e_T_instructionAt_15 : ct_tab (T_T_instructionAt) 15 = some (o_if (fun x => x < 0) (fun x => ¬ x < 0) 28) := rfl
theorem e_T_instructionAt_18 : ct_tab (T_T_instructionAt) 18 = some (o_iload 2 1) := rfl
theorem e_T_instructionAt_19 : ct_tab (T_T_instructionAt) 19 = some (o_aload 0 1) := rfl
theorem e_T_instructionAt_20 : ct_tab (T_T_instructionAt) 20 = some (o_iload 1 1) := rfl
theorem e_T_instructionAt_21 : ct_tab (T_T_instructionAt) 21 = some (o_push (.int 4) 1) := rfl
theorem e_T_instructionAt_25 : ct_tab (T_T_instructionAt) 25 = some (o_ic (fun x y => x < y) (fun x y => ¬ x < y) 30) := rfl
theorem e_T_instructionAt_28 : ct_tab (T_T_instructionAt) 28 = some (o_push (.int (-1)) 1) := rfl
theorem e_T_instructionAt_30 : ct_tab (T_T_instructionAt) 30 = some (o_aload 0 1) := rfl
theorem e_T_instructionAt_31 : ct_tab (T_T_instructionAt) 31 = some (o_getR 1 10 6) := rfl
theorem e_T_instructionAt_34 : ct_tab (T_T_instructionAt) 34 = some (o_iload 1 1) := rfl
theorem e_T_instructionAt_35 : ct_tab (T_T_instructionAt) 35 = some (o_iald) := rfl
theorem e_T_instructionAt_36 : ct_tab (T_T_instructionAt) 36 = some (o_iload 2 1) := rfl
theorem e_T_instructionAt_37 : ct_tab (T_T_instructionAt) 37 = some (o_ii fun x y => x + y) := rfl
theorem cl_T_instructionAt_22 {l : ct_Lx} {d d1 : Nat} {Post Post1 : Option Value → ct_Sg → Prop} {lv : ct_Lv} {st : List Value} {g : ct_Sg} {bc bs c1 s1 : Nat} {a1 a2 : Value} {h : Nat} (hsh : g.2.1 h = (10 + 1, 10)) (hM : ct_Me l M_T_functionFact d1 c1 s1 [.ref h, a1, a2] g Post1) (hdd : d1 + 1 ≤ d) (hk : (st.map fun v => v.category).sum ≤ 8) (hcc : c1 ≤ bc) (hss : s1 ≤ bs) (kk : ∀ (v : Option Value) (g' : ct_Sg), Post1 v g' → ct_Wp l M_T_instructionAt d Post (25, lv, v.toList ++ st, g', bc - c1, bs - s1)) : ct_Wp l M_T_instructionAt d Post (22, lv, a2 :: a1 :: .ref h :: st, g, bc, bs) := ct_Wp.callV (ci := 1) (N := 10) (T := ct_T1) (As := [a1, a2]) lk_T_functionFact (Or.inl wd_39) wd_40 wd_41 rfl d_T_instructionAt_22 hsh hM rfl hdd hk hcc hss kk
theorem d_T_slotOf_0 : decode prog_4_method_9_code 0 = .ok (.iload_n 1, 1) := by decide +kernel
theorem d_T_slotOf_1 : decode prog_4_method_9_code 1 = .ok (.aload_n 0, 1) := by decide +kernel
theorem d_T_slotOf_2 : decode prog_4_method_9_code 2 = .ok (.getfield 11, 3) := by decide +kernel
theorem d_T_slotOf_5 : decode prog_4_method_9_code 5 = .ok (.iconst 5, 1) := by decide +kernel
theorem d_T_slotOf_6 : decode prog_4_method_9_code 6 = .ok (.iaload, 1) := by decide +kernel
theorem d_T_slotOf_7 : decode prog_4_method_9_code 7 = .ok (.if_icmp .ge 7, 3) := by decide +kernel
theorem d_T_slotOf_10 : decode prog_4_method_9_code 10 = .ok (.iload_n 1, 1) := by decide +kernel
theorem d_T_slotOf_11 : decode prog_4_method_9_code 11 = .ok (.goto 14, 3) := by decide +kernel
theorem d_T_slotOf_14 : decode prog_4_method_9_code 14 = .ok (.iload_n 1, 1) := by decide +kernel
theorem d_T_slotOf_15 : decode prog_4_method_9_code 15 = .ok (.aload_n 0, 1) := by decide +kernel
theorem d_T_slotOf_16 : decode prog_4_method_9_code 16 = .ok (.getfield 11, 3) := by decide +kernel
theorem d_T_slotOf_19 : decode prog_4_method_9_code 19 = .ok (.iconst 5, 1) := by decide +kernel
theorem d_T_slotOf_20 : decode prog_4_method_9_code 20 = .ok (.iaload, 1) := by decide +kernel
theorem d_T_slotOf_21 : decode prog_4_method_9_code 21 = .ok (.isub, 1) := by decide +kernel
theorem d_T_slotOf_22 : decode prog_4_method_9_code 22 = .ok (.bipush 64, 2) := by decide +kernel
theorem d_T_slotOf_24 : decode prog_4_method_9_code 24 = .ok (.iadd, 1) := by decide +kernel
theorem d_T_slotOf_25 : decode prog_4_method_9_code 25 = .ok (.ireturn, 1) := by decide +kernel
abbrev T_T_slotOf : List (Nat × ct_PT) := [(0, o_iload 1 1), (1, o_aload 0 1), (2, o_getR 1 10 0), (5, o_push (.int 5) 1), (6, o_iald), (7, o_ic (fun x y => y ≤ x) (fun x y => ¬ y ≤ x) 14), (10, o_iload 1 1), (11, o_goto 25), (14, o_iload 1 1), (15, o_aload 0 1), (16, o_getR 1 10 0), (19, o_push (.int 5) 1), (20, o_iald), (21, o_ii fun x y => x - y), (22, o_push (.int 64) 2), (24, o_ii fun x y => x + y)]
set_option maxRecDepth 100000 in
theorem A_T_slotOf (l : ct_Lx) : ct_al l M_T_slotOf (T_T_slotOf) := by
  refine ct_al.cons (so_iload_n d_T_slotOf_0 rfl) ?_
  refine ct_al.cons (so_aload_n d_T_slotOf_1 rfl) ?_
  refine ct_al.cons (so_getR (Cn := "CodeTables$Tables") (T := ct_T1) kc_1 (by decide) rfl rfl wd_4 d_T_slotOf_2) ?_
  refine ct_al.cons (so_iconst d_T_slotOf_5 (by decide)) ?_
  refine ct_al.cons (so_iald d_T_slotOf_6) ?_
  refine ct_al.cons (so_ic_ge d_T_slotOf_7 (by decide)) ?_
  refine ct_al.cons (so_iload_n d_T_slotOf_10 rfl) ?_
  refine ct_al.cons (so_goto d_T_slotOf_11 (by decide)) ?_
  refine ct_al.cons (so_iload_n d_T_slotOf_14 rfl) ?_
  refine ct_al.cons (so_aload_n d_T_slotOf_15 rfl) ?_
  refine ct_al.cons (so_getR (Cn := "CodeTables$Tables") (T := ct_T1) kc_1 (by decide) rfl rfl wd_4 d_T_slotOf_16) ?_
  refine ct_al.cons (so_iconst d_T_slotOf_19 (by decide)) ?_
  refine ct_al.cons (so_iald d_T_slotOf_20) ?_
  refine ct_al.cons (so_isub d_T_slotOf_21) ?_
  refine ct_al.cons (so_bipush d_T_slotOf_22 (by decide)) ?_
  refine ct_al.cons (so_iadd d_T_slotOf_24) ?_
  exact ct_al.nil
theorem e_T_slotOf_0 : ct_tab (T_T_slotOf) 0 = some (o_iload 1 1) := rfl
theorem e_T_slotOf_1 : ct_tab (T_T_slotOf) 1 = some (o_aload 0 1) := rfl
theorem e_T_slotOf_2 : ct_tab (T_T_slotOf) 2 = some (o_getR 1 10 0) := rfl
theorem e_T_slotOf_5 : ct_tab (T_T_slotOf) 5 = some (o_push (.int 5) 1) := rfl
theorem e_T_slotOf_6 : ct_tab (T_T_slotOf) 6 = some (o_iald) := rfl
theorem e_T_slotOf_7 : ct_tab (T_T_slotOf) 7 = some (o_ic (fun x y => y ≤ x) (fun x y => ¬ y ≤ x) 14) := rfl
theorem e_T_slotOf_10 : ct_tab (T_T_slotOf) 10 = some (o_iload 1 1) := rfl
theorem e_T_slotOf_11 : ct_tab (T_T_slotOf) 11 = some (o_goto 25) := rfl
theorem e_T_slotOf_14 : ct_tab (T_T_slotOf) 14 = some (o_iload 1 1) := rfl
theorem e_T_slotOf_15 : ct_tab (T_T_slotOf) 15 = some (o_aload 0 1) := rfl
theorem e_T_slotOf_16 : ct_tab (T_T_slotOf) 16 = some (o_getR 1 10 0) := rfl
theorem e_T_slotOf_19 : ct_tab (T_T_slotOf) 19 = some (o_push (.int 5) 1) := rfl
theorem e_T_slotOf_20 : ct_tab (T_T_slotOf) 20 = some (o_iald) := rfl
theorem e_T_slotOf_21 : ct_tab (T_T_slotOf) 21 = some (o_ii fun x y => x - y) := rfl
theorem e_T_slotOf_22 : ct_tab (T_T_slotOf) 22 = some (o_push (.int 64) 2) := rfl
theorem e_T_slotOf_24 : ct_tab (T_T_slotOf) 24 = some (o_ii fun x y => x + y) := rfl
theorem d_T_listStart_0 : decode prog_4_method_10_code 0 = .ok (.iload_n 0, 1) := by decide +kernel
theorem d_T_listStart_1 : decode prog_4_method_10_code 1 = .ok (.bipush 48, 2) := by decide +kernel
theorem d_T_listStart_3 : decode prog_4_method_10_code 3 = .ok (.imul, 1) := by decide +kernel
theorem d_T_listStart_4 : decode prog_4_method_10_code 4 = .ok (.iload_n 1, 1) := by decide +kernel
theorem d_T_listStart_5 : decode prog_4_method_10_code 5 = .ok (.bipush 8, 2) := by decide +kernel
theorem d_T_listStart_7 : decode prog_4_method_10_code 7 = .ok (.imul, 1) := by decide +kernel
theorem d_T_listStart_8 : decode prog_4_method_10_code 8 = .ok (.iadd, 1) := by decide +kernel
theorem d_T_listStart_9 : decode prog_4_method_10_code 9 = .ok (.ireturn, 1) := by decide +kernel
abbrev T_T_listStart : List (Nat × ct_PT) := [(0, o_iload 0 1), (1, o_push (.int 48) 2), (3, o_ii fun x y => x * y), (4, o_iload 1 1), (5, o_push (.int 8) 2), (7, o_ii fun x y => x * y), (8, o_ii fun x y => x + y)]
set_option maxRecDepth 100000 in
theorem A_T_listStart (l : ct_Lx) : ct_al l M_T_listStart (T_T_listStart) := by
  refine ct_al.cons (so_iload_n d_T_listStart_0 rfl) ?_
  refine ct_al.cons (so_bipush d_T_listStart_1 (by decide)) ?_
  refine ct_al.cons (so_imul d_T_listStart_3) ?_
  refine ct_al.cons (so_iload_n d_T_listStart_4 rfl) ?_
  refine ct_al.cons (so_bipush d_T_listStart_5 (by decide)) ?_
  refine ct_al.cons (so_imul d_T_listStart_7) ?_
  refine ct_al.cons (so_iadd d_T_listStart_8) ?_
  exact ct_al.nil
theorem e_T_listStart_0 : ct_tab (T_T_listStart) 0 = some (o_iload 0 1) := rfl
theorem e_T_listStart_1 : ct_tab (T_T_listStart) 1 = some (o_push (.int 48) 2) := rfl
theorem e_T_listStart_3 : ct_tab (T_T_listStart) 3 = some (o_ii fun x y => x * y) := rfl
theorem e_T_listStart_4 : ct_tab (T_T_listStart) 4 = some (o_iload 1 1) := rfl
theorem e_T_listStart_5 : ct_tab (T_T_listStart) 5 = some (o_push (.int 8) 2) := rfl
theorem e_T_listStart_7 : ct_tab (T_T_listStart) 7 = some (o_ii fun x y => x * y) := rfl
theorem e_T_listStart_8 : ct_tab (T_T_listStart) 8 = some (o_ii fun x y => x + y) := rfl
