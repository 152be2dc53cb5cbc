theorem d_X_init_0 : decode prog_1_method_1_code 0 = .ok (.aload_n 0, 1) := by decide +kernel
theorem d_X_init_1 : decode prog_1_method_1_code 1 = .ok (.invokespecial 1, 3) := by decide +kernel
theorem d_X_init_4 : decode prog_1_method_1_code 4 = .ok (.aload_n 0, 1) := by decide +kernel
theorem d_X_init_5 : decode prog_1_method_1_code 5 = .ok (.sipush 4096, 3) := by decide +kernel
theorem d_X_init_8 : decode prog_1_method_1_code 8 = .ok (.newarray .byte, 2) := by decide +kernel
theorem d_X_init_10 : decode prog_1_method_1_code 10 = .ok (.putfield 9, 3) := by decide +kernel
theorem d_X_init_13 : decode prog_1_method_1_code 13 = .ok (.aload_n 0, 1) := by decide +kernel
theorem d_X_init_14 : decode prog_1_method_1_code 14 = .ok (.iconst 0, 1) := by decide +kernel
theorem d_X_init_15 : decode prog_1_method_1_code 15 = .ok (.putfield 13, 3) := by decide +kernel
theorem d_X_init_18 : decode prog_1_method_1_code 18 = .ok (.aload_n 0, 1) := by decide +kernel
theorem d_X_init_19 : decode prog_1_method_1_code 19 = .ok (.iconst 0, 1) := by decide +kernel
theorem d_X_init_20 : decode prog_1_method_1_code 20 = .ok (.putfield 17, 3) := by decide +kernel
theorem d_X_init_23 : decode prog_1_method_1_code 23 = .ok (.aload_n 0, 1) := by decide +kernel
theorem d_X_init_24 : decode prog_1_method_1_code 24 = .ok (.iconst 0, 1) := by decide +kernel
theorem d_X_init_25 : decode prog_1_method_1_code 25 = .ok (.putfield 20, 3) := by decide +kernel
theorem d_X_init_28 : decode prog_1_method_1_code 28 = .ok (.aload_n 0, 1) := by decide +kernel
theorem d_X_init_29 : decode prog_1_method_1_code 29 = .ok (.new 24, 3) := by decide +kernel
theorem d_X_init_32 : decode prog_1_method_1_code 32 = .ok (.dup, 1) := by decide +kernel
theorem d_X_init_33 : decode prog_1_method_1_code 33 = .ok (.invokespecial 26, 3) := by decide +kernel
theorem d_X_init_36 : decode prog_1_method_1_code 36 = .ok (.putfield 27, 3) := by decide +kernel
theorem d_X_init_39 : decode prog_1_method_1_code 39 = .ok (.aload_n 0, 1) := by decide +kernel
theorem d_X_init_40 : decode prog_1_method_1_code 40 = .ok (.new 31, 3) := by decide +kernel
theorem d_X_init_43 : decode prog_1_method_1_code 43 = .ok (.dup, 1) := by decide +kernel
theorem d_X_init_44 : decode prog_1_method_1_code 44 = .ok (.aload_n 0, 1) := by decide +kernel
theorem d_X_init_45 : decode prog_1_method_1_code 45 = .ok (.getfield 27, 3) := by decide +kernel
theorem d_X_init_48 : decode prog_1_method_1_code 48 = .ok (.invokespecial 33, 3) := by decide +kernel
theorem d_X_init_51 : decode prog_1_method_1_code 51 = .ok (.putfield 36, 3) := by decide +kernel
theorem d_X_init_54 : decode prog_1_method_1_code 54 = .ok (.aload_n 0, 1) := by decide +kernel
theorem d_X_init_55 : decode prog_1_method_1_code 55 = .ok (.new 40, 3) := by decide +kernel
theorem d_X_init_58 : decode prog_1_method_1_code 58 = .ok (.dup, 1) := by decide +kernel
theorem d_X_init_59 : decode prog_1_method_1_code 59 = .ok (.aload_n 0, 1) := by decide +kernel
theorem d_X_init_60 : decode prog_1_method_1_code 60 = .ok (.getfield 27, 3) := by decide +kernel
theorem d_X_init_63 : decode prog_1_method_1_code 63 = .ok (.invokespecial 42, 3) := by decide +kernel
theorem d_X_init_66 : decode prog_1_method_1_code 66 = .ok (.putfield 43, 3) := by decide +kernel
theorem d_X_init_69 : decode prog_1_method_1_code 69 = .ok (.return_, 1) := by decide +kernel
abbrev T_X_init : List (Nat × ct_PT) := [(0, o_aload 0 1), (1, o_oinit), (4, o_aload 0 1), (5, o_push (.int 4096) 3), (8, o_newa 2), (10, o_putR 0 7 0), (13, o_aload 0 1), (14, o_push (.int 0) 1), (15, o_putI 0 7 1), (18, o_aload 0 1), (19, o_push (.int 0) 1), (20, o_putI 0 7 2), (23, o_aload 0 1), (24, o_push (.int 0) 1), (25, o_putZ 0 7 3), (28, o_aload 0 1), (29, o_new 1 10), (32, o_dup), (36, o_putR 0 7 4), (39, o_aload 0 1), (40, o_new 2 9), (43, o_dup), (44, o_aload 0 1), (45, o_getR 0 7 4), (51, o_putR 0 7 5), (54, o_aload 0 1), (55, o_new 3 3), (58, o_dup), (59, o_aload 0 1), (60, o_getR 0 7 4), (66, o_putR 0 7 6)]
set_option maxRecDepth 100000 in
theorem A_X_init (l : ct_Lx) : ct_al l M_X_init (T_X_init) := by
  refine ct_al.cons (so_aload_n d_X_init_0 rfl) ?_
  refine ct_al.cons (so_oinit wd_271 wd_1 wd_2 d_X_init_1) ?_
  refine ct_al.cons (so_aload_n d_X_init_4 rfl) ?_
  refine ct_al.cons (so_sipush d_X_init_5 (by decide)) ?_
  refine ct_al.cons (so_newa (Or.inr (Or.inl ⟨rfl, rfl⟩)) rfl wd_12 d_X_init_8) ?_
  refine ct_al.cons (so_putR (Cn := "CodeTables") (T := ct_T0) kc_0 (by decide) (Or.inr ⟨_, rfl⟩) rfl (Or.inl rfl) wd_272 d_X_init_10) ?_
  refine ct_al.cons (so_aload_n d_X_init_13 rfl) ?_
  refine ct_al.cons (so_iconst d_X_init_14 (by decide)) ?_
  refine ct_al.cons (so_putI (Cn := "CodeTables") (T := ct_T0) kc_0 (by decide) rfl rfl (Or.inl rfl) wd_273 d_X_init_15) ?_
  refine ct_al.cons (so_aload_n d_X_init_18 rfl) ?_
  refine ct_al.cons (so_iconst d_X_init_19 (by decide)) ?_
  refine ct_al.cons (so_putI (Cn := "CodeTables") (T := ct_T0) kc_0 (by decide) rfl rfl (Or.inl rfl) wd_274 d_X_init_20) ?_
  refine ct_al.cons (so_aload_n d_X_init_23 rfl) ?_
  refine ct_al.cons (so_iconst d_X_init_24 (by decide)) ?_
  refine ct_al.cons (so_putZ (Cn := "CodeTables") (T := ct_T0) kc_0 (by decide) rfl rfl (Or.inl rfl) wd_275 d_X_init_25) ?_
  refine ct_al.cons (so_aload_n d_X_init_28 rfl) ?_
  refine ct_al.cons (so_new (Cn := "CodeTables$Tables") (T := ct_T1) kc_1 wd_276 wd_277 wd_17 (by decide) d_X_init_29) ?_
  refine ct_al.cons (so_dup d_X_init_32) ?_
  refine ct_al.cons (so_putR (Cn := "CodeTables") (T := ct_T0) kc_0 (by decide) (Or.inl ⟨_, rfl⟩) rfl (Or.inr ⟨rfl, rfl, rfl⟩) wd_281 d_X_init_36) ?_
  refine ct_al.cons (so_aload_n d_X_init_39 rfl) ?_
  refine ct_al.cons (so_new (Cn := "CodeTables$Reader") (T := ct_T2) kc_2 wd_282 wd_283 wd_57 (by decide) d_X_init_40) ?_
  refine ct_al.cons (so_dup d_X_init_43) ?_
  refine ct_al.cons (so_aload_n d_X_init_44 rfl) ?_
  refine ct_al.cons (so_getR (Cn := "CodeTables") (T := ct_T0) kc_0 (by decide) rfl rfl wd_281 d_X_init_45) ?_
  refine ct_al.cons (so_putR (Cn := "CodeTables") (T := ct_T0) kc_0 (by decide) (Or.inl ⟨_, rfl⟩) rfl (Or.inr ⟨rfl, rfl, rfl⟩) wd_288 d_X_init_51) ?_
  refine ct_al.cons (so_aload_n d_X_init_54 rfl) ?_
  refine ct_al.cons (so_new (Cn := "CodeTables$Writer") (T := ct_T3) kc_3 wd_289 wd_290 wd_200 (by decide) d_X_init_55) ?_
  refine ct_al.cons (so_dup d_X_init_58) ?_
  refine ct_al.cons (so_aload_n d_X_init_59 rfl) ?_
  refine ct_al.cons (so_getR (Cn := "CodeTables") (T := ct_T0) kc_0 (by decide) rfl rfl wd_281 d_X_init_60) ?_
  refine ct_al.cons (so_putR (Cn := "CodeTables") (T := ct_T0) kc_0 (by decide) (Or.inl ⟨_, rfl⟩) rfl (Or.inr ⟨rfl, rfl, rfl⟩) wd_295 d_X_init_66) ?_
  exact ct_al.nil
theorem e_X_init_0 : ct_tab (T_X_init) 0 = some (o_aload 0 1) := rfl
theorem e_X_init_1 : ct_tab (T_X_init) 1 = some (o_oinit) := rfl
theorem e_X_init_4 : ct_tab (T_X_init) 4 = some (o_aload 0 1) := rfl
theorem e_X_init_5 : ct_tab (T_X_init) 5 = some (o_push (.int 4096) 3) := rfl
theorem e_X_init_8 : ct_tab (T_X_init) 8 = some (o_newa 2) := rfl
theorem e_X_init_10 : ct_tab (T_X_init) 10 = some (o_putR 0 7 0) := rfl
theorem e_X_init_13 : ct_tab (T_X_init) 13 = some (o_aload 0 1) := rfl
theorem e_X_init_14 : ct_tab (T_X_init) 14 = some (o_push (.int 0) 1) := rfl
theorem e_X_init_15 : ct_tab (T_X_init) 15 = some (o_putI 0 7 1) := rfl
theorem e_X_init_18 : ct_tab (T_X_init) 18 = some (o_aload 0 1) := rfl
theorem e_X_init_19 : ct_tab (T_X_init) 19 = some (o_push (.int 0) 1) := rfl
theorem e_X_init_20 : ct_tab (T_X_init) 20 = some (o_putI 0 7 2) := rfl
theorem e_X_init_23 : ct_tab (T_X_init) 23 = some (o_aload 0 1) := rfl
theorem e_X_init_24 : ct_tab (T_X_init) 24 = some (o_push (.int 0) 1) := rfl
theorem e_X_init_25 : ct_tab (T_X_init) 25 = some (o_putZ 0 7 3) := rfl
theorem e_X_init_28 : ct_tab (T_X_init) 28 = some (o_aload 0 1) := rfl
theorem e_X_init_29 : ct_tab (T_X_init) 29 = some (o_new 1 10) := rfl
theorem e_X_init_32 : ct_tab (T_X_init) 32 = some (o_dup) := rfl
theorem e_X_init_36 : ct_tab (T_X_init) 36 = some (o_putR 0 7 4) := rfl
theorem e_X_init_39 : ct_tab (T_X_init) 39 = some (o_aload 0 1) := rfl
theorem e_X_init_40 : ct_tab (T_X_init) 40 = some (o_new 2 9) := rfl
theorem e_X_init_43 : ct_tab (T_X_init) 43 = some (o_dup) := rfl
theorem e_X_init_44 : ct_tab (T_X_init) 44 = some (o_aload 0 1) := rfl
theorem e_X_init_45 : ct_tab (T_X_init) 45 = some (o_getR 0 7 4) := rfl
theorem e_X_init_51 : ct_tab (T_X_init) 51 = some (o_putR 0 7 5) := rfl
theorem e_X_init_54 : ct_tab (T_X_init) 54 = some (o_aload 0 1) := rfl
theorem e_X_init_55 : ct_tab (T_X_init) 55 = some (o_new 3 3) := rfl
theorem e_X_init_58 : ct_tab (T_X_init) 58 = some (o_dup) := rfl
theorem e_X_init_59 : ct_tab (T_X_init) 59 = some (o_aload 0 1) := rfl
theorem e_X_init_60 : ct_tab (T_X_init) 60 = some (o_getR 0 7 4) := rfl
theorem e_X_init_66 : ct_tab (T_X_init) 66 = some (o_putR 0 7 6) := rfl
theorem cl_X_init_33 {l : ct_Lx} {d d1 : Nat} {Post Post1 : Option Value → ct_Sg → Prop} {lv : ct_Lv} {st : List Value} {g : ct_Sg} {bc bs c1 s1 : Nat} {h : Nat} (hM : ct_Me l M_T_init d1 c1 s1 [.ref h] g Post1) (hdd : d1 + 1 ≤ d) (hk : (st.map fun v => v.category).sum ≤ 8) (hcc : c1 ≤ bc) (hss : s1 ≤ bs) (kk : ∀ (v : Option Value) (g' : ct_Sg), Post1 v g' → ct_Wp l M_X_init d Post (36, lv, v.toList ++ st, g', bc - c1, bs - s1)) : ct_Wp l M_X_init d Post (33, lv, .ref h :: st, g, bc, bs) := ct_Wp.callI (As := []) lk_T_init (Or.inr ⟨"CodeTables", nw_4⟩) rfl rfl wd_280 d_X_init_33 hM rfl hdd hk hcc hss kk
theorem cl_X_init_48 {l : ct_Lx} {d d1 : Nat} {Post Post1 : Option Value → ct_Sg → Prop} {lv : ct_Lv} {st : List Value} {g : ct_Sg} {bc bs c1 s1 : Nat} {a1 : Value} {h : Nat} (hM : ct_Me l M_R_init d1 c1 s1 [.ref h, a1] g Post1) (hdd : d1 + 1 ≤ d) (hk : (st.map fun v => v.category).sum ≤ 8) (hcc : c1 ≤ bc) (hss : s1 ≤ bs) (kk : ∀ (v : Option Value) (g' : ct_Sg), Post1 v g' → ct_Wp l M_X_init d Post (51, lv, v.toList ++ st, g', bc - c1, bs - s1)) : ct_Wp l M_X_init d Post (48, lv, a1 :: .ref h :: st, g, bc, bs) := ct_Wp.callI (As := [a1]) lk_R_init (Or.inl wd_286) rfl rfl wd_287 d_X_init_48 hM rfl hdd hk hcc hss kk
theorem cl_X_init_63 {l : ct_Lx} {d d1 : Nat} {Post Post1 : Option Value → ct_Sg → Prop} {lv : ct_Lv} {st : List Value} {g : ct_Sg} {bc bs c1 s1 : Nat} {a1 : Value} {h : Nat} (hM : ct_Me l M_W_init d1 c1 s1 [.ref h, a1] g Post1) (hdd : d1 + 1 ≤ d) (hk : (st.map fun v => v.category).sum ≤ 8) (hcc : c1 ≤ bc) (hss : s1 ≤ bs) (kk : ∀ (v : Option Value) (g' : ct_Sg), Post1 v g' → ct_Wp l M_X_init d Post (66, lv, v.toList ++ st, g', bc - c1, bs - s1)) : ct_Wp l M_X_init d Post (63, lv, a1 :: .ref h :: st, g, bc, bs) := ct_Wp.callI (As := [a1]) lk_W_init (Or.inl wd_293) rfl rfl wd_294 d_X_init_63 hM rfl hdd hk hcc hss kk
theorem d_X_type_0 : decode prog_1_method_2_code 0 = .ok (.iload_n 3, 1) := by decide +kernel
theorem d_X_type_1 : decode prog_1_method_2_code 1 = .ok (.iconst 1, 1) := by decide +kernel
theorem d_X_type_2 : decode prog_1_method_2_code 2 = .ok (.if_icmp .lt 9, 3) := by decide +kernel
theorem d_X_type_5 : decode prog_1_method_2_code 5 = .ok (.iload_n 3, 1) := by decide +kernel
theorem d_X_type_6 : decode prog_1_method_2_code 6 = .ok (.bipush 8, 2) := by decide +kernel
theorem d_X_type_8 : decode prog_1_method_2_code 8 = .ok (.if_icmp .le 5, 3) := by decide +kernel
theorem d_X_type_11 : decode prog_1_method_2_code 11 = .ok (.iconst (-1), 1) := by decide +kernel
theorem d_X_type_12 : decode prog_1_method_2_code 12 = .ok (.ireturn, 1) := by decide +kernel
theorem d_X_type_13 : decode prog_1_method_2_code 13 = .ok (.aload_n 0, 1) := by decide +kernel
theorem d_X_type_14 : decode prog_1_method_2_code 14 = .ok (.getfield 13, 3) := by decide +kernel
theorem d_X_type_17 : decode prog_1_method_2_code 17 = .ok (.iload_n 3, 1) := by decide +kernel
theorem d_X_type_18 : decode prog_1_method_2_code 18 = .ok (.iadd, 1) := by decide +kernel
theorem d_X_type_19 : decode prog_1_method_2_code 19 = .ok (.ldc 47, 2) := by decide +kernel
theorem d_X_type_21 : decode prog_1_method_2_code 21 = .ok (.if_icmp .le 6, 3) := by decide +kernel
theorem d_X_type_24 : decode prog_1_method_2_code 24 = .ok (.bipush (-3), 2) := by decide +kernel
theorem d_X_type_26 : decode prog_1_method_2_code 26 = .ok (.ireturn, 1) := by decide +kernel
theorem d_X_type_27 : decode prog_1_method_2_code 27 = .ok (.aload_n 0, 1) := by decide +kernel
theorem d_X_type_28 : decode prog_1_method_2_code 28 = .ok (.aload_n 0, 1) := by decide +kernel
theorem d_X_type_29 : decode prog_1_method_2_code 29 = .ok (.getfield 9, 3) := by decide +kernel
theorem d_X_type_32 : decode prog_1_method_2_code 32 = .ok (.aload_n 0, 1) := by decide +kernel
theorem d_X_type_33 : decode prog_1_method_2_code 33 = .ok (.getfield 13, 3) := by decide +kernel
theorem d_X_type_36 : decode prog_1_method_2_code 36 = .ok (.iload_n 3, 1) := by decide +kernel
theorem d_X_type_37 : decode prog_1_method_2_code 37 = .ok (.iadd, 1) := by decide +kernel
theorem d_X_type_38 : decode prog_1_method_2_code 38 = .ok (.invokestatic 48, 3) := by decide +kernel
theorem d_X_type_41 : decode prog_1_method_2_code 41 = .ok (.putfield 9, 3) := by decide +kernel
theorem d_X_type_44 : decode prog_1_method_2_code 44 = .ok (.aload_n 0, 1) := by decide +kernel
theorem d_X_type_45 : decode prog_1_method_2_code 45 = .ok (.getfield 9, 3) := by decide +kernel
theorem d_X_type_48 : decode prog_1_method_2_code 48 = .ok (.aload_n 0, 1) := by decide +kernel
theorem d_X_type_49 : decode prog_1_method_2_code 49 = .ok (.getfield 13, 3) := by decide +kernel
theorem d_X_type_52 : decode prog_1_method_2_code 52 = .ok (.lload_n 1, 1) := by decide +kernel
theorem d_X_type_53 : decode prog_1_method_2_code 53 = .ok (.iload_n 3, 1) := by decide +kernel
theorem d_X_type_54 : decode prog_1_method_2_code 54 = .ok (.invokestatic 52, 3) := by decide +kernel
theorem d_X_type_57 : decode prog_1_method_2_code 57 = .ok (.aload_n 0, 1) := by decide +kernel
theorem d_X_type_58 : decode prog_1_method_2_code 58 = .ok (.dup, 1) := by decide +kernel
theorem d_X_type_59 : decode prog_1_method_2_code 59 = .ok (.getfield 13, 3) := by decide +kernel
theorem d_X_type_62 : decode prog_1_method_2_code 62 = .ok (.iload_n 3, 1) := by decide +kernel
theorem d_X_type_63 : decode prog_1_method_2_code 63 = .ok (.iadd, 1) := by decide +kernel
theorem d_X_type_64 : decode prog_1_method_2_code 64 = .ok (.putfield 13, 3) := by decide +kernel
theorem d_X_type_67 : decode prog_1_method_2_code 67 = .ok (.aload_n 0, 1) := by decide +kernel
theorem d_X_type_68 : decode prog_1_method_2_code 68 = .ok (.getfield 13, 3) := by decide +kernel
theorem d_X_type_71 : decode prog_1_method_2_code 71 = .ok (.ireturn, 1) := by decide +kernel
abbrev T_X_type : List (Nat × ct_PT) := [(0, o_iload 3 1), (1, o_push (.int 1) 1), (2, o_ic (fun x y => x < y) (fun x y => ¬ x < y) 11), (5, o_iload 3 1), (6, o_push (.int 8) 2), (8, o_ic (fun x y => x ≤ y) (fun x y => ¬ x ≤ y) 13), (11, o_push (.int (-1)) 1), (13, o_aload 0 1), (14, o_getI 0 7 1), (17, o_iload 3 1), (18, o_ii fun x y => x + y), (19, o_push (.int 65536) 2), (21, o_ic (fun x y => x ≤ y) (fun x y => ¬ x ≤ y) 27), (24, o_push (.int (-3)) 2), (27, o_aload 0 1), (28, o_aload 0 1), (29, o_getR 0 7 0), (32, o_aload 0 1), (33, o_getI 0 7 1), (36, o_iload 3 1), (37, o_ii fun x y => x + y), (41, o_putR 0 7 0), (44, o_aload 0 1), (45, o_getR 0 7 0), (48, o_aload 0 1), (49, o_getI 0 7 1), (52, o_lload 1 1), (53, o_iload 3 1), (57, o_aload 0 1), (58, o_dup), (59, o_getI 0 7 1), (62, o_iload 3 1), (63, o_ii fun x y => x + y), (64, o_putI 0 7 1), (67, o_aload 0 1), (68, o_getI 0 7 1)]
set_option maxRecDepth 100000 in
theorem A_X_type (l : ct_Lx) : ct_al l M_X_type (T_X_type) := by
  refine ct_al.cons (so_iload_n d_X_type_0 rfl) ?_
  refine ct_al.cons (so_iconst d_X_type_1 (by decide)) ?_
  refine ct_al.cons (so_ic_lt d_X_type_2 (by decide)) ?_
  refine ct_al.cons (so_iload_n d_X_type_5 rfl) ?_
  refine ct_al.cons (so_bipush d_X_type_6 (by decide)) ?_
  refine ct_al.cons (so_ic_le d_X_type_8 (by decide)) ?_
  refine ct_al.cons (so_iconst d_X_type_11 (by decide)) ?_
  refine ct_al.cons (so_aload_n d_X_type_13 rfl) ?_
  refine ct_al.cons (so_getI (Cn := "CodeTables") (T := ct_T0) kc_0 (by decide) rfl rfl wd_273 d_X_type_14) ?_
  refine ct_al.cons (so_iload_n d_X_type_17 rfl) ?_
  refine ct_al.cons (so_iadd d_X_type_18) ?_
  refine ct_al.cons (so_ldc wd_296 d_X_type_19) ?_
  refine ct_al.cons (so_ic_le d_X_type_21 (by decide)) ?_
  refine ct_al.cons (so_bipush d_X_type_24 (by decide)) ?_
  refine ct_al.cons (so_aload_n d_X_type_27 rfl) ?_
  refine ct_al.cons (so_aload_n d_X_type_28 rfl) ?_
  refine ct_al.cons (so_getR (Cn := "CodeTables") (T := ct_T0) kc_0 (by decide) rfl rfl wd_272 d_X_type_29) ?_
  refine ct_al.cons (so_aload_n d_X_type_32 rfl) ?_
  refine ct_al.cons (so_getI (Cn := "CodeTables") (T := ct_T0) kc_0 (by decide) rfl rfl wd_273 d_X_type_33) ?_
  refine ct_al.cons (so_iload_n d_X_type_36 rfl) ?_
  refine ct_al.cons (so_iadd d_X_type_37) ?_
  refine ct_al.cons (so_putR (Cn := "CodeTables") (T := ct_T0) kc_0 (by decide) (Or.inr ⟨_, rfl⟩) rfl (Or.inl rfl) wd_272 d_X_type_41) ?_
  refine ct_al.cons (so_aload_n d_X_type_44 rfl) ?_
  refine ct_al.cons (so_getR (Cn := "CodeTables") (T := ct_T0) kc_0 (by decide) rfl rfl wd_272 d_X_type_45) ?_
  refine ct_al.cons (so_aload_n d_X_type_48 rfl) ?_
  refine ct_al.cons (so_getI (Cn := "CodeTables") (T := ct_T0) kc_0 (by decide) rfl rfl wd_273 d_X_type_49) ?_
  refine ct_al.cons (so_lload_n d_X_type_52 rfl) ?_
  refine ct_al.cons (so_iload_n d_X_type_53 rfl) ?_
  refine ct_al.cons (so_aload_n d_X_type_57 rfl) ?_
  refine ct_al.cons (so_dup d_X_type_58) ?_
  refine ct_al.cons (so_getI (Cn := "CodeTables") (T := ct_T0) kc_0 (by decide) rfl rfl wd_273 d_X_type_59) ?_
  refine ct_al.cons (so_iload_n d_X_type_62 rfl) ?_
  refine ct_al.cons (so_iadd d_X_type_63) ?_
  refine ct_al.cons (so_putI (Cn := "CodeTables") (T := ct_T0) kc_0 (by decide) rfl rfl (Or.inl rfl) wd_273 d_X_type_64) ?_
  refine ct_al.cons (so_aload_n d_X_type_67 rfl) ?_
  refine ct_al.cons (so_getI (Cn := "CodeTables") (T := ct_T0) kc_0 (by decide) rfl rfl wd_273 d_X_type_68) ?_
  exact ct_al.nil
theorem e_X_type_0 : ct_tab (T_X_type) 0 = some (o_iload 3 1) := rfl
theorem e_X_type_1 : ct_tab (T_X_type) 1 = some (o_push (.int 1) 1) := rfl
theorem e_X_type_2 : ct_tab (T_X_type) 2 = some (o_ic (fun x y => x < y) (fun x y => ¬ x < y) 11) := rfl
theorem e_X_type_5 : ct_tab (T_X_type) 5 = some (o_iload 3 1) := rfl
theorem e_X_type_6 : ct_tab (T_X_type) 6 = some (o_push (.int 8) 2) := rfl
theorem e_X_type_8 : ct_tab (T_X_type) 8 = some (o_ic (fun x y => x ≤ y) (fun x y => ¬ x ≤ y) 13) := rfl
theorem e_X_type_11 : ct_tab (T_X_type) 11 = some (o_push (.int (-1)) 1) := rfl
theorem e_X_type_13 : ct_tab (T_X_type) 13 = some (o_aload 0 1) := rfl
theorem e_X_type_14 : ct_tab (T_X_type) 14 = some (o_getI 0 7 1) := rfl
theorem e_X_type_17 : ct_tab (T_X_type) 17 = some (o_iload 3 1) := rfl
theorem e_X_type_18 : ct_tab (T_X_type) 18 = some (o_ii fun x y => x + y) := rfl
theorem e_X_type_19 : ct_tab (T_X_type) 19 = some (o_push (.int 65536) 2) := rfl
theorem e_X_type_21 : ct_tab (T_X_type) 21 = some (o_ic (fun x y => x ≤ y) (fun x y => ¬ x ≤ y) 27) := rfl
theorem e_X_type_24 : ct_tab (T_X_type) 24 = some (o_push (.int (-3)) 2) := rfl
theorem e_X_type_27 : ct_tab (T_X_type) 27 = some (o_aload 0 1) := rfl
theorem e_X_type_28 : ct_tab (T_X_type) 28 = some (o_aload 0 1) := rfl
theorem e_X_type_29 : ct_tab (T_X_type) 29 = some (o_getR 0 7 0) := rfl
theorem e_X_type_32 : ct_tab (T_X_type) 32 = some (o_aload 0 1) := rfl
theorem e_X_type_33 : ct_tab (T_X_type) 33 = some (o_getI 0 7 1) := rfl
theorem e_X_type_36 : ct_tab (T_X_type) 36 = some (o_iload 3 1) := rfl
theorem e_X_type_37 : ct_tab (T_X_type) 37 = some (o_ii fun x y => x + y) := rfl
theorem e_X_type_41 : ct_tab (T_X_type) 41 = some (o_putR 0 7 0) := rfl
theorem e_X_type_44 : ct_tab (T_X_type) 44 = some (o_aload 0 1) := rfl
theorem e_X_type_45 : ct_tab (T_X_type) 45 = some (o_getR 0 7 0) := rfl
theorem e_X_type_48 : ct_tab (T_X_type) 48 = some (o_aload 0 1) := rfl
theorem e_X_type_49 : ct_tab (T_X_type) 49 = some (o_getI 0 7 1) := rfl
theorem e_X_type_52 : ct_tab (T_X_type) 52 = some (o_lload 1 1) := rfl
theorem e_X_type_53 : ct_tab (T_X_type) 53 = some (o_iload 3 1) := rfl
theorem e_X_type_57 : ct_tab (T_X_type) 57 = some (o_aload 0 1) := rfl
theorem e_X_type_58 : ct_tab (T_X_type) 58 = some (o_dup) := rfl
theorem e_X_type_59 : ct_tab (T_X_type) 59 = some (o_getI 0 7 1) := rfl
theorem e_X_type_62 : ct_tab (T_X_type) 62 = some (o_iload 3 1) := rfl
theorem e_X_type_63 : ct_tab (T_X_type) 63 = some (o_ii fun x y => x + y) := rfl
theorem e_X_type_64 : ct_tab (T_X_type) 64 = some (o_putI 0 7 1) := rfl
theorem e_X_type_67 : ct_tab (T_X_type) 67 = some (o_aload 0 1) := rfl
theorem e_X_type_68 : ct_tab (T_X_type) 68 = some (o_getI 0 7 1) := rfl
theorem cl_X_type_38 {l : ct_Lx} {d d1 : Nat} {Post Post1 : Option Value → ct_Sg → Prop} {lv : ct_Lv} {st : List Value} {g : ct_Sg} {bc bs c1 s1 : Nat} {a1 a2 : Value} (hM : ct_Me l M_X_withRoom d1 c1 s1 [a1, a2] g Post1) (hdd : d1 + 1 ≤ d) (hk : (st.map fun v => v.category).sum ≤ 8) (hcc : c1 ≤ bc) (hss : s1 ≤ bs) (kk : ∀ (v : Option Value) (g' : ct_Sg), Post1 v g' → ct_Wp l M_X_type d Post (41, lv, v.toList ++ st, g', bc - c1, bs - s1)) : ct_Wp l M_X_type d Post (38, lv, a2 :: a1 :: st, g, bc, bs) := ct_Wp.callS (As := [a1, a2]) lk_X_withRoom (Or.inl wd_297) wd_267 d_X_type_38 hM rfl hdd hk hcc hss kk
theorem cl_X_type_54 {l : ct_Lx} {d d1 : Nat} {Post Post1 : Option Value → ct_Sg → Prop} {lv : ct_Lv} {st : List Value} {g : ct_Sg} {bc bs c1 s1 : Nat} {a1 a2 a3 a4 : Value} (hM : ct_Me l M_X_putBytes d1 c1 s1 [a1, a2, a3, a4] g Post1) (hdd : d1 + 1 ≤ d) (hk : (st.map fun v => v.category).sum ≤ 8) (hcc : c1 ≤ bc) (hss : s1 ≤ bs) (kk : ∀ (v : Option Value) (g' : ct_Sg), Post1 v g' → ct_Wp l M_X_type d Post (57, lv, v.toList ++ st, g', bc - c1, bs - s1)) : ct_Wp l M_X_type d Post (54, lv, a4 :: a3 :: a2 :: a1 :: st, g, bc, bs) := ct_Wp.callS (As := [a1, a2, a3, a4]) lk_X_putBytes (Or.inl wd_298) wd_270 d_X_type_54 hM rfl hdd hk hcc hss kk
theorem d_X_read_0 : decode prog_1_method_3_code 0 = .ok (.aload_n 0, 1) := by decide +kernel
theorem d_X_read_1 : decode prog_1_method_3_code 1 = .ok (.getfield 36, 3) := by decide +kernel
theorem d_X_read_4 : decode prog_1_method_3_code 4 = .ok (.aload_n 0, 1) := by decide +kernel
theorem d_X_read_5 : decode prog_1_method_3_code 5 = .ok (.getfield 9, 3) := by decide +kernel
theorem d_X_read_8 : decode prog_1_method_3_code 8 = .ok (.aload_n 0, 1) := by decide +kernel
theorem d_X_read_9 : decode prog_1_method_3_code 9 = .ok (.getfield 13, 3) := by decide +kernel
theorem d_X_read_12 : decode prog_1_method_3_code 12 = .ok (.invokevirtual 56, 3) := by decide +kernel
theorem d_X_read_15 : decode prog_1_method_3_code 15 = .ok (.aload_n 0, 1) := by decide +kernel
theorem d_X_read_16 : decode prog_1_method_3_code 16 = .ok (.getfield 36, 3) := by decide +kernel
theorem d_X_read_19 : decode prog_1_method_3_code 19 = .ok (.iconst 0, 1) := by decide +kernel
theorem d_X_read_20 : decode prog_1_method_3_code 20 = .ok (.invokevirtual 60, 3) := by decide +kernel
theorem d_X_read_23 : decode prog_1_method_3_code 23 = .ok (.aload_n 0, 1) := by decide +kernel
theorem d_X_read_24 : decode prog_1_method_3_code 24 = .ok (.getfield 36, 3) := by decide +kernel
theorem d_X_read_27 : decode prog_1_method_3_code 27 = .ok (.iconst 1, 1) := by decide +kernel
theorem d_X_read_28 : decode prog_1_method_3_code 28 = .ok (.invokevirtual 60, 3) := by decide +kernel
theorem d_X_read_31 : decode prog_1_method_3_code 31 = .ok (.aload_n 0, 1) := by decide +kernel
theorem d_X_read_32 : decode prog_1_method_3_code 32 = .ok (.getfield 36, 3) := by decide +kernel
theorem d_X_read_35 : decode prog_1_method_3_code 35 = .ok (.invokevirtual 64, 3) := by decide +kernel
theorem d_X_read_38 : decode prog_1_method_3_code 38 = .ok (.aload_n 0, 1) := by decide +kernel
theorem d_X_read_39 : decode prog_1_method_3_code 39 = .ok (.aload_n 0, 1) := by decide +kernel
theorem d_X_read_40 : decode prog_1_method_3_code 40 = .ok (.getfield 36, 3) := by decide +kernel
theorem d_X_read_43 : decode prog_1_method_3_code 43 = .ok (.getfield 67, 3) := by decide +kernel
theorem d_X_read_46 : decode prog_1_method_3_code 46 = .ok (.putfield 17, 3) := by decide +kernel
theorem d_X_read_49 : decode prog_1_method_3_code 49 = .ok (.aload_n 0, 1) := by decide +kernel
theorem d_X_read_50 : decode prog_1_method_3_code 50 = .ok (.aload_n 0, 1) := by decide +kernel
theorem d_X_read_51 : decode prog_1_method_3_code 51 = .ok (.getfield 36, 3) := by decide +kernel
theorem d_X_read_54 : decode prog_1_method_3_code 54 = .ok (.getfield 70, 3) := by decide +kernel
theorem d_X_read_57 : decode prog_1_method_3_code 57 = .ok (.ifCond .ne 7, 3) := by decide +kernel
theorem d_X_read_60 : decode prog_1_method_3_code 60 = .ok (.iconst 1, 1) := by decide +kernel
theorem d_X_read_61 : decode prog_1_method_3_code 61 = .ok (.goto 4, 3) := by decide +kernel
theorem d_X_read_64 : decode prog_1_method_3_code 64 = .ok (.iconst 0, 1) := by decide +kernel
theorem d_X_read_65 : decode prog_1_method_3_code 65 = .ok (.putfield 20, 3) := by decide +kernel
theorem d_X_read_68 : decode prog_1_method_3_code 68 = .ok (.aload_n 0, 1) := by decide +kernel
theorem d_X_read_69 : decode prog_1_method_3_code 69 = .ok (.iconst 0, 1) := by decide +kernel
theorem d_X_read_70 : decode prog_1_method_3_code 70 = .ok (.putfield 13, 3) := by decide +kernel
theorem d_X_read_73 : decode prog_1_method_3_code 73 = .ok (.aload_n 0, 1) := by decide +kernel
theorem d_X_read_74 : decode prog_1_method_3_code 74 = .ok (.getfield 36, 3) := by decide +kernel
theorem d_X_read_77 : decode prog_1_method_3_code 77 = .ok (.getfield 70, 3) := by decide +kernel
theorem d_X_read_80 : decode prog_1_method_3_code 80 = .ok (.ineg, 1) := by decide +kernel
theorem d_X_read_81 : decode prog_1_method_3_code 81 = .ok (.ireturn, 1) := by decide +kernel
abbrev T_X_read : List (Nat × ct_PT) := [(0, o_aload 0 1), (1, o_getR 0 7 5), (4, o_aload 0 1), (5, o_getR 0 7 0), (8, o_aload 0 1), (9, o_getI 0 7 1), (15, o_aload 0 1), (16, o_getR 0 7 5), (19, o_push (.int 0) 1), (23, o_aload 0 1), (24, o_getR 0 7 5), (27, o_push (.int 1) 1), (31, o_aload 0 1), (32, o_getR 0 7 5), (38, o_aload 0 1), (39, o_aload 0 1), (40, o_getR 0 7 5), (43, o_getI 2 9 8), (46, o_putI 0 7 2), (49, o_aload 0 1), (50, o_aload 0 1), (51, o_getR 0 7 5), (54, o_getI 2 9 7), (57, o_if (fun x => ¬ x = 0) (fun x => x = 0) 64), (60, o_push (.int 1) 1), (61, o_goto 65), (64, o_push (.int 0) 1), (65, o_putZ 0 7 3), (68, o_aload 0 1), (69, o_push (.int 0) 1), (70, o_putI 0 7 1), (73, o_aload 0 1), (74, o_getR 0 7 5), (77, o_getI 2 9 7), (80, o_i1 fun x => -x)]
set_option maxRecDepth 100000 in
theorem A_X_read (l : ct_Lx) : ct_al l M_X_read (T_X_read) := by
  refine ct_al.cons (so_aload_n d_X_read_0 rfl) ?_
  refine ct_al.cons (so_getR (Cn := "CodeTables") (T := ct_T0) kc_0 (by decide) rfl rfl wd_288 d_X_read_1) ?_
  refine ct_al.cons (so_aload_n d_X_read_4 rfl) ?_
  refine ct_al.cons (so_getR (Cn := "CodeTables") (T := ct_T0) kc_0 (by decide) rfl rfl wd_272 d_X_read_5) ?_
  refine ct_al.cons (so_aload_n d_X_read_8 rfl) ?_
  refine ct_al.cons (so_getI (Cn := "CodeTables") (T := ct_T0) kc_0 (by decide) rfl rfl wd_273 d_X_read_9) ?_
  refine ct_al.cons (so_aload_n d_X_read_15 rfl) ?_
  refine ct_al.cons (so_getR (Cn := "CodeTables") (T := ct_T0) kc_0 (by decide) rfl rfl wd_288 d_X_read_16) ?_
  refine ct_al.cons (so_iconst d_X_read_19 (by decide)) ?_
  refine ct_al.cons (so_aload_n d_X_read_23 rfl) ?_
  refine ct_al.cons (so_getR (Cn := "CodeTables") (T := ct_T0) kc_0 (by decide) rfl rfl wd_288 d_X_read_24) ?_
  refine ct_al.cons (so_iconst d_X_read_27 (by decide)) ?_
  refine ct_al.cons (so_aload_n d_X_read_31 rfl) ?_
  refine ct_al.cons (so_getR (Cn := "CodeTables") (T := ct_T0) kc_0 (by decide) rfl rfl wd_288 d_X_read_32) ?_
  refine ct_al.cons (so_aload_n d_X_read_38 rfl) ?_
  refine ct_al.cons (so_aload_n d_X_read_39 rfl) ?_
  refine ct_al.cons (so_getR (Cn := "CodeTables") (T := ct_T0) kc_0 (by decide) rfl rfl wd_288 d_X_read_40) ?_
  refine ct_al.cons (so_getI (Cn := "CodeTables$Reader") (T := ct_T2) kc_2 (by decide) rfl rfl wd_314 d_X_read_43) ?_
  refine ct_al.cons (so_putI (Cn := "CodeTables") (T := ct_T0) kc_0 (by decide) rfl rfl (Or.inl rfl) wd_274 d_X_read_46) ?_
  refine ct_al.cons (so_aload_n d_X_read_49 rfl) ?_
  refine ct_al.cons (so_aload_n d_X_read_50 rfl) ?_
  refine ct_al.cons (so_getR (Cn := "CodeTables") (T := ct_T0) kc_0 (by decide) rfl rfl wd_288 d_X_read_51) ?_
  refine ct_al.cons (so_getI (Cn := "CodeTables$Reader") (T := ct_T2) kc_2 (by decide) rfl rfl wd_315 d_X_read_54) ?_
  refine ct_al.cons (so_if_ne d_X_read_57 (by decide)) ?_
  refine ct_al.cons (so_iconst d_X_read_60 (by decide)) ?_
  refine ct_al.cons (so_goto d_X_read_61 (by decide)) ?_
  refine ct_al.cons (so_iconst d_X_read_64 (by decide)) ?_
  refine ct_al.cons (so_putZ (Cn := "CodeTables") (T := ct_T0) kc_0 (by decide) rfl rfl (Or.inl rfl) wd_275 d_X_read_65) ?_
  refine ct_al.cons (so_aload_n d_X_read_68 rfl) ?_
  refine ct_al.cons (so_iconst d_X_read_69 (by decide)) ?_
  refine ct_al.cons (so_putI (Cn := "CodeTables") (T := ct_T0) kc_0 (by decide) rfl rfl (Or.inl rfl) wd_273 d_X_read_70) ?_
  refine ct_al.cons (so_aload_n d_X_read_73 rfl) ?_
  refine ct_al.cons (so_getR (Cn := "CodeTables") (T := ct_T0) kc_0 (by decide) rfl rfl wd_288 d_X_read_74) ?_
  refine ct_al.cons (so_getI (Cn := "CodeTables$Reader") (T := ct_T2) kc_2 (by decide) rfl rfl wd_315 d_X_read_77) ?_
  refine ct_al.cons (so_ineg d_X_read_80) ?_
  exact ct_al.nil
theorem e_X_read_0 : ct_tab (T_X_read) 0 = some (o_aload 0 1) := rfl
theorem e_X_read_1 : ct_tab (T_X_read) 1 = some (o_getR 0 7 5) := rfl
theorem e_X_read_4 : ct_tab (T_X_read) 4 = some (o_aload 0 1) := rfl
theorem e_X_read_5 : ct_tab (T_X_read) 5 = some (o_getR 0 7 0) := rfl
theorem e_X_read_8 : ct_tab (T_X_read) 8 = some (o_aload 0 1) := rfl
theorem e_X_read_9 : ct_tab (T_X_read) 9 = some (o_getI 0 7 1) := rfl
theorem e_X_read_15 : ct_tab (T_X_read) 15 = some (o_aload 0 1) := rfl
theorem e_X_read_16 : ct_tab (T_X_read) 16 = some (o_getR 0 7 5) := rfl
theorem e_X_read_19 : ct_tab (T_X_read) 19 = some (o_push (.int 0) 1) := rfl
theorem e_X_read_23 : ct_tab (T_X_read) 23 = some (o_aload 0 1) := rfl
theorem e_X_read_24 : ct_tab (T_X_read) 24 = some (o_getR 0 7 5) := rfl
theorem e_X_read_27 : ct_tab (T_X_read) 27 = some (o_push (.int 1) 1) := rfl
theorem e_X_read_31 : ct_tab (T_X_read) 31 = some (o_aload 0 1) := rfl
theorem e_X_read_32 : ct_tab (T_X_read) 32 = some (o_getR 0 7 5) := rfl
theorem e_X_read_38 : ct_tab (T_X_read) 38 = some (o_aload 0 1) := rfl
theorem e_X_read_39 : ct_tab (T_X_read) 39 = some (o_aload 0 1) := rfl
theorem e_X_read_40 : ct_tab (T_X_read) 40 = some (o_getR 0 7 5) := rfl
theorem e_X_read_43 : ct_tab (T_X_read) 43 = some (o_getI 2 9 8) := rfl
theorem e_X_read_46 : ct_tab (T_X_read) 46 = some (o_putI 0 7 2) := rfl
theorem e_X_read_49 : ct_tab (T_X_read) 49 = some (o_aload 0 1) := rfl
theorem e_X_read_50 : ct_tab (T_X_read) 50 = some (o_aload 0 1) := rfl
theorem e_X_read_51 : ct_tab (T_X_read) 51 = some (o_getR 0 7 5) := rfl
theorem e_X_read_54 : ct_tab (T_X_read) 54 = some (o_getI 2 9 7) := rfl
theorem e_X_read_57 : ct_tab (T_X_read) 57 = some (o_if (fun x => ¬ x = 0) (fun x => x = 0) 64) := rfl
theorem e_X_read_60 : ct_tab (T_X_read) 60 = some (o_push (.int 1) 1) := rfl
theorem e_X_read_61 : ct_tab (T_X_read) 61 = some (o_goto 65) := rfl
theorem e_X_read_64 : ct_tab (T_X_read) 64 = some (o_push (.int 0) 1) := rfl
theorem e_X_read_65 : ct_tab (T_X_read) 65 = some (o_putZ 0 7 3) := rfl
theorem e_X_read_68 : ct_tab (T_X_read) 68 = some (o_aload 0 1) := rfl
theorem e_X_read_69 : ct_tab (T_X_read) 69 = some (o_push (.int 0) 1) := rfl
theorem e_X_read_70 : ct_tab (T_X_read) 70 = some (o_putI 0 7 1) := rfl
theorem e_X_read_73 : ct_tab (T_X_read) 73 = some (o_aload 0 1) := rfl
theorem e_X_read_74 : ct_tab (T_X_read) 74 = some (o_getR 0 7 5) := rfl
theorem e_X_read_77 : ct_tab (T_X_read) 77 = some (o_getI 2 9 7) := rfl
theorem e_X_read_80 : ct_tab (T_X_read) 80 = some (o_i1 fun x => -x) := rfl
theorem cl_X_read_12 {l : ct_Lx} {d d1 : Nat} {Post Post1 : Option Value → ct_Sg → Prop} {lv : ct_Lv} {st : List Value} {g : ct_Sg} {bc bs c1 s1 : Nat} {a1 a2 : Value} {h : Nat} (hsh : g.2.1 h = (10 + 2, 9)) (hM : ct_Me l M_R_begin d1 c1 s1 [.ref h, a1, a2] g Post1) (hdd : d1 + 1 ≤ d) (hk : (st.map fun v => v.category).sum ≤ 8) (hcc : c1 ≤ bc) (hss : s1 ≤ bs) (kk : ∀ (v : Option Value) (g' : ct_Sg), Post1 v g' → ct_Wp l M_X_read d Post (15, lv, v.toList ++ st, g', bc - c1, bs - s1)) : ct_Wp l M_X_read d Post (12, lv, a2 :: a1 :: .ref h :: st, g, bc, bs) := ct_Wp.callV (ci := 2) (N := 9) (T := ct_T2) (As := [a1, a2]) lk_R_begin (Or.inl wd_301) wd_302 wd_303 rfl d_X_read_12 hsh hM rfl hdd hk hcc hss kk
theorem cl_X_read_20 {l : ct_Lx} {d d1 : Nat} {Post Post1 : Option Value → ct_Sg → Prop} {lv : ct_Lv} {st : List Value} {g : ct_Sg} {bc bs c1 s1 : Nat} {a1 : Value} {h : Nat} (hsh : g.2.1 h = (10 + 2, 9)) (hM : ct_Me l M_R_walk d1 c1 s1 [.ref h, a1] g Post1) (hdd : d1 + 1 ≤ d) (hk : (st.map fun v => v.category).sum ≤ 8) (hcc : c1 ≤ bc) (hss : s1 ≤ bs) (kk : ∀ (v : Option Value) (g' : ct_Sg), Post1 v g' → ct_Wp l M_X_read d Post (23, lv, v.toList ++ st, g', bc - c1, bs - s1)) : ct_Wp l M_X_read d Post (20, lv, a1 :: .ref h :: st, g, bc, bs) := ct_Wp.callV (ci := 2) (N := 9) (T := ct_T2) (As := [a1]) lk_R_walk (Or.inl wd_306) wd_307 wd_308 rfl d_X_read_20 hsh hM rfl hdd hk hcc hss kk
theorem cl_X_read_28 {l : ct_Lx} {d d1 : Nat} {Post Post1 : Option Value → ct_Sg → Prop} {lv : ct_Lv} {st : List Value} {g : ct_Sg} {bc bs c1 s1 : Nat} {a1 : Value} {h : Nat} (hsh : g.2.1 h = (10 + 2, 9)) (hM : ct_Me l M_R_walk d1 c1 s1 [.ref h, a1] g Post1) (hdd : d1 + 1 ≤ d) (hk : (st.map fun v => v.category).sum ≤ 8) (hcc : c1 ≤ bc) (hss : s1 ≤ bs) (kk : ∀ (v : Option Value) (g' : ct_Sg), Post1 v g' → ct_Wp l M_X_read d Post (31, lv, v.toList ++ st, g', bc - c1, bs - s1)) : ct_Wp l M_X_read d Post (28, lv, a1 :: .ref h :: st, g, bc, bs) := ct_Wp.callV (ci := 2) (N := 9) (T := ct_T2) (As := [a1]) lk_R_walk (Or.inl wd_306) wd_307 wd_308 rfl d_X_read_28 hsh hM rfl hdd hk hcc hss kk
theorem cl_X_read_35 {l : ct_Lx} {d d1 : Nat} {Post Post1 : Option Value → ct_Sg → Prop} {lv : ct_Lv} {st : List Value} {g : ct_Sg} {bc bs c1 s1 : Nat} {h : Nat} (hsh : g.2.1 h = (10 + 2, 9)) (hM : ct_Me l M_R_findCircle d1 c1 s1 [.ref h] g Post1) (hdd : d1 + 1 ≤ d) (hk : (st.map fun v => v.category).sum ≤ 8) (hcc : c1 ≤ bc) (hss : s1 ≤ bs) (kk : ∀ (v : Option Value) (g' : ct_Sg), Post1 v g' → ct_Wp l M_X_read d Post (38, lv, v.toList ++ st, g', bc - c1, bs - s1)) : ct_Wp l M_X_read d Post (35, lv, .ref h :: st, g, bc, bs) := ct_Wp.callV (ci := 2) (N := 9) (T := ct_T2) (As := []) lk_R_findCircle (Or.inl wd_311) wd_312 wd_313 rfl d_X_read_35 hsh hM rfl hdd hk hcc hss kk
theorem d_X_place_0 : decode prog_1_method_4_code 0 = .ok (.aload_n 0, 1) := by decide +kernel
theorem d_X_place_1 : decode prog_1_method_4_code 1 = .ok (.getfield 17, 3) := by decide +kernel
theorem d_X_place_4 : decode prog_1_method_4_code 4 = .ok (.ireturn, 1) := by decide +kernel
abbrev T_X_place : List (Nat × ct_PT) := [(0, o_aload 0 1), (1, o_getI 0 7 2)]
set_option maxRecDepth 100000 in
theorem A_X_place (l : ct_Lx) : ct_al l M_X_place (T_X_place) := by
  refine ct_al.cons (so_aload_n d_X_place_0 rfl) ?_
  refine ct_al.cons (so_getI (Cn := "CodeTables") (T := ct_T0) kc_0 (by decide) rfl rfl wd_274 d_X_place_1) ?_
  exact ct_al.nil
theorem e_X_place_0 : ct_tab (T_X_place) 0 = some (o_aload 0 1) := rfl
theorem e_X_place_1 : ct_tab (T_X_place) 1 = some (o_getI 0 7 2) := rfl
theorem d_X_told_0 : decode prog_1_method_5_code 0 = .ok (.aload_n 0, 1) := by decide +kernel
theorem d_X_told_1 : decode prog_1_method_5_code 1 = .ok (.getfield 20, 3) := by decide +kernel
theorem d_X_told_4 : decode prog_1_method_5_code 4 = .ok (.ifCond .eq 25, 3) := by decide +kernel
theorem d_X_told_7 : decode prog_1_method_5_code 7 = .ok (.iload_n 1, 1) := by decide +kernel
theorem d_X_told_8 : decode prog_1_method_5_code 8 = .ok (.ifCond .lt 21, 3) := by decide +kernel
theorem d_X_told_11 : decode prog_1_method_5_code 11 = .ok (.iload_n 1, 1) := by decide +kernel
theorem d_X_told_12 : decode prog_1_method_5_code 12 = .ok (.bipush 7, 2) := by decide +kernel
theorem d_X_told_14 : decode prog_1_method_5_code 14 = .ok (.if_icmp .ge 15, 3) := by decide +kernel
theorem d_X_told_17 : decode prog_1_method_5_code 17 = .ok (.aload_n 0, 1) := by decide +kernel
theorem d_X_told_18 : decode prog_1_method_5_code 18 = .ok (.getfield 27, 3) := by decide +kernel
theorem d_X_told_21 : decode prog_1_method_5_code 21 = .ok (.getfield 73, 3) := by decide +kernel
theorem d_X_told_24 : decode prog_1_method_5_code 24 = .ok (.iload_n 1, 1) := by decide +kernel
theorem d_X_told_25 : decode prog_1_method_5_code 25 = .ok (.iaload, 1) := by decide +kernel
theorem d_X_told_26 : decode prog_1_method_5_code 26 = .ok (.goto 4, 3) := by decide +kernel
theorem d_X_told_29 : decode prog_1_method_5_code 29 = .ok (.iconst (-1), 1) := by decide +kernel
theorem d_X_told_30 : decode prog_1_method_5_code 30 = .ok (.ireturn, 1) := by decide +kernel
abbrev T_X_told : List (Nat × ct_PT) := [(0, o_aload 0 1), (1, o_getI 0 7 3), (4, o_if (fun x => x = 0) (fun x => ¬ x = 0) 29), (7, o_iload 1 1), (8, o_if (fun x => x < 0) (fun x => ¬ x < 0) 29), (11, o_iload 1 1), (12, o_push (.int 7) 2), (14, o_ic (fun x y => y ≤ x) (fun x y => ¬ y ≤ x) 29), (17, o_aload 0 1), (18, o_getR 0 7 4), (21, o_getR 1 10 0), (24, o_iload 1 1), (25, o_iald), (26, o_goto 30), (29, o_push (.int (-1)) 1)]
set_option maxRecDepth 100000 in
theorem A_X_told (l : ct_Lx) : ct_al l M_X_told (T_X_told) := by
  refine ct_al.cons (so_aload_n d_X_told_0 rfl) ?_
  refine ct_al.cons (so_getI (Cn := "CodeTables") (T := ct_T0) kc_0 (by decide) rfl rfl wd_275 d_X_told_1) ?_
  refine ct_al.cons (so_if_eq d_X_told_4 (by decide)) ?_
  refine ct_al.cons (so_iload_n d_X_told_7 rfl) ?_
  refine ct_al.cons (so_if_lt d_X_told_8 (by decide)) ?_
  refine ct_al.cons (so_iload_n d_X_told_11 rfl) ?_
  refine ct_al.cons (so_bipush d_X_told_12 (by decide)) ?_
  refine ct_al.cons (so_ic_ge d_X_told_14 (by decide)) ?_
  refine ct_al.cons (so_aload_n d_X_told_17 rfl) ?_
  refine ct_al.cons (so_getR (Cn := "CodeTables") (T := ct_T0) kc_0 (by decide) rfl rfl wd_281 d_X_told_18) ?_
  refine ct_al.cons (so_getR (Cn := "CodeTables$Tables") (T := ct_T1) kc_1 (by decide) rfl rfl wd_316 d_X_told_21) ?_
  refine ct_al.cons (so_iload_n d_X_told_24 rfl) ?_
  refine ct_al.cons (so_iald d_X_told_25) ?_
  refine ct_al.cons (so_goto d_X_told_26 (by decide)) ?_
  refine ct_al.cons (so_iconst d_X_told_29 (by decide)) ?_
  exact ct_al.nil
theorem e_X_told_0 : ct_tab (T_X_told) 0 = some (o_aload 0 1) := rfl
theorem e_X_told_1 : ct_tab (T_X_told) 1 = some (o_getI 0 7 3) := rfl
theorem e_X_told_4 : ct_tab (T_X_told) 4 = some (o_if (fun x => x = 0) (fun x => ¬ x = 0) 29) := rfl
theorem e_X_told_7 : ct_tab (T_X_told) 7 = some (o_iload 1 1) := rfl
theorem e_X_told_8 : ct_tab (T_X_told) 8 = some (o_if (fun x => x < 0) (fun x => ¬ x < 0) 29) := rfl
theorem e_X_told_11 : ct_tab (T_X_told) 11 = some (o_iload 1 1) := rfl
theorem e_X_told_12 : ct_tab (T_X_told) 12 = some (o_push (.int 7) 2) := rfl
theorem e_X_told_14 : ct_tab (T_X_told) 14 = some (o_ic (fun x y => y ≤ x) (fun x y => ¬ y ≤ x) 29) := rfl
theorem e_X_told_17 : ct_tab (T_X_told) 17 = some (o_aload 0 1) := rfl
theorem e_X_told_18 : ct_tab (T_X_told) 18 = some (o_getR 0 7 4) := rfl
theorem e_X_told_21 : ct_tab (T_X_told) 21 = some (o_getR 1 10 0) := rfl
theorem e_X_told_24 : ct_tab (T_X_told) 24 = some (o_iload 1 1) := rfl
theorem e_X_told_25 : ct_tab (T_X_told) 25 = some (o_iald) := rfl
theorem e_X_told_26 : ct_tab (T_X_told) 26 = some (o_goto 30) := rfl
theorem e_X_told_29 : ct_tab (T_X_told) 29 = some (o_push (.int (-1)) 1) := rfl
theorem d_X_structure_0 : decode prog_1_method_6_code 0 = .ok (.aload_n 0, 1) := by decide +kernel
theorem d_X_structure_1 : decode prog_1_method_6_code 1 = .ok (.getfield 20, 3) := by decide +kernel
theorem d_X_structure_4 : decode prog_1_method_6_code 4 = .ok (.ifCond .eq 15, 3) := by decide +kernel
theorem d_X_structure_7 : decode prog_1_method_6_code 7 = .ok (.aload_n 0, 1) := by decide +kernel
theorem d_X_structure_8 : decode prog_1_method_6_code 8 = .ok (.getfield 27, 3) := by decide +kernel
theorem d_X_structure_11 : decode prog_1_method_6_code 11 = .ok (.iload_n 1, 1) := by decide +kernel
theorem d_X_structure_12 : decode prog_1_method_6_code 12 = .ok (.iload_n 2, 1) := by decide +kernel
theorem d_X_structure_13 : decode prog_1_method_6_code 13 = .ok (.invokevirtual 77, 3) := by decide +kernel
theorem d_X_structure_16 : decode prog_1_method_6_code 16 = .ok (.goto 4, 3) := by decide +kernel
theorem d_X_structure_19 : decode prog_1_method_6_code 19 = .ok (.iconst (-1), 1) := by decide +kernel
theorem d_X_structure_20 : decode prog_1_method_6_code 20 = .ok (.ireturn, 1) := by decide +kernel
abbrev T_X_structure : List (Nat × ct_PT) := [(0, o_aload 0 1), (1, o_getI 0 7 3), (4, o_if (fun x => x = 0) (fun x => ¬ x = 0) 19), (7, o_aload 0 1), (8, o_getR 0 7 4), (11, o_iload 1 1), (12, o_iload 2 1), (16, o_goto 20), (19, o_push (.int (-1)) 1)]
set_option maxRecDepth 100000 in
theorem A_X_structure (l : ct_Lx) : ct_al l M_X_structure (T_X_structure) := by
  refine ct_al.cons (so_aload_n d_X_structure_0 rfl) ?_
  refine ct_al.cons (so_getI (Cn := "CodeTables") (T := ct_T0) kc_0 (by decide) rfl rfl wd_275 d_X_structure_1) ?_
  refine ct_al.cons (so_if_eq d_X_structure_4 (by decide)) ?_
  refine ct_al.cons (so_aload_n d_X_structure_7 rfl) ?_
  refine ct_al.cons (so_getR (Cn := "CodeTables") (T := ct_T0) kc_0 (by decide) rfl rfl wd_281 d_X_structure_8) ?_
  refine ct_al.cons (so_iload_n d_X_structure_11 rfl) ?_
  refine ct_al.cons (so_iload_n d_X_structure_12 rfl) ?_
  refine ct_al.cons (so_goto d_X_structure_16 (by decide)) ?_
  refine ct_al.cons (so_iconst d_X_structure_19 (by decide)) ?_
  exact ct_al.nil
theorem e_X_structure_0 : ct_tab (T_X_structure) 0 = some (o_aload 0 1) := rfl
theorem e_X_structure_1 : ct_tab (T_X_structure) 1 = some (o_getI 0 7 3) := rfl
theorem e_X_structure_4 : ct_tab (T_X_structure) 4 = some (o_if (fun x => x = 0) (fun x => ¬ x = 0) 19) := rfl
theorem e_X_structure_7 : ct_tab (T_X_structure) 7 = some (o_aload 0 1) := rfl
theorem e_X_structure_8 : ct_tab (T_X_structure) 8 = some (o_getR 0 7 4) := rfl
theorem e_X_structure_11 : ct_tab (T_X_structure) 11 = some (o_iload 1 1) := rfl
theorem e_X_structure_12 : ct_tab (T_X_structure) 12 = some (o_iload 2 1) := rfl
theorem e_X_structure_16 : ct_tab (T_X_structure) 16 = some (o_goto 20) := rfl
theorem e_X_structure_19 : ct_tab (T_X_structure) 19 = some (o_push (.int (-1)) 1) := rfl
theorem cl_X_structure_13 {l : ct_Lx} {d d1 : Nat} {Post Post1 : Option Value → ct_Sg → Prop} {lv : ct_Lv} {st : List Value} {g : ct_Sg} {bc bs c1 s1 : Nat} {a1 a2 : Value} {h : Nat} (hsh : g.2.1 h = (10 + 1, 10)) (hM : ct_Me l M_T_structureFact d1 c1 s1 [.ref h, a1, a2] g Post1) (hdd : d1 + 1 ≤ d) (hk : (st.map fun v => v.category).sum ≤ 8) (hcc : c1 ≤ bc) (hss : s1 ≤ bs) (kk : ∀ (v : Option Value) (g' : ct_Sg), Post1 v g' → ct_Wp l M_X_structure d Post (16, lv, v.toList ++ st, g', bc - c1, bs - s1)) : ct_Wp l M_X_structure d Post (13, lv, a2 :: a1 :: .ref h :: st, g, bc, bs) := ct_Wp.callV (ci := 1) (N := 10) (T := ct_T1) (As := [a1, a2]) lk_T_structureFact (Or.inl wd_317) wd_25 wd_26 rfl d_X_structure_13 hsh hM rfl hdd hk hcc hss kk
theorem d_X_field_0 : decode prog_1_method_7_code 0 = .ok (.aload_n 0, 1) := by decide +kernel
theorem d_X_field_1 : decode prog_1_method_7_code 1 = .ok (.getfield 20, 3) := by decide +kernel
theorem d_X_field_4 : decode prog_1_method_7_code 4 = .ok (.ifCond .eq 15, 3) := by decide +kernel
theorem d_X_field_7 : decode prog_1_method_7_code 7 = .ok (.aload_n 0, 1) := by decide +kernel
theorem d_X_field_8 : decode prog_1_method_7_code 8 = .ok (.getfield 27, 3) := by decide +kernel
theorem d_X_field_11 : decode prog_1_method_7_code 11 = .ok (.iload_n 1, 1) := by decide +kernel
theorem d_X_field_12 : decode prog_1_method_7_code 12 = .ok (.iload_n 2, 1) := by decide +kernel
theorem d_X_field_13 : decode prog_1_method_7_code 13 = .ok (.invokevirtual 81, 3) := by decide +kernel
theorem d_X_field_16 : decode prog_1_method_7_code 16 = .ok (.goto 4, 3) := by decide +kernel
theorem d_X_field_19 : decode prog_1_method_7_code 19 = .ok (.lconst 0, 1) := by decide +kernel
theorem d_X_field_20 : decode prog_1_method_7_code 20 = .ok (.lreturn, 1) := by decide +kernel
abbrev T_X_field : List (Nat × ct_PT) := [(0, o_aload 0 1), (1, o_getI 0 7 3), (4, o_if (fun x => x = 0) (fun x => ¬ x = 0) 19), (7, o_aload 0 1), (8, o_getR 0 7 4), (11, o_iload 1 1), (12, o_iload 2 1), (16, o_goto 20), (19, o_push (.long 0) 1)]
set_option maxRecDepth 100000 in
theorem A_X_field (l : ct_Lx) : ct_al l M_X_field (T_X_field) := by
  refine ct_al.cons (so_aload_n d_X_field_0 rfl) ?_
  refine ct_al.cons (so_getI (Cn := "CodeTables") (T := ct_T0) kc_0 (by decide) rfl rfl wd_275 d_X_field_1) ?_
  refine ct_al.cons (so_if_eq d_X_field_4 (by decide)) ?_
  refine ct_al.cons (so_aload_n d_X_field_7 rfl) ?_
  refine ct_al.cons (so_getR (Cn := "CodeTables") (T := ct_T0) kc_0 (by decide) rfl rfl wd_281 d_X_field_8) ?_
  refine ct_al.cons (so_iload_n d_X_field_11 rfl) ?_
  refine ct_al.cons (so_iload_n d_X_field_12 rfl) ?_
  refine ct_al.cons (so_goto d_X_field_16 (by decide)) ?_
  refine ct_al.cons (so_lconst d_X_field_19 (by decide)) ?_
  exact ct_al.nil
theorem e_X_field_0 : ct_tab (T_X_field) 0 = some (o_aload 0 1) := rfl
theorem e_X_field_1 : ct_tab (T_X_field) 1 = some (o_getI 0 7 3) := rfl
theorem e_X_field_4 : ct_tab (T_X_field) 4 = some (o_if (fun x => x = 0) (fun x => ¬ x = 0) 19) := rfl
theorem e_X_field_7 : ct_tab (T_X_field) 7 = some (o_aload 0 1) := rfl
theorem e_X_field_8 : ct_tab (T_X_field) 8 = some (o_getR 0 7 4) := rfl
theorem e_X_field_11 : ct_tab (T_X_field) 11 = some (o_iload 1 1) := rfl
theorem e_X_field_12 : ct_tab (T_X_field) 12 = some (o_iload 2 1) := rfl
theorem e_X_field_16 : ct_tab (T_X_field) 16 = some (o_goto 20) := rfl
theorem e_X_field_19 : ct_tab (T_X_field) 19 = some (o_push (.long 0) 1) := rfl
theorem cl_X_field_13 {l : ct_Lx} {d d1 : Nat} {Post Post1 : Option Value → ct_Sg → Prop} {lv : ct_Lv} {st : List Value} {g : ct_Sg} {bc bs c1 s1 : Nat} {a1 a2 : Value} {h : Nat} (hsh : g.2.1 h = (10 + 1, 10)) (hM : ct_Me l M_T_fieldType d1 c1 s1 [.ref h, a1, a2] g Post1) (hdd : d1 + 1 ≤ d) (hk : (st.map fun v => v.category).sum ≤ 8) (hcc : c1 ≤ bc) (hss : s1 ≤ bs) (kk : ∀ (v : Option Value) (g' : ct_Sg), Post1 v g' → ct_Wp l M_X_field d Post (16, lv, v.toList ++ st, g', bc - c1, bs - s1)) : ct_Wp l M_X_field d Post (13, lv, a2 :: a1 :: .ref h :: st, g, bc, bs) := ct_Wp.callV (ci := 1) (N := 10) (T := ct_T1) (As := [a1, a2]) lk_T_fieldType (Or.inl wd_318) wd_192 wd_193 rfl d_X_field_13 hsh hM rfl hdd hk hcc hss kk
theorem d_X_function_0 : decode prog_1_method_8_code 0 = .ok (.aload_n 0, 1) := by decide +kernel
theorem d_X_function_1 : decode prog_1_method_8_code 1 = .ok (.getfield 20, 3) := by decide +kernel
theorem d_X_function_4 : decode prog_1_method_8_code 4 = .ok (.ifCond .eq 15, 3) := by decide +kernel
theorem d_X_function_7 : decode prog_1_method_8_code 7 = .ok (.aload_n 0, 1) := by decide +kernel
theorem d_X_function_8 : decode prog_1_method_8_code 8 = .ok (.getfield 27, 3) := by decide +kernel
theorem d_X_function_11 : decode prog_1_method_8_code 11 = .ok (.iload_n 1, 1) := by decide +kernel
theorem d_X_function_12 : decode prog_1_method_8_code 12 = .ok (.iload_n 2, 1) := by decide +kernel
theorem d_X_function_13 : decode prog_1_method_8_code 13 = .ok (.invokevirtual 85, 3) := by decide +kernel
theorem d_X_function_16 : decode prog_1_method_8_code 16 = .ok (.goto 4, 3) := by decide +kernel
theorem d_X_function_19 : decode prog_1_method_8_code 19 = .ok (.iconst (-1), 1) := by decide +kernel
theorem d_X_function_20 : decode prog_1_method_8_code 20 = .ok (.ireturn, 1) := by decide +kernel
abbrev T_X_function : List (Nat × ct_PT) := [(0, o_aload 0 1), (1, o_getI 0 7 3), (4, o_if (fun x => x = 0) (fun x => ¬ x = 0) 19), (7, o_aload 0 1), (8, o_getR 0 7 4), (11, o_iload 1 1), (12, o_iload 2 1), (16, o_goto 20), (19, o_push (.int (-1)) 1)]
set_option maxRecDepth 100000 in
theorem A_X_function (l : ct_Lx) : ct_al l M_X_function (T_X_function) := by
  refine ct_al.cons (so_aload_n d_X_function_0 rfl) ?_
  refine ct_al.cons (so_getI (Cn := "CodeTables") (T := ct_T0) kc_0 (by decide) rfl rfl wd_275 d_X_function_1) ?_
  refine ct_al.cons (so_if_eq d_X_function_4 (by decide)) ?_
  refine ct_al.cons (so_aload_n d_X_function_7 rfl) ?_
  refine ct_al.cons (so_getR (Cn := "CodeTables") (T := ct_T0) kc_0 (by decide) rfl rfl wd_281 d_X_function_8) ?_
  refine ct_al.cons (so_iload_n d_X_function_11 rfl) ?_
  refine ct_al.cons (so_iload_n d_X_function_12 rfl) ?_
  refine ct_al.cons (so_goto d_X_function_16 (by decide)) ?_
  refine ct_al.cons (so_iconst d_X_function_19 (by decide)) ?_
  exact ct_al.nil
theorem e_X_function_0 : ct_tab (T_X_function) 0 = some (o_aload 0 1) := rfl
theorem e_X_function_1 : ct_tab (T_X_function) 1 = some (o_getI 0 7 3) := rfl
theorem e_X_function_4 : ct_tab (T_X_function) 4 = some (o_if (fun x => x = 0) (fun x => ¬ x = 0) 19) := rfl
theorem e_X_function_7 : ct_tab (T_X_function) 7 = some (o_aload 0 1) := rfl
theorem e_X_function_8 : ct_tab (T_X_function) 8 = some (o_getR 0 7 4) := rfl
theorem e_X_function_11 : ct_tab (T_X_function) 11 = some (o_iload 1 1) := rfl
theorem e_X_function_12 : ct_tab (T_X_function) 12 = some (o_iload 2 1) := rfl
theorem e_X_function_16 : ct_tab (T_X_function) 16 = some (o_goto 20) := rfl
theorem e_X_function_19 : ct_tab (T_X_function) 19 = some (o_push (.int (-1)) 1) := rfl
theorem cl_X_function_13 {l : ct_Lx} {d d1 : Nat} {Post Post1 : Option Value → ct_Sg → Prop} {lv : ct_Lv} {st : List Value} {g : ct_Sg} {bc bs c1 s1 : Nat} {a1 a2 : Value} {h : Nat} (hsh : g.2.1 h = (10 + 1, 10)) (hM : ct_Me l M_T_functionFact d1 c1 s1 [.ref h, a1, a2] g Post1) (hdd : d1 + 1 ≤ d) (hk : (st.map fun v => v.category).sum ≤ 8) (hcc : c1 ≤ bc) (hss : s1 ≤ bs) (kk : ∀ (v : Option Value) (g' : ct_Sg), Post1 v g' → ct_Wp l M_X_function d Post (16, lv, v.toList ++ st, g', bc - c1, bs - s1)) : ct_Wp l M_X_function d Post (13, lv, a2 :: a1 :: .ref h :: st, g, bc, bs) := ct_Wp.callV (ci := 1) (N := 10) (T := ct_T1) (As := [a1, a2]) lk_T_functionFact (Or.inl wd_319) wd_40 wd_41 rfl d_X_function_13 hsh hM rfl hdd hk hcc hss kk
theorem d_X_listed_0 : decode prog_1_method_9_code 0 = .ok (.aload_n 0, 1) := by decide +kernel
theorem d_X_listed_1 : decode prog_1_method_9_code 1 = .ok (.getfield 20, 3) := by decide +kernel
theorem d_X_listed_4 : decode prog_1_method_9_code 4 = .ok (.ifCond .eq 16, 3) := by decide +kernel
theorem d_X_listed_7 : decode prog_1_method_9_code 7 = .ok (.aload_n 0, 1) := by decide +kernel
theorem d_X_listed_8 : decode prog_1_method_9_code 8 = .ok (.getfield 27, 3) := by decide +kernel
theorem d_X_listed_11 : decode prog_1_method_9_code 11 = .ok (.iload_n 1, 1) := by decide +kernel
theorem d_X_listed_12 : decode prog_1_method_9_code 12 = .ok (.iload_n 2, 1) := by decide +kernel
theorem d_X_listed_13 : decode prog_1_method_9_code 13 = .ok (.iload_n 3, 1) := by decide +kernel
theorem d_X_listed_14 : decode prog_1_method_9_code 14 = .ok (.invokevirtual 88, 3) := by decide +kernel
theorem d_X_listed_17 : decode prog_1_method_9_code 17 = .ok (.goto 4, 3) := by decide +kernel
theorem d_X_listed_20 : decode prog_1_method_9_code 20 = .ok (.lconst 0, 1) := by decide +kernel
theorem d_X_listed_21 : decode prog_1_method_9_code 21 = .ok (.lreturn, 1) := by decide +kernel
abbrev T_X_listed : List (Nat × ct_PT) := [(0, o_aload 0 1), (1, o_getI 0 7 3), (4, o_if (fun x => x = 0) (fun x => ¬ x = 0) 20), (7, o_aload 0 1), (8, o_getR 0 7 4), (11, o_iload 1 1), (12, o_iload 2 1), (13, o_iload 3 1), (17, o_goto 21), (20, o_push (.long 0) 1)]
set_option maxRecDepth 100000 in
theorem A_X_listed (l : ct_Lx) : ct_al l M_X_listed (T_X_listed) := by
  refine ct_al.cons (so_aload_n d_X_listed_0 rfl) ?_
  refine ct_al.cons (so_getI (Cn := "CodeTables") (T := ct_T0) kc_0 (by decide) rfl rfl wd_275 d_X_listed_1) ?_
  refine ct_al.cons (so_if_eq d_X_listed_4 (by decide)) ?_
  refine ct_al.cons (so_aload_n d_X_listed_7 rfl) ?_
  refine ct_al.cons (so_getR (Cn := "CodeTables") (T := ct_T0) kc_0 (by decide) rfl rfl wd_281 d_X_listed_8) ?_
  refine ct_al.cons (so_iload_n d_X_listed_11 rfl) ?_
  refine ct_al.cons (so_iload_n d_X_listed_12 rfl) ?_
  refine ct_al.cons (so_iload_n d_X_listed_13 rfl) ?_
  refine ct_al.cons (so_goto d_X_listed_17 (by decide)) ?_
  refine ct_al.cons (so_lconst d_X_listed_20 (by decide)) ?_
  exact ct_al.nil
theorem e_X_listed_0 : ct_tab (T_X_listed) 0 = some (o_aload 0 1) := rfl
theorem e_X_listed_1 : ct_tab (T_X_listed) 1 = some (o_getI 0 7 3) := rfl
theorem e_X_listed_4 : ct_tab (T_X_listed) 4 = some (o_if (fun x => x = 0) (fun x => ¬ x = 0) 20) := rfl
theorem e_X_listed_7 : ct_tab (T_X_listed) 7 = some (o_aload 0 1) := rfl
theorem e_X_listed_8 : ct_tab (T_X_listed) 8 = some (o_getR 0 7 4) := rfl
theorem e_X_listed_11 : ct_tab (T_X_listed) 11 = some (o_iload 1 1) := rfl
theorem e_X_listed_12 : ct_tab (T_X_listed) 12 = some (o_iload 2 1) := rfl
theorem e_X_listed_13 : ct_tab (T_X_listed) 13 = some (o_iload 3 1) := rfl
theorem e_X_listed_17 : ct_tab (T_X_listed) 17 = some (o_goto 21) := rfl
theorem e_X_listed_20 : ct_tab (T_X_listed) 20 = some (o_push (.long 0) 1) := rfl
theorem cl_X_listed_14 {l : ct_Lx} {d d1 : Nat} {Post Post1 : Option Value → ct_Sg → Prop} {lv : ct_Lv} {st : List Value} {g : ct_Sg} {bc bs c1 s1 : Nat} {a1 a2 a3 : Value} {h : Nat} (hsh : g.2.1 h = (10 + 1, 10)) (hM : ct_Me l M_T_listedType d1 c1 s1 [.ref h, a1, a2, a3] g Post1) (hdd : d1 + 1 ≤ d) (hk : (st.map fun v => v.category).sum ≤ 8) (hcc : c1 ≤ bc) (hss : s1 ≤ bs) (kk : ∀ (v : Option Value) (g' : ct_Sg), Post1 v g' → ct_Wp l M_X_listed d Post (17, lv, v.toList ++ st, g', bc - c1, bs - s1)) : ct_Wp l M_X_listed d Post (14, lv, a3 :: a2 :: a1 :: .ref h :: st, g, bc, bs) := ct_Wp.callV (ci := 1) (N := 10) (T := ct_T1) (As := [a1, a2, a3]) lk_T_listedType (Or.inl wd_320) wd_255 wd_256 rfl d_X_listed_14 hsh hM rfl hdd hk hcc hss kk
theorem d_X_element_0 : decode prog_1_method_10_code 0 = .ok (.aload_n 0, 1) := by decide +kernel
theorem d_X_element_1 : decode prog_1_method_10_code 1 = .ok (.getfield 20, 3) := by decide +kernel
theorem d_X_element_4 : decode prog_1_method_10_code 4 = .ok (.ifCond .eq 32, 3) := by decide +kernel
theorem d_X_element_7 : decode prog_1_method_10_code 7 = .ok (.iload_n 1, 1) := by decide +kernel
theorem d_X_element_8 : decode prog_1_method_10_code 8 = .ok (.ifCond .lt 28, 3) := by decide +kernel
theorem d_X_element_11 : decode prog_1_method_10_code 11 = .ok (.iload_n 1, 1) := by decide +kernel
theorem d_X_element_12 : decode prog_1_method_10_code 12 = .ok (.aload_n 0, 1) := by decide +kernel
theorem d_X_element_13 : decode prog_1_method_10_code 13 = .ok (.getfield 27, 3) := by decide +kernel
theorem d_X_element_16 : decode prog_1_method_10_code 16 = .ok (.getfield 73, 3) := by decide +kernel
theorem d_X_element_19 : decode prog_1_method_10_code 19 = .ok (.iconst 4, 1) := by decide +kernel
theorem d_X_element_20 : decode prog_1_method_10_code 20 = .ok (.iaload, 1) := by decide +kernel
theorem d_X_element_21 : decode prog_1_method_10_code 21 = .ok (.if_icmp .ge 15, 3) := by decide +kernel
theorem d_X_element_24 : decode prog_1_method_10_code 24 = .ok (.aload_n 0, 1) := by decide +kernel
theorem d_X_element_25 : decode prog_1_method_10_code 25 = .ok (.getfield 27, 3) := by decide +kernel
theorem d_X_element_28 : decode prog_1_method_10_code 28 = .ok (.getfield 92, 3) := by decide +kernel
theorem d_X_element_31 : decode prog_1_method_10_code 31 = .ok (.iload_n 1, 1) := by decide +kernel
theorem d_X_element_32 : decode prog_1_method_10_code 32 = .ok (.laload, 1) := by decide +kernel
theorem d_X_element_33 : decode prog_1_method_10_code 33 = .ok (.goto 4, 3) := by decide +kernel
theorem d_X_element_36 : decode prog_1_method_10_code 36 = .ok (.lconst 0, 1) := by decide +kernel
theorem d_X_element_37 : decode prog_1_method_10_code 37 = .ok (.lreturn, 1) := by decide +kernel
abbrev T_X_element : List (Nat × ct_PT) := [(0, o_aload 0 1), (1, o_getI 0 7 3), (4, o_if (fun x => x = 0) (fun x => ¬ x = 0) 36), (7, o_iload 1 1), (8, o_if (fun x => x < 0) (fun x => ¬ x < 0) 36), (11, o_iload 1 1), (12, o_aload 0 1), (13, o_getR 0 7 4), (16, o_getR 1 10 0), (19, o_push (.int 4) 1), (20, o_iald), (21, o_ic (fun x y => y ≤ x) (fun x y => ¬ y ≤ x) 36), (24, o_aload 0 1), (25, o_getR 0 7 4), (28, o_getR 1 10 5), (31, o_iload 1 1), (32, o_lald), (33, o_goto 37), (36, o_push (.long 0) 1)]
set_option maxRecDepth 100000 in
theorem A_X_element (l : ct_Lx) : ct_al l M_X_element (T_X_element) := by
  refine ct_al.cons (so_aload_n d_X_element_0 rfl) ?_
  refine ct_al.cons (so_getI (Cn := "CodeTables") (T := ct_T0) kc_0 (by decide) rfl rfl wd_275 d_X_element_1) ?_
  refine ct_al.cons (so_if_eq d_X_element_4 (by decide)) ?_
  refine ct_al.cons (so_iload_n d_X_element_7 rfl) ?_
  refine ct_al.cons (so_if_lt d_X_element_8 (by decide)) ?_
  refine ct_al.cons (so_iload_n d_X_element_11 rfl) ?_
  refine ct_al.cons (so_aload_n d_X_element_12 rfl) ?_
  refine ct_al.cons (so_getR (Cn := "CodeTables") (T := ct_T0) kc_0 (by decide) rfl rfl wd_281 d_X_element_13) ?_
  refine ct_al.cons (so_getR (Cn := "CodeTables$Tables") (T := ct_T1) kc_1 (by decide) rfl rfl wd_316 d_X_element_16) ?_
  refine ct_al.cons (so_iconst d_X_element_19 (by decide)) ?_
  refine ct_al.cons (so_iald d_X_element_20) ?_
  refine ct_al.cons (so_ic_ge d_X_element_21 (by decide)) ?_
  refine ct_al.cons (so_aload_n d_X_element_24 rfl) ?_
  refine ct_al.cons (so_getR (Cn := "CodeTables") (T := ct_T0) kc_0 (by decide) rfl rfl wd_281 d_X_element_25) ?_
  refine ct_al.cons (so_getR (Cn := "CodeTables$Tables") (T := ct_T1) kc_1 (by decide) rfl rfl wd_321 d_X_element_28) ?_
  refine ct_al.cons (so_iload_n d_X_element_31 rfl) ?_
  refine ct_al.cons (so_lald d_X_element_32) ?_
  refine ct_al.cons (so_goto d_X_element_33 (by decide)) ?_
  refine ct_al.cons (so_lconst d_X_element_36 (by decide)) ?_
  exact ct_al.nil
theorem e_X_element_0 : ct_tab (T_X_element) 0 = some (o_aload 0 1) := rfl
theorem e_X_element_1 : ct_tab (T_X_element) 1 = some (o_getI 0 7 3) := rfl
theorem e_X_element_4 : ct_tab (T_X_element) 4 = some (o_if (fun x => x = 0) (fun x => ¬ x = 0) 36) := rfl
theorem e_X_element_7 : ct_tab (T_X_element) 7 = some (o_iload 1 1) := rfl
theorem e_X_element_8 : ct_tab (T_X_element) 8 = some (o_if (fun x => x < 0) (fun x => ¬ x < 0) 36) := rfl
theorem e_X_element_11 : ct_tab (T_X_element) 11 = some (o_iload 1 1) := rfl
theorem e_X_element_12 : ct_tab (T_X_element) 12 = some (o_aload 0 1) := rfl
theorem e_X_element_13 : ct_tab (T_X_element) 13 = some (o_getR 0 7 4) := rfl
theorem e_X_element_16 : ct_tab (T_X_element) 16 = some (o_getR 1 10 0) := rfl
theorem e_X_element_19 : ct_tab (T_X_element) 19 = some (o_push (.int 4) 1) := rfl
theorem e_X_element_20 : ct_tab (T_X_element) 20 = some (o_iald) := rfl
theorem e_X_element_21 : ct_tab (T_X_element) 21 = some (o_ic (fun x y => y ≤ x) (fun x y => ¬ y ≤ x) 36) := rfl
theorem e_X_element_24 : ct_tab (T_X_element) 24 = some (o_aload 0 1) := rfl
theorem e_X_element_25 : ct_tab (T_X_element) 25 = some (o_getR 0 7 4) := rfl
theorem e_X_element_28 : ct_tab (T_X_element) 28 = some (o_getR 1 10 5) := rfl
theorem e_X_element_31 : ct_tab (T_X_element) 31 = some (o_iload 1 1) := rfl
theorem e_X_element_32 : ct_tab (T_X_element) 32 = some (o_lald) := rfl
theorem e_X_element_33 : ct_tab (T_X_element) 33 = some (o_goto 37) := rfl
theorem e_X_element_36 : ct_tab (T_X_element) 36 = some (o_push (.long 0) 1) := rfl
theorem d_X_operation_0 : decode prog_1_method_11_code 0 = .ok (.aload_n 0, 1) := by decide +kernel
theorem d_X_operation_1 : decode prog_1_method_11_code 1 = .ok (.getfield 20, 3) := by decide +kernel
theorem d_X_operation_4 : decode prog_1_method_11_code 4 = .ok (.ifCond .eq 15, 3) := by decide +kernel
theorem d_X_operation_7 : decode prog_1_method_11_code 7 = .ok (.aload_n 0, 1) := by decide +kernel
theorem d_X_operation_8 : decode prog_1_method_11_code 8 = .ok (.getfield 27, 3) := by decide +kernel
theorem d_X_operation_11 : decode prog_1_method_11_code 11 = .ok (.iload_n 1, 1) := by decide +kernel
theorem d_X_operation_12 : decode prog_1_method_11_code 12 = .ok (.iload_n 2, 1) := by decide +kernel
theorem d_X_operation_13 : decode prog_1_method_11_code 13 = .ok (.invokevirtual 96, 3) := by decide +kernel
theorem d_X_operation_16 : decode prog_1_method_11_code 16 = .ok (.goto 4, 3) := by decide +kernel
theorem d_X_operation_19 : decode prog_1_method_11_code 19 = .ok (.iconst (-1), 1) := by decide +kernel
theorem d_X_operation_20 : decode prog_1_method_11_code 20 = .ok (.istore_n 3, 1) := by decide +kernel
theorem d_X_operation_21 : decode prog_1_method_11_code 21 = .ok (.iload_n 3, 1) := by decide +kernel
theorem d_X_operation_22 : decode prog_1_method_11_code 22 = .ok (.ifCond .ge 7, 3) := by decide +kernel
theorem d_X_operation_25 : decode prog_1_method_11_code 25 = .ok (.iconst (-1), 1) := by decide +kernel
theorem d_X_operation_26 : decode prog_1_method_11_code 26 = .ok (.goto 12, 3) := by decide +kernel
theorem d_X_operation_29 : decode prog_1_method_11_code 29 = .ok (.aload_n 0, 1) := by decide +kernel
theorem d_X_operation_30 : decode prog_1_method_11_code 30 = .ok (.getfield 27, 3) := by decide +kernel
theorem d_X_operation_33 : decode prog_1_method_11_code 33 = .ok (.getfield 99, 3) := by decide +kernel
theorem d_X_operation_36 : decode prog_1_method_11_code 36 = .ok (.iload_n 3, 1) := by decide +kernel
theorem d_X_operation_37 : decode prog_1_method_11_code 37 = .ok (.baload, 1) := by decide +kernel
theorem d_X_operation_38 : decode prog_1_method_11_code 38 = .ok (.ireturn, 1) := by decide +kernel
abbrev T_X_operation : List (Nat × ct_PT) := [(0, o_aload 0 1), (1, o_getI 0 7 3), (4, o_if (fun x => x = 0) (fun x => ¬ x = 0) 19), (7, o_aload 0 1), (8, o_getR 0 7 4), (11, o_iload 1 1), (12, o_iload 2 1), (16, o_goto 20), (19, o_push (.int (-1)) 1), (20, o_istore 3 1), (21, o_iload 3 1), (22, o_if (fun x => 0 ≤ x) (fun x => ¬ 0 ≤ x) 29), (25, o_push (.int (-1)) 1), (26, o_goto 38), (29, o_aload 0 1), (30, o_getR 0 7 4), (33, o_getR 1 10 7), (36, o_iload 3 1), (37, o_bald)]
set_option maxRecDepth 100000 in
theorem A_X_operation (l : ct_Lx) : ct_al l M_X_operation (T_X_operation) := by
  refine ct_al.cons (so_aload_n d_X_operation_0 rfl) ?_
  refine ct_al.cons (so_getI (Cn := "CodeTables") (T := ct_T0) kc_0 (by decide) rfl rfl wd_275 d_X_operation_1) ?_
  refine ct_al.cons (so_if_eq d_X_operation_4 (by decide)) ?_
  refine ct_al.cons (so_aload_n d_X_operation_7 rfl) ?_
  refine ct_al.cons (so_getR (Cn := "CodeTables") (T := ct_T0) kc_0 (by decide) rfl rfl wd_281 d_X_operation_8) ?_
  refine ct_al.cons (so_iload_n d_X_operation_11 rfl) ?_
  refine ct_al.cons (so_iload_n d_X_operation_12 rfl) ?_
  refine ct_al.cons (so_goto d_X_operation_16 (by decide)) ?_
  refine ct_al.cons (so_iconst d_X_operation_19 (by decide)) ?_
  refine ct_al.cons (so_istore_n d_X_operation_20 rfl (by decide)) ?_
  refine ct_al.cons (so_iload_n d_X_operation_21 rfl) ?_
  refine ct_al.cons (so_if_ge d_X_operation_22 (by decide)) ?_
  refine ct_al.cons (so_iconst d_X_operation_25 (by decide)) ?_
  refine ct_al.cons (so_goto d_X_operation_26 (by decide)) ?_
  refine ct_al.cons (so_aload_n d_X_operation_29 rfl) ?_
  refine ct_al.cons (so_getR (Cn := "CodeTables") (T := ct_T0) kc_0 (by decide) rfl rfl wd_281 d_X_operation_30) ?_
  refine ct_al.cons (so_getR (Cn := "CodeTables$Tables") (T := ct_T1) kc_1 (by decide) rfl rfl wd_327 d_X_operation_33) ?_
  refine ct_al.cons (so_iload_n d_X_operation_36 rfl) ?_
  refine ct_al.cons (so_bald d_X_operation_37) ?_
  exact ct_al.nil
theorem e_X_operation_0 : ct_tab (T_X_operation) 0 = some (o_aload 0 1) := rfl
theorem e_X_operation_1 : ct_tab (T_X_operation) 1 = some (o_getI 0 7 3) := rfl
theorem e_X_operation_4 : ct_tab (T_X_operation) 4 = some (o_if (fun x => x = 0) (fun x => ¬ x = 0) 19) := rfl
theorem e_X_operation_7 : ct_tab (T_X_operation) 7 = some (o_aload 0 1) := rfl
theorem e_X_operation_8 : ct_tab (T_X_operation) 8 = some (o_getR 0 7 4) := rfl
theorem e_X_operation_11 : ct_tab (T_X_operation) 11 = some (o_iload 1 1) := rfl
theorem e_X_operation_12 : ct_tab (T_X_operation) 12 = some (o_iload 2 1) := rfl
theorem e_X_operation_16 : ct_tab (T_X_operation) 16 = some (o_goto 20) := rfl
theorem e_X_operation_19 : ct_tab (T_X_operation) 19 = some (o_push (.int (-1)) 1) := rfl
theorem e_X_operation_20 : ct_tab (T_X_operation) 20 = some (o_istore 3 1) := rfl
theorem e_X_operation_21 : ct_tab (T_X_operation) 21 = some (o_iload 3 1) := rfl
theorem e_X_operation_22 : ct_tab (T_X_operation) 22 = some (o_if (fun x => 0 ≤ x) (fun x => ¬ 0 ≤ x) 29) := rfl
theorem e_X_operation_25 : ct_tab (T_X_operation) 25 = some (o_push (.int (-1)) 1) := rfl
theorem e_X_operation_26 : ct_tab (T_X_operation) 26 = some (o_goto 38) := rfl
theorem e_X_operation_29 : ct_tab (T_X_operation) 29 = some (o_aload 0 1) := rfl
theorem e_X_operation_30 : ct_tab (T_X_operation) 30 = some (o_getR 0 7 4) := rfl
theorem e_X_operation_33 : ct_tab (T_X_operation) 33 = some (o_getR 1 10 7) := rfl
theorem e_X_operation_36 : ct_tab (T_X_operation) 36 = some (o_iload 3 1) := rfl
theorem e_X_operation_37 : ct_tab (T_X_operation) 37 = some (o_bald) := rfl
theorem cl_X_operation_13 {l : ct_Lx} {d d1 : Nat} {Post Post1 : Option Value → ct_Sg → Prop} {lv : ct_Lv} {st : List Value} {g : ct_Sg} {bc bs c1 s1 : Nat} {a1 a2 : Value} {h : Nat} (hsh : g.2.1 h = (10 + 1, 10)) (hM : ct_Me l M_T_instructionAt d1 c1 s1 [.ref h, a1, a2] g Post1) (hdd : d1 + 1 ≤ d) (hk : (st.map fun v => v.category).sum ≤ 8) (hcc : c1 ≤ bc) (hss : s1 ≤ bs) (kk : ∀ (v : Option Value) (g' : ct_Sg), Post1 v g' → ct_Wp l M_X_operation d Post (16, lv, v.toList ++ st, g', bc - c1, bs - s1)) : ct_Wp l M_X_operation d Post (13, lv, a2 :: a1 :: .ref h :: st, g, bc, bs) := ct_Wp.callV (ci := 1) (N := 10) (T := ct_T1) (As := [a1, a2]) lk_T_instructionAt (Or.inl wd_324) wd_325 wd_326 rfl d_X_operation_13 hsh hM rfl hdd hk hcc hss kk
theorem d_X_operand_0 : decode prog_1_method_12_code 0 = .ok (.aload_n 0, 1) := by decide +kernel
theorem d_X_operand_1 : decode prog_1_method_12_code 1 = .ok (.getfield 20, 3) := by decide +kernel
theorem d_X_operand_4 : decode prog_1_method_12_code 4 = .ok (.ifCond .eq 15, 3) := by decide +kernel
theorem d_X_operand_7 : decode prog_1_method_12_code 7 = .ok (.aload_n 0, 1) := by decide +kernel
theorem d_X_operand_8 : decode prog_1_method_12_code 8 = .ok (.getfield 27, 3) := by decide +kernel
theorem d_X_operand_11 : decode prog_1_method_12_code 11 = .ok (.iload_n 1, 1) := by decide +kernel
theorem d_X_operand_12 : decode prog_1_method_12_code 12 = .ok (.iload_n 2, 1) := by decide +kernel
theorem d_X_operand_13 : decode prog_1_method_12_code 13 = .ok (.invokevirtual 96, 3) := by decide +kernel
theorem d_X_operand_16 : decode prog_1_method_12_code 16 = .ok (.goto 4, 3) := by decide +kernel
theorem d_X_operand_19 : decode prog_1_method_12_code 19 = .ok (.iconst (-1), 1) := by decide +kernel
theorem d_X_operand_20 : decode prog_1_method_12_code 20 = .ok (.istore 4, 2) := by decide +kernel
theorem d_X_operand_22 : decode prog_1_method_12_code 22 = .ok (.iload 4, 2) := by decide +kernel
theorem d_X_operand_24 : decode prog_1_method_12_code 24 = .ok (.ifCond .lt 12, 3) := by decide +kernel
theorem d_X_operand_27 : decode prog_1_method_12_code 27 = .ok (.iload_n 3, 1) := by decide +kernel
theorem d_X_operand_28 : decode prog_1_method_12_code 28 = .ok (.ifCond .lt 8, 3) := by decide +kernel
theorem d_X_operand_31 : decode prog_1_method_12_code 31 = .ok (.iload_n 3, 1) := by decide +kernel
theorem d_X_operand_32 : decode prog_1_method_12_code 32 = .ok (.iconst 1, 1) := by decide +kernel
theorem d_X_operand_33 : decode prog_1_method_12_code 33 = .ok (.if_icmp .le 5, 3) := by decide +kernel
theorem d_X_operand_36 : decode prog_1_method_12_code 36 = .ok (.lconst 0, 1) := by decide +kernel
theorem d_X_operand_37 : decode prog_1_method_12_code 37 = .ok (.lreturn, 1) := by decide +kernel
theorem d_X_operand_38 : decode prog_1_method_12_code 38 = .ok (.iload_n 3, 1) := by decide +kernel
theorem d_X_operand_39 : decode prog_1_method_12_code 39 = .ok (.ifCond .ne 16, 3) := by decide +kernel
theorem d_X_operand_42 : decode prog_1_method_12_code 42 = .ok (.aload_n 0, 1) := by decide +kernel
theorem d_X_operand_43 : decode prog_1_method_12_code 43 = .ok (.getfield 27, 3) := by decide +kernel
theorem d_X_operand_46 : decode prog_1_method_12_code 46 = .ok (.getfield 102, 3) := by decide +kernel
theorem d_X_operand_49 : decode prog_1_method_12_code 49 = .ok (.iload 4, 2) := by decide +kernel
theorem d_X_operand_51 : decode prog_1_method_12_code 51 = .ok (.laload, 1) := by decide +kernel
theorem d_X_operand_52 : decode prog_1_method_12_code 52 = .ok (.goto 13, 3) := by decide +kernel
theorem d_X_operand_55 : decode prog_1_method_12_code 55 = .ok (.aload_n 0, 1) := by decide +kernel
theorem d_X_operand_56 : decode prog_1_method_12_code 56 = .ok (.getfield 27, 3) := by decide +kernel
theorem d_X_operand_59 : decode prog_1_method_12_code 59 = .ok (.getfield 105, 3) := by decide +kernel
theorem d_X_operand_62 : decode prog_1_method_12_code 62 = .ok (.iload 4, 2) := by decide +kernel
theorem d_X_operand_64 : decode prog_1_method_12_code 64 = .ok (.laload, 1) := by decide +kernel
theorem d_X_operand_65 : decode prog_1_method_12_code 65 = .ok (.lreturn, 1) := by decide +kernel
abbrev T_X_operand : List (Nat × ct_PT) := [(0, o_aload 0 1), (1, o_getI 0 7 3), (4, o_if (fun x => x = 0) (fun x => ¬ x = 0) 19), (7, o_aload 0 1), (8, o_getR 0 7 4), (11, o_iload 1 1), (12, o_iload 2 1), (16, o_goto 20), (19, o_push (.int (-1)) 1), (20, o_istore 4 2), (22, o_iload 4 2), (24, o_if (fun x => x < 0) (fun x => ¬ x < 0) 36), (27, o_iload 3 1), (28, o_if (fun x => x < 0) (fun x => ¬ x < 0) 36), (31, o_iload 3 1), (32, o_push (.int 1) 1), (33, o_ic (fun x y => x ≤ y) (fun x y => ¬ x ≤ y) 38), (36, o_push (.long 0) 1), (38, o_iload 3 1), (39, o_if (fun x => ¬ x = 0) (fun x => x = 0) 55), (42, o_aload 0 1), (43, o_getR 0 7 4), (46, o_getR 1 10 8), (49, o_iload 4 2), (51, o_lald), (52, o_goto 65), (55, o_aload 0 1), (56, o_getR 0 7 4), (59, o_getR 1 10 9), (62, o_iload 4 2), (64, o_lald)]
set_option maxRecDepth 100000 in
theorem A_X_operand (l : ct_Lx) : ct_al l M_X_operand (T_X_operand) := by
  refine ct_al.cons (so_aload_n d_X_operand_0 rfl) ?_
  refine ct_al.cons (so_getI (Cn := "CodeTables") (T := ct_T0) kc_0 (by decide) rfl rfl wd_275 d_X_operand_1) ?_
  refine ct_al.cons (so_if_eq d_X_operand_4 (by decide)) ?_
  refine ct_al.cons (so_aload_n d_X_operand_7 rfl) ?_
  refine ct_al.cons (so_getR (Cn := "CodeTables") (T := ct_T0) kc_0 (by decide) rfl rfl wd_281 d_X_operand_8) ?_
  refine ct_al.cons (so_iload_n d_X_operand_11 rfl) ?_
  refine ct_al.cons (so_iload_n d_X_operand_12 rfl) ?_
  refine ct_al.cons (so_goto d_X_operand_16 (by decide)) ?_
  refine ct_al.cons (so_iconst d_X_operand_19 (by decide)) ?_
  refine ct_al.cons (so_istore d_X_operand_20 (by decide)) ?_
  refine ct_al.cons (so_iload d_X_operand_22) ?_
  refine ct_al.cons (so_if_lt d_X_operand_24 (by decide)) ?_
  refine ct_al.cons (so_iload_n d_X_operand_27 rfl) ?_
  refine ct_al.cons (so_if_lt d_X_operand_28 (by decide)) ?_
  refine ct_al.cons (so_iload_n d_X_operand_31 rfl) ?_
  refine ct_al.cons (so_iconst d_X_operand_32 (by decide)) ?_
  refine ct_al.cons (so_ic_le d_X_operand_33 (by decide)) ?_
  refine ct_al.cons (so_lconst d_X_operand_36 (by decide)) ?_
  refine ct_al.cons (so_iload_n d_X_operand_38 rfl) ?_
  refine ct_al.cons (so_if_ne d_X_operand_39 (by decide)) ?_
  refine ct_al.cons (so_aload_n d_X_operand_42 rfl) ?_
  refine ct_al.cons (so_getR (Cn := "CodeTables") (T := ct_T0) kc_0 (by decide) rfl rfl wd_281 d_X_operand_43) ?_
  refine ct_al.cons (so_getR (Cn := "CodeTables$Tables") (T := ct_T1) kc_1 (by decide) rfl rfl wd_328 d_X_operand_46) ?_
  refine ct_al.cons (so_iload d_X_operand_49) ?_
  refine ct_al.cons (so_lald d_X_operand_51) ?_
  refine ct_al.cons (so_goto d_X_operand_52 (by decide)) ?_
  refine ct_al.cons (so_aload_n d_X_operand_55 rfl) ?_
  refine ct_al.cons (so_getR (Cn := "CodeTables") (T := ct_T0) kc_0 (by decide) rfl rfl wd_281 d_X_operand_56) ?_
  refine ct_al.cons (so_getR (Cn := "CodeTables$Tables") (T := ct_T1) kc_1 (by decide) rfl rfl wd_329 d_X_operand_59) ?_
  refine ct_al.cons (so_iload d_X_operand_62) ?_
  refine ct_al.cons (so_lald d_X_operand_64) ?_
  exact ct_al.nil
theorem e_X_operand_0 : ct_tab (T_X_operand) 0 = some (o_aload 0 1) := rfl
theorem e_X_operand_1 : ct_tab (T_X_operand) 1 = some (o_getI 0 7 3) := rfl
theorem e_X_operand_4 : ct_tab (T_X_operand) 4 = some (o_if (fun x => x = 0) (fun x => ¬ x = 0) 19) := rfl
theorem e_X_operand_7 : ct_tab (T_X_operand) 7 = some (o_aload 0 1) := rfl
theorem e_X_operand_8 : ct_tab (T_X_operand) 8 = some (o_getR 0 7 4) := rfl
theorem e_X_operand_11 : ct_tab (T_X_operand) 11 = some (o_iload 1 1) := rfl
theorem e_X_operand_12 : ct_tab (T_X_operand) 12 = some (o_iload 2 1) := rfl
theorem e_X_operand_16 : ct_tab (T_X_operand) 16 = some (o_goto 20) := rfl
theorem e_X_operand_19 : ct_tab (T_X_operand) 19 = some (o_push (.int (-1)) 1) := rfl
theorem e_X_operand_20 : ct_tab (T_X_operand) 20 = some (o_istore 4 2) := rfl
theorem e_X_operand_22 : ct_tab (T_X_operand) 22 = some (o_iload 4 2) := rfl
theorem e_X_operand_24 : ct_tab (T_X_operand) 24 = some (o_if (fun x => x < 0) (fun x => ¬ x < 0) 36) := rfl
theorem e_X_operand_27 : ct_tab (T_X_operand) 27 = some (o_iload 3 1) := rfl
theorem e_X_operand_28 : ct_tab (T_X_operand) 28 = some (o_if (fun x => x < 0) (fun x => ¬ x < 0) 36) := rfl
theorem e_X_operand_31 : ct_tab (T_X_operand) 31 = some (o_iload 3 1) := rfl
theorem e_X_operand_32 : ct_tab (T_X_operand) 32 = some (o_push (.int 1) 1) := rfl
theorem e_X_operand_33 : ct_tab (T_X_operand) 33 = some (o_ic (fun x y => x ≤ y) (fun x y => ¬ x ≤ y) 38) := rfl
theorem e_X_operand_36 : ct_tab (T_X_operand) 36 = some (o_push (.long 0) 1) := rfl
theorem e_X_operand_38 : ct_tab (T_X_operand) 38 = some (o_iload 3 1) := rfl
theorem e_X_operand_39 : ct_tab (T_X_operand) 39 = some (o_if (fun x => ¬ x = 0) (fun x => x = 0) 55) := rfl
theorem e_X_operand_42 : ct_tab (T_X_operand) 42 = some (o_aload 0 1) := rfl
theorem e_X_operand_43 : ct_tab (T_X_operand) 43 = some (o_getR 0 7 4) := rfl
theorem e_X_operand_46 : ct_tab (T_X_operand) 46 = some (o_getR 1 10 8) := rfl
theorem e_X_operand_49 : ct_tab (T_X_operand) 49 = some (o_iload 4 2) := rfl
theorem e_X_operand_51 : ct_tab (T_X_operand) 51 = some (o_lald) := rfl
theorem e_X_operand_52 : ct_tab (T_X_operand) 52 = some (o_goto 65) := rfl
theorem e_X_operand_55 : ct_tab (T_X_operand) 55 = some (o_aload 0 1) := rfl
theorem e_X_operand_56 : ct_tab (T_X_operand) 56 = some (o_getR 0 7 4) := rfl
theorem e_X_operand_59 : ct_tab (T_X_operand) 59 = some (o_getR 1 10 9) := rfl
theorem e_X_operand_62 : ct_tab (T_X_operand) 62 = some (o_iload 4 2) := rfl
theorem e_X_operand_64 : ct_tab (T_X_operand) 64 = some (o_lald) := rfl
theorem cl_X_operand_13 {l : ct_Lx} {d d1 : Nat} {Post Post1 : Option Value → ct_Sg → Prop} {lv : ct_Lv} {st : List Value} {g : ct_Sg} {bc bs c1 s1 : Nat} {a1 a2 : Value} {h : Nat} (hsh : g.2.1 h = (10 + 1, 10)) (hM : ct_Me l M_T_instructionAt d1 c1 s1 [.ref h, a1, a2] g Post1) (hdd : d1 + 1 ≤ d) (hk : (st.map fun v => v.category).sum ≤ 8) (hcc : c1 ≤ bc) (hss : s1 ≤ bs) (kk : ∀ (v : Option Value) (g' : ct_Sg), Post1 v g' → ct_Wp l M_X_operand d Post (16, lv, v.toList ++ st, g', bc - c1, bs - s1)) : ct_Wp l M_X_operand d Post (13, lv, a2 :: a1 :: .ref h :: st, g, bc, bs) := ct_Wp.callV (ci := 1) (N := 10) (T := ct_T1) (As := [a1, a2]) lk_T_instructionAt (Or.inl wd_324) wd_325 wd_326 rfl d_X_operand_13 hsh hM rfl hdd hk hcc hss kk
theorem d_X_write_0 : decode prog_1_method_13_code 0 = .ok (.aload_n 0, 1) := by decide +kernel
theorem d_X_write_1 : decode prog_1_method_13_code 1 = .ok (.getfield 20, 3) := by decide +kernel
theorem d_X_write_4 : decode prog_1_method_13_code 4 = .ok (.ifCond .ne 5, 3) := by decide +kernel
theorem d_X_write_7 : decode prog_1_method_13_code 7 = .ok (.iconst (-1), 1) := by decide +kernel
theorem d_X_write_8 : decode prog_1_method_13_code 8 = .ok (.ireturn, 1) := by decide +kernel
theorem d_X_write_9 : decode prog_1_method_13_code 9 = .ok (.aload_n 0, 1) := by decide +kernel
theorem d_X_write_10 : decode prog_1_method_13_code 10 = .ok (.getfield 43, 3) := by decide +kernel
theorem d_X_write_13 : decode prog_1_method_13_code 13 = .ok (.invokevirtual 108, 3) := by decide +kernel
theorem d_X_write_16 : decode prog_1_method_13_code 16 = .ok (.aload_n 0, 1) := by decide +kernel
theorem d_X_write_17 : decode prog_1_method_13_code 17 = .ok (.getfield 43, 3) := by decide +kernel
theorem d_X_write_20 : decode prog_1_method_13_code 20 = .ok (.getfield 111, 3) := by decide +kernel
theorem d_X_write_23 : decode prog_1_method_13_code 23 = .ok (.ireturn, 1) := by decide +kernel
abbrev T_X_write : List (Nat × ct_PT) := [(0, o_aload 0 1), (1, o_getI 0 7 3), (4, o_if (fun x => ¬ x = 0) (fun x => x = 0) 9), (7, o_push (.int (-1)) 1), (9, o_aload 0 1), (10, o_getR 0 7 6), (16, o_aload 0 1), (17, o_getR 0 7 6), (20, o_getI 3 3 2)]
set_option maxRecDepth 100000 in
theorem A_X_write (l : ct_Lx) : ct_al l M_X_write (T_X_write) := by
  refine ct_al.cons (so_aload_n d_X_write_0 rfl) ?_
  refine ct_al.cons (so_getI (Cn := "CodeTables") (T := ct_T0) kc_0 (by decide) rfl rfl wd_275 d_X_write_1) ?_
  refine ct_al.cons (so_if_ne d_X_write_4 (by decide)) ?_
  refine ct_al.cons (so_iconst d_X_write_7 (by decide)) ?_
  refine ct_al.cons (so_aload_n d_X_write_9 rfl) ?_
  refine ct_al.cons (so_getR (Cn := "CodeTables") (T := ct_T0) kc_0 (by decide) rfl rfl wd_295 d_X_write_10) ?_
  refine ct_al.cons (so_aload_n d_X_write_16 rfl) ?_
  refine ct_al.cons (so_getR (Cn := "CodeTables") (T := ct_T0) kc_0 (by decide) rfl rfl wd_295 d_X_write_17) ?_
  refine ct_al.cons (so_getI (Cn := "CodeTables$Writer") (T := ct_T3) kc_3 (by decide) rfl rfl wd_335 d_X_write_20) ?_
  exact ct_al.nil
theorem e_X_write_0 : ct_tab (T_X_write) 0 = some (o_aload 0 1) := rfl
theorem e_X_write_1 : ct_tab (T_X_write) 1 = some (o_getI 0 7 3) := rfl
theorem e_X_write_4 : ct_tab (T_X_write) 4 = some (o_if (fun x => ¬ x = 0) (fun x => x = 0) 9) := rfl
theorem e_X_write_7 : ct_tab (T_X_write) 7 = some (o_push (.int (-1)) 1) := rfl
theorem e_X_write_9 : ct_tab (T_X_write) 9 = some (o_aload 0 1) := rfl
theorem e_X_write_10 : ct_tab (T_X_write) 10 = some (o_getR 0 7 6) := rfl
theorem e_X_write_16 : ct_tab (T_X_write) 16 = some (o_aload 0 1) := rfl
theorem e_X_write_17 : ct_tab (T_X_write) 17 = some (o_getR 0 7 6) := rfl
theorem e_X_write_20 : ct_tab (T_X_write) 20 = some (o_getI 3 3 2) := rfl
theorem cl_X_write_13 {l : ct_Lx} {d d1 : Nat} {Post Post1 : Option Value → ct_Sg → Prop} {lv : ct_Lv} {st : List Value} {g : ct_Sg} {bc bs c1 s1 : Nat} {h : Nat} (hsh : g.2.1 h = (10 + 3, 3)) (hM : ct_Me l M_W_putModule d1 c1 s1 [.ref h] g Post1) (hdd : d1 + 1 ≤ d) (hk : (st.map fun v => v.category).sum ≤ 8) (hcc : c1 ≤ bc) (hss : s1 ≤ bs) (kk : ∀ (v : Option Value) (g' : ct_Sg), Post1 v g' → ct_Wp l M_X_write d Post (16, lv, v.toList ++ st, g', bc - c1, bs - s1)) : ct_Wp l M_X_write d Post (13, lv, .ref h :: st, g, bc, bs) := ct_Wp.callV (ci := 3) (N := 3) (T := ct_T3) (As := []) lk_W_putModule (Or.inl wd_332) wd_333 wd_334 rfl d_X_write_13 hsh hM rfl hdd hk hcc hss kk
theorem d_X_written_0 : decode prog_1_method_14_code 0 = .ok (.iload_n 1, 1) := by decide +kernel
theorem d_X_written_1 : decode prog_1_method_14_code 1 = .ok (.ifCond .lt 30, 3) := by decide +kernel
theorem d_X_written_4 : decode prog_1_method_14_code 4 = .ok (.iload_n 1, 1) := by decide +kernel
theorem d_X_written_5 : decode prog_1_method_14_code 5 = .ok (.aload_n 0, 1) := by decide +kernel
theorem d_X_written_6 : decode prog_1_method_14_code 6 = .ok (.getfield 43, 3) := by decide +kernel
theorem d_X_written_9 : decode prog_1_method_14_code 9 = .ok (.getfield 111, 3) := by decide +kernel
theorem d_X_written_12 : decode prog_1_method_14_code 12 = .ok (.if_icmp .ge 19, 3) := by decide +kernel
theorem d_X_written_15 : decode prog_1_method_14_code 15 = .ok (.aload_n 0, 1) := by decide +kernel
theorem d_X_written_16 : decode prog_1_method_14_code 16 = .ok (.getfield 43, 3) := by decide +kernel
theorem d_X_written_19 : decode prog_1_method_14_code 19 = .ok (.getfield 112, 3) := by decide +kernel
theorem d_X_written_22 : decode prog_1_method_14_code 22 = .ok (.iload_n 1, 1) := by decide +kernel
theorem d_X_written_23 : decode prog_1_method_14_code 23 = .ok (.baload, 1) := by decide +kernel
theorem d_X_written_24 : decode prog_1_method_14_code 24 = .ok (.sipush 255, 3) := by decide +kernel
theorem d_X_written_27 : decode prog_1_method_14_code 27 = .ok (.iand, 1) := by decide +kernel
theorem d_X_written_28 : decode prog_1_method_14_code 28 = .ok (.goto 4, 3) := by decide +kernel
theorem d_X_written_31 : decode prog_1_method_14_code 31 = .ok (.iconst (-1), 1) := by decide +kernel
theorem d_X_written_32 : decode prog_1_method_14_code 32 = .ok (.ireturn, 1) := by decide +kernel
abbrev T_X_written : List (Nat × ct_PT) := [(0, o_iload 1 1), (1, o_if (fun x => x < 0) (fun x => ¬ x < 0) 31), (4, o_iload 1 1), (5, o_aload 0 1), (6, o_getR 0 7 6), (9, o_getI 3 3 2), (12, o_ic (fun x y => y ≤ x) (fun x y => ¬ y ≤ x) 31), (15, o_aload 0 1), (16, o_getR 0 7 6), (19, o_getR 3 3 1), (22, o_iload 1 1), (23, o_bald), (24, o_push (.int 255) 3), (27, o_ii fun x y => x &&& y), (28, o_goto 32), (31, o_push (.int (-1)) 1)]
set_option maxRecDepth 100000 in
theorem A_X_written (l : ct_Lx) : ct_al l M_X_written (T_X_written) := by
  refine ct_al.cons (so_iload_n d_X_written_0 rfl) ?_
  refine ct_al.cons (so_if_lt d_X_written_1 (by decide)) ?_
  refine ct_al.cons (so_iload_n d_X_written_4 rfl) ?_
  refine ct_al.cons (so_aload_n d_X_written_5 rfl) ?_
  refine ct_al.cons (so_getR (Cn := "CodeTables") (T := ct_T0) kc_0 (by decide) rfl rfl wd_295 d_X_written_6) ?_
  refine ct_al.cons (so_getI (Cn := "CodeTables$Writer") (T := ct_T3) kc_3 (by decide) rfl rfl wd_335 d_X_written_9) ?_
  refine ct_al.cons (so_ic_ge d_X_written_12 (by decide)) ?_
  refine ct_al.cons (so_aload_n d_X_written_15 rfl) ?_
  refine ct_al.cons (so_getR (Cn := "CodeTables") (T := ct_T0) kc_0 (by decide) rfl rfl wd_295 d_X_written_16) ?_
  refine ct_al.cons (so_getR (Cn := "CodeTables$Writer") (T := ct_T3) kc_3 (by decide) rfl rfl wd_336 d_X_written_19) ?_
  refine ct_al.cons (so_iload_n d_X_written_22 rfl) ?_
  refine ct_al.cons (so_bald d_X_written_23) ?_
  refine ct_al.cons (so_sipush d_X_written_24 (by decide)) ?_
  refine ct_al.cons (so_iand d_X_written_27) ?_
  refine ct_al.cons (so_goto d_X_written_28 (by decide)) ?_
  refine ct_al.cons (so_iconst d_X_written_31 (by decide)) ?_
  exact ct_al.nil
theorem e_X_written_0 : ct_tab (T_X_written) 0 = some (o_iload 1 1) := rfl
theorem e_X_written_1 : ct_tab (T_X_written) 1 = some (o_if (fun x => x < 0) (fun x => ¬ x < 0) 31) := rfl
theorem e_X_written_4 : ct_tab (T_X_written) 4 = some (o_iload 1 1) := rfl
theorem e_X_written_5 : ct_tab (T_X_written) 5 = some (o_aload 0 1) := rfl
theorem e_X_written_6 : ct_tab (T_X_written) 6 = some (o_getR 0 7 6) := rfl
theorem e_X_written_9 : ct_tab (T_X_written) 9 = some (o_getI 3 3 2) := rfl
theorem e_X_written_12 : ct_tab (T_X_written) 12 = some (o_ic (fun x y => y ≤ x) (fun x y => ¬ y ≤ x) 31) := rfl
theorem e_X_written_15 : ct_tab (T_X_written) 15 = some (o_aload 0 1) := rfl
theorem e_X_written_16 : ct_tab (T_X_written) 16 = some (o_getR 0 7 6) := rfl
theorem e_X_written_19 : ct_tab (T_X_written) 19 = some (o_getR 3 3 1) := rfl
theorem e_X_written_22 : ct_tab (T_X_written) 22 = some (o_iload 1 1) := rfl
theorem e_X_written_23 : ct_tab (T_X_written) 23 = some (o_bald) := rfl
theorem e_X_written_24 : ct_tab (T_X_written) 24 = some (o_push (.int 255) 3) := rfl
theorem e_X_written_27 : ct_tab (T_X_written) 27 = some (o_ii fun x y => x &&& y) := rfl
theorem e_X_written_28 : ct_tab (T_X_written) 28 = some (o_goto 32) := rfl
theorem e_X_written_31 : ct_tab (T_X_written) 31 = some (o_push (.int (-1)) 1) := rfl
theorem d_X_withRoom_0 : decode prog_1_method_15_code 0 = .ok (.iload_n 1, 1) := by decide +kernel
theorem d_X_withRoom_1 : decode prog_1_method_15_code 1 = .ok (.aload_n 0, 1) := by decide +kernel
theorem d_X_withRoom_2 : decode prog_1_method_15_code 2 = .ok (.arraylength, 1) := by decide +kernel
theorem d_X_withRoom_3 : decode prog_1_method_15_code 3 = .ok (.if_icmp .gt 7, 3) := by decide +kernel
theorem d_X_withRoom_6 : decode prog_1_method_15_code 6 = .ok (.aload_n 0, 1) := by decide +kernel
theorem d_X_withRoom_7 : decode prog_1_method_15_code 7 = .ok (.goto 9, 3) := by decide +kernel
theorem d_X_withRoom_10 : decode prog_1_method_15_code 10 = .ok (.aload_n 0, 1) := by decide +kernel
theorem d_X_withRoom_11 : decode prog_1_method_15_code 11 = .ok (.ldc 47, 2) := by decide +kernel
theorem d_X_withRoom_13 : decode prog_1_method_15_code 13 = .ok (.invokestatic 115, 3) := by decide +kernel
theorem d_X_withRoom_16 : decode prog_1_method_15_code 16 = .ok (.areturn, 1) := by decide +kernel
abbrev T_X_withRoom : List (Nat × ct_PT) := [(0, o_iload 1 1), (1, o_aload 0 1), (2, o_alen), (3, o_ic (fun x y => y < x) (fun x y => ¬ y < x) 10), (6, o_aload 0 1), (7, o_goto 16), (10, o_aload 0 1), (11, o_push (.int 65536) 2)]
set_option maxRecDepth 100000 in
theorem A_X_withRoom (l : ct_Lx) : ct_al l M_X_withRoom (T_X_withRoom) := by
  refine ct_al.cons (so_iload_n d_X_withRoom_0 rfl) ?_
  refine ct_al.cons (so_aload_n d_X_withRoom_1 rfl) ?_
  refine ct_al.cons (so_alen d_X_withRoom_2) ?_
  refine ct_al.cons (so_ic_gt d_X_withRoom_3 (by decide)) ?_
  refine ct_al.cons (so_aload_n d_X_withRoom_6 rfl) ?_
  refine ct_al.cons (so_goto d_X_withRoom_7 (by decide)) ?_
  refine ct_al.cons (so_aload_n d_X_withRoom_10 rfl) ?_
  refine ct_al.cons (so_ldc wd_296 d_X_withRoom_11) ?_
  exact ct_al.nil
theorem e_X_withRoom_0 : ct_tab (T_X_withRoom) 0 = some (o_iload 1 1) := rfl
theorem e_X_withRoom_1 : ct_tab (T_X_withRoom) 1 = some (o_aload 0 1) := rfl
theorem e_X_withRoom_2 : ct_tab (T_X_withRoom) 2 = some (o_alen) := rfl
theorem e_X_withRoom_3 : ct_tab (T_X_withRoom) 3 = some (o_ic (fun x y => y < x) (fun x y => ¬ y < x) 10) := rfl
theorem e_X_withRoom_6 : ct_tab (T_X_withRoom) 6 = some (o_aload 0 1) := rfl
theorem e_X_withRoom_7 : ct_tab (T_X_withRoom) 7 = some (o_goto 16) := rfl
theorem e_X_withRoom_10 : ct_tab (T_X_withRoom) 10 = some (o_aload 0 1) := rfl
theorem e_X_withRoom_11 : ct_tab (T_X_withRoom) 11 = some (o_push (.int 65536) 2) := rfl
theorem d_X_putBytes_0 : decode prog_1_method_16_code 0 = .ok (.iconst 0, 1) := by decide +kernel
theorem d_X_putBytes_1 : decode prog_1_method_16_code 1 = .ok (.istore 5, 2) := by decide +kernel
theorem d_X_putBytes_3 : decode prog_1_method_16_code 3 = .ok (.iload 5, 2) := by decide +kernel
theorem d_X_putBytes_5 : decode prog_1_method_16_code 5 = .ok (.iload 4, 2) := by decide +kernel
theorem d_X_putBytes_7 : decode prog_1_method_16_code 7 = .ok (.if_icmp .ge 29, 3) := by decide +kernel
theorem d_X_putBytes_10 : decode prog_1_method_16_code 10 = .ok (.aload_n 0, 1) := by decide +kernel
theorem d_X_putBytes_11 : decode prog_1_method_16_code 11 = .ok (.iload_n 1, 1) := by decide +kernel
theorem d_X_putBytes_12 : decode prog_1_method_16_code 12 = .ok (.iload 5, 2) := by decide +kernel
theorem d_X_putBytes_14 : decode prog_1_method_16_code 14 = .ok (.iadd, 1) := by decide +kernel
theorem d_X_putBytes_15 : decode prog_1_method_16_code 15 = .ok (.lload_n 2, 1) := by decide +kernel
theorem d_X_putBytes_16 : decode prog_1_method_16_code 16 = .ok (.bipush 8, 2) := by decide +kernel
theorem d_X_putBytes_18 : decode prog_1_method_16_code 18 = .ok (.iload 4, 2) := by decide +kernel
theorem d_X_putBytes_20 : decode prog_1_method_16_code 20 = .ok (.iconst 1, 1) := by decide +kernel
theorem d_X_putBytes_21 : decode prog_1_method_16_code 21 = .ok (.isub, 1) := by decide +kernel
theorem d_X_putBytes_22 : decode prog_1_method_16_code 22 = .ok (.iload 5, 2) := by decide +kernel
theorem d_X_putBytes_24 : decode prog_1_method_16_code 24 = .ok (.isub, 1) := by decide +kernel
theorem d_X_putBytes_25 : decode prog_1_method_16_code 25 = .ok (.imul, 1) := by decide +kernel
theorem d_X_putBytes_26 : decode prog_1_method_16_code 26 = .ok (.lushr, 1) := by decide +kernel
theorem d_X_putBytes_27 : decode prog_1_method_16_code 27 = .ok (.l2i, 1) := by decide +kernel
theorem d_X_putBytes_28 : decode prog_1_method_16_code 28 = .ok (.i2b, 1) := by decide +kernel
theorem d_X_putBytes_29 : decode prog_1_method_16_code 29 = .ok (.bastore, 1) := by decide +kernel
theorem d_X_putBytes_30 : decode prog_1_method_16_code 30 = .ok (.iinc 5 1, 3) := by decide +kernel
theorem d_X_putBytes_33 : decode prog_1_method_16_code 33 = .ok (.goto (-30), 3) := by decide +kernel
theorem d_X_putBytes_36 : decode prog_1_method_16_code 36 = .ok (.return_, 1) := by decide +kernel
abbrev T_X_putBytes : List (Nat × ct_PT) := [(0, o_push (.int 0) 1), (1, o_istore 5 2), (3, o_iload 5 2), (5, o_iload 4 2), (7, o_ic (fun x y => y ≤ x) (fun x y => ¬ y ≤ x) 36), (10, o_aload 0 1), (11, o_iload 1 1), (12, o_iload 5 2), (14, o_ii fun x y => x + y), (15, o_lload 2 1), (16, o_push (.int 8) 2), (18, o_iload 4 2), (20, o_push (.int 1) 1), (21, o_ii fun x y => x - y), (22, o_iload 5 2), (24, o_ii fun x y => x - y), (25, o_ii fun x y => x * y), (26, o_li fun x y => (x.toUInt64 >>> (y.toInt64.toUInt64 &&& Int64.toUInt64 63)).toInt64), (27, o_l2i), (28, o_i1 fun x => x.toInt8.toInt32), (29, o_bast), (30, o_iinc 5 1), (33, o_goto 3)]
set_option maxRecDepth 100000 in
theorem A_X_putBytes (l : ct_Lx) : ct_al l M_X_putBytes (T_X_putBytes) := by
  refine ct_al.cons (so_iconst d_X_putBytes_0 (by decide)) ?_
  refine ct_al.cons (so_istore d_X_putBytes_1 (by decide)) ?_
  refine ct_al.cons (so_iload d_X_putBytes_3) ?_
  refine ct_al.cons (so_iload d_X_putBytes_5) ?_
  refine ct_al.cons (so_ic_ge d_X_putBytes_7 (by decide)) ?_
  refine ct_al.cons (so_aload_n d_X_putBytes_10 rfl) ?_
  refine ct_al.cons (so_iload_n d_X_putBytes_11 rfl) ?_
  refine ct_al.cons (so_iload d_X_putBytes_12) ?_
  refine ct_al.cons (so_iadd d_X_putBytes_14) ?_
  refine ct_al.cons (so_lload_n d_X_putBytes_15 rfl) ?_
  refine ct_al.cons (so_bipush d_X_putBytes_16 (by decide)) ?_
  refine ct_al.cons (so_iload d_X_putBytes_18) ?_
  refine ct_al.cons (so_iconst d_X_putBytes_20 (by decide)) ?_
  refine ct_al.cons (so_isub d_X_putBytes_21) ?_
  refine ct_al.cons (so_iload d_X_putBytes_22) ?_
  refine ct_al.cons (so_isub d_X_putBytes_24) ?_
  refine ct_al.cons (so_imul d_X_putBytes_25) ?_
  refine ct_al.cons (so_lushr d_X_putBytes_26) ?_
  refine ct_al.cons (so_l2i d_X_putBytes_27) ?_
  refine ct_al.cons (so_i2b d_X_putBytes_28) ?_
  refine ct_al.cons (so_bast d_X_putBytes_29) ?_
  refine ct_al.cons (so_iinc d_X_putBytes_30 (by decide) (by decide)) ?_
  refine ct_al.cons (so_goto d_X_putBytes_33 (by decide)) ?_
  exact ct_al.nil
theorem e_X_putBytes_0 : ct_tab (T_X_putBytes) 0 = some (o_push (.int 0) 1) := rfl
theorem e_X_putBytes_1 : ct_tab (T_X_putBytes) 1 = some (o_istore 5 2) := rfl
theorem e_X_putBytes_3 : ct_tab (T_X_putBytes) 3 = some (o_iload 5 2) := rfl
theorem e_X_putBytes_5 : ct_tab (T_X_putBytes) 5 = some (o_iload 4 2) := rfl
theorem e_X_putBytes_7 : ct_tab (T_X_putBytes) 7 = some (o_ic (fun x y => y ≤ x) (fun x y => ¬ y ≤ x) 36) := rfl
theorem e_X_putBytes_10 : ct_tab (T_X_putBytes) 10 = some (o_aload 0 1) := rfl
theorem e_X_putBytes_11 : ct_tab (T_X_putBytes) 11 = some (o_iload 1 1) := rfl
theorem e_X_putBytes_12 : ct_tab (T_X_putBytes) 12 = some (o_iload 5 2) := rfl
theorem e_X_putBytes_14 : ct_tab (T_X_putBytes) 14 = some (o_ii fun x y => x + y) := rfl
theorem e_X_putBytes_15 : ct_tab (T_X_putBytes) 15 = some (o_lload 2 1) := rfl
theorem e_X_putBytes_16 : ct_tab (T_X_putBytes) 16 = some (o_push (.int 8) 2) := rfl
theorem e_X_putBytes_18 : ct_tab (T_X_putBytes) 18 = some (o_iload 4 2) := rfl
theorem e_X_putBytes_20 : ct_tab (T_X_putBytes) 20 = some (o_push (.int 1) 1) := rfl
theorem e_X_putBytes_21 : ct_tab (T_X_putBytes) 21 = some (o_ii fun x y => x - y) := rfl
theorem e_X_putBytes_22 : ct_tab (T_X_putBytes) 22 = some (o_iload 5 2) := rfl
theorem e_X_putBytes_24 : ct_tab (T_X_putBytes) 24 = some (o_ii fun x y => x - y) := rfl
theorem e_X_putBytes_25 : ct_tab (T_X_putBytes) 25 = some (o_ii fun x y => x * y) := rfl
theorem e_X_putBytes_26 : ct_tab (T_X_putBytes) 26 = some (o_li fun x y => (x.toUInt64 >>> (y.toInt64.toUInt64 &&& Int64.toUInt64 63)).toInt64) := rfl
theorem e_X_putBytes_27 : ct_tab (T_X_putBytes) 27 = some (o_l2i) := rfl
theorem e_X_putBytes_28 : ct_tab (T_X_putBytes) 28 = some (o_i1 fun x => x.toInt8.toInt32) := rfl
theorem e_X_putBytes_29 : ct_tab (T_X_putBytes) 29 = some (o_bast) := rfl
theorem e_X_putBytes_30 : ct_tab (T_X_putBytes) 30 = some (o_iinc 5 1) := rfl
theorem e_X_putBytes_33 : ct_tab (T_X_putBytes) 33 = some (o_goto 3) := rfl
