theorem d_W_init_0 : decode prog_5_method_1_code 0 = .ok (.aload_n 0, 1) := by decide +kernel
theorem d_W_init_1 : decode prog_5_method_1_code 1 = .ok (.invokespecial 3, 3) := by decide +kernel
theorem d_W_init_4 : decode prog_5_method_1_code 4 = .ok (.aload_n 0, 1) := by decide +kernel
theorem d_W_init_5 : decode prog_5_method_1_code 5 = .ok (.sipush 4096, 3) := by decide +kernel
theorem d_W_init_8 : decode prog_5_method_1_code 8 = .ok (.newarray .byte, 2) := by decide +kernel
theorem d_W_init_10 : decode prog_5_method_1_code 10 = .ok (.putfield 9, 3) := by decide +kernel
theorem d_W_init_13 : decode prog_5_method_1_code 13 = .ok (.aload_n 0, 1) := by decide +kernel
theorem d_W_init_14 : decode prog_5_method_1_code 14 = .ok (.iconst 0, 1) := by decide +kernel
theorem d_W_init_15 : decode prog_5_method_1_code 15 = .ok (.putfield 15, 3) := by decide +kernel
theorem d_W_init_18 : decode prog_5_method_1_code 18 = .ok (.aload_n 0, 1) := by decide +kernel
theorem d_W_init_19 : decode prog_5_method_1_code 19 = .ok (.aload_n 1, 1) := by decide +kernel
theorem d_W_init_20 : decode prog_5_method_1_code 20 = .ok (.putfield 19, 3) := by decide +kernel
theorem d_W_init_23 : decode prog_5_method_1_code 23 = .ok (.return_, 1) := by decide +kernel
abbrev T_W_init : List (Nat × ct_PT) := [(0, o_aload 0 1), (1, o_oinit), (4, o_aload 0 1), (5, o_push (.int 4096) 3), (8, o_newa 2), (10, o_putR 3 3 1), (13, o_aload 0 1), (14, o_push (.int 0) 1), (15, o_putI 3 3 2), (18, o_aload 0 1), (19, o_aload 1 1), (20, o_putR 3 3 0)]
set_option maxRecDepth 100000 in
theorem A_W_init (l : ct_Lx) : ct_al l M_W_init (T_W_init) := by
  refine ct_al.cons (so_aload_n d_W_init_0 rfl) ?_
  refine ct_al.cons (so_oinit wd_195 wd_1 wd_2 d_W_init_1) ?_
  refine ct_al.cons (so_aload_n d_W_init_4 rfl) ?_
  refine ct_al.cons (so_sipush d_W_init_5 (by decide)) ?_
  refine ct_al.cons (so_newa (Or.inr (Or.inl ⟨rfl, rfl⟩)) rfl wd_12 d_W_init_8) ?_
  refine ct_al.cons (so_putR (Cn := "CodeTables$Writer") (T := ct_T3) kc_3 (by decide) (Or.inr ⟨_, rfl⟩) rfl (Or.inl rfl) wd_196 d_W_init_10) ?_
  refine ct_al.cons (so_aload_n d_W_init_13 rfl) ?_
  refine ct_al.cons (so_iconst d_W_init_14 (by decide)) ?_
  refine ct_al.cons (so_putI (Cn := "CodeTables$Writer") (T := ct_T3) kc_3 (by decide) rfl rfl (Or.inl rfl) wd_197 d_W_init_15) ?_
  refine ct_al.cons (so_aload_n d_W_init_18 rfl) ?_
  refine ct_al.cons (so_aload_n d_W_init_19 rfl) ?_
  refine ct_al.cons (so_putR (Cn := "CodeTables$Writer") (T := ct_T3) kc_3 (by decide) (Or.inl ⟨_, rfl⟩) rfl (Or.inr ⟨rfl, rfl, rfl⟩) wd_198 d_W_init_20) ?_
  exact ct_al.nil
theorem e_W_init_0 : ct_tab (T_W_init) 0 = some (o_aload 0 1) := rfl
theorem e_W_init_1 : ct_tab (T_W_init) 1 = some (o_oinit) := rfl
theorem e_W_init_4 : ct_tab (T_W_init) 4 = some (o_aload 0 1) := rfl
theorem e_W_init_5 : ct_tab (T_W_init) 5 = some (o_push (.int 4096) 3) := rfl
theorem e_W_init_8 : ct_tab (T_W_init) 8 = some (o_newa 2) := rfl
theorem e_W_init_10 : ct_tab (T_W_init) 10 = some (o_putR 3 3 1) := rfl
theorem e_W_init_13 : ct_tab (T_W_init) 13 = some (o_aload 0 1) := rfl
theorem e_W_init_14 : ct_tab (T_W_init) 14 = some (o_push (.int 0) 1) := rfl
theorem e_W_init_15 : ct_tab (T_W_init) 15 = some (o_putI 3 3 2) := rfl
theorem e_W_init_18 : ct_tab (T_W_init) 18 = some (o_aload 0 1) := rfl
theorem e_W_init_19 : ct_tab (T_W_init) 19 = some (o_aload 1 1) := rfl
theorem e_W_init_20 : ct_tab (T_W_init) 20 = some (o_putR 3 3 0) := rfl
theorem d_W_putModule_0 : decode prog_5_method_2_code 0 = .ok (.aload_n 0, 1) := by decide +kernel
theorem d_W_putModule_1 : decode prog_5_method_2_code 1 = .ok (.iconst 0, 1) := by decide +kernel
theorem d_W_putModule_2 : decode prog_5_method_2_code 2 = .ok (.putfield 15, 3) := by decide +kernel
theorem d_W_putModule_5 : decode prog_5_method_2_code 5 = .ok (.iconst 0, 1) := by decide +kernel
theorem d_W_putModule_6 : decode prog_5_method_2_code 6 = .ok (.istore_n 1, 1) := by decide +kernel
theorem d_W_putModule_7 : decode prog_5_method_2_code 7 = .ok (.iload_n 1, 1) := by decide +kernel
theorem d_W_putModule_8 : decode prog_5_method_2_code 8 = .ok (.getstatic 23, 3) := by decide +kernel
theorem d_W_putModule_11 : decode prog_5_method_2_code 11 = .ok (.arraylength, 1) := by decide +kernel
theorem d_W_putModule_12 : decode prog_5_method_2_code 12 = .ok (.if_icmp .ge 20, 3) := by decide +kernel
theorem d_W_putModule_15 : decode prog_5_method_2_code 15 = .ok (.aload_n 0, 1) := by decide +kernel
theorem d_W_putModule_16 : decode prog_5_method_2_code 16 = .ok (.getstatic 23, 3) := by decide +kernel
theorem d_W_putModule_19 : decode prog_5_method_2_code 19 = .ok (.iload_n 1, 1) := by decide +kernel
theorem d_W_putModule_20 : decode prog_5_method_2_code 20 = .ok (.iaload, 1) := by decide +kernel
theorem d_W_putModule_21 : decode prog_5_method_2_code 21 = .ok (.i2l, 1) := by decide +kernel
theorem d_W_putModule_22 : decode prog_5_method_2_code 22 = .ok (.iconst 1, 1) := by decide +kernel
theorem d_W_putModule_23 : decode prog_5_method_2_code 23 = .ok (.invokevirtual 27, 3) := by decide +kernel
theorem d_W_putModule_26 : decode prog_5_method_2_code 26 = .ok (.iinc 1 1, 3) := by decide +kernel
theorem d_W_putModule_29 : decode prog_5_method_2_code 29 = .ok (.goto (-22), 3) := by decide +kernel
theorem d_W_putModule_32 : decode prog_5_method_2_code 32 = .ok (.aload_n 0, 1) := by decide +kernel
theorem d_W_putModule_33 : decode prog_5_method_2_code 33 = .ok (.aload_n 0, 1) := by decide +kernel
theorem d_W_putModule_34 : decode prog_5_method_2_code 34 = .ok (.getfield 19, 3) := by decide +kernel
theorem d_W_putModule_37 : decode prog_5_method_2_code 37 = .ok (.getfield 31, 3) := by decide +kernel
theorem d_W_putModule_40 : decode prog_5_method_2_code 40 = .ok (.iconst 0, 1) := by decide +kernel
theorem d_W_putModule_41 : decode prog_5_method_2_code 41 = .ok (.iaload, 1) := by decide +kernel
theorem d_W_putModule_42 : decode prog_5_method_2_code 42 = .ok (.i2l, 1) := by decide +kernel
theorem d_W_putModule_43 : decode prog_5_method_2_code 43 = .ok (.iconst 2, 1) := by decide +kernel
theorem d_W_putModule_44 : decode prog_5_method_2_code 44 = .ok (.invokevirtual 27, 3) := by decide +kernel
theorem d_W_putModule_47 : decode prog_5_method_2_code 47 = .ok (.aload_n 0, 1) := by decide +kernel
theorem d_W_putModule_48 : decode prog_5_method_2_code 48 = .ok (.invokevirtual 36, 3) := by decide +kernel
theorem d_W_putModule_51 : decode prog_5_method_2_code 51 = .ok (.aload_n 0, 1) := by decide +kernel
theorem d_W_putModule_52 : decode prog_5_method_2_code 52 = .ok (.invokevirtual 39, 3) := by decide +kernel
theorem d_W_putModule_55 : decode prog_5_method_2_code 55 = .ok (.aload_n 0, 1) := by decide +kernel
theorem d_W_putModule_56 : decode prog_5_method_2_code 56 = .ok (.invokevirtual 42, 3) := by decide +kernel
theorem d_W_putModule_59 : decode prog_5_method_2_code 59 = .ok (.aload_n 0, 1) := by decide +kernel
theorem d_W_putModule_60 : decode prog_5_method_2_code 60 = .ok (.invokevirtual 45, 3) := by decide +kernel
theorem d_W_putModule_63 : decode prog_5_method_2_code 63 = .ok (.aload_n 0, 1) := by decide +kernel
theorem d_W_putModule_64 : decode prog_5_method_2_code 64 = .ok (.invokevirtual 48, 3) := by decide +kernel
theorem d_W_putModule_67 : decode prog_5_method_2_code 67 = .ok (.return_, 1) := by decide +kernel
abbrev T_W_putModule : List (Nat × ct_PT) := [(0, o_aload 0 1), (1, o_push (.int 0) 1), (2, o_putI 3 3 2), (5, o_push (.int 0) 1), (6, o_istore 1 1), (7, o_iload 1 1), (8, o_push (.ref 0) 3), (11, o_mlen), (12, o_ic (fun x y => y ≤ x) (fun x y => ¬ y ≤ x) 32), (15, o_aload 0 1), (16, o_push (.ref 0) 3), (19, o_iload 1 1), (20, o_mald), (21, o_i2l), (22, o_push (.int 1) 1), (26, o_iinc 1 1), (29, o_goto 7), (32, o_aload 0 1), (33, o_aload 0 1), (34, o_getR 3 3 0), (37, o_getR 1 10 0), (40, o_push (.int 0) 1), (41, o_iald), (42, o_i2l), (43, o_push (.int 2) 1), (47, o_aload 0 1), (51, o_aload 0 1), (55, o_aload 0 1), (59, o_aload 0 1), (63, o_aload 0 1)]
set_option maxRecDepth 100000 in
theorem A_W_putModule (l : ct_Lx) : ct_al l M_W_putModule (T_W_putModule) := by
  refine ct_al.cons (so_aload_n d_W_putModule_0 rfl) ?_
  refine ct_al.cons (so_iconst d_W_putModule_1 (by decide)) ?_
  refine ct_al.cons (so_putI (Cn := "CodeTables$Writer") (T := ct_T3) kc_3 (by decide) rfl rfl (Or.inl rfl) wd_197 d_W_putModule_2) ?_
  refine ct_al.cons (so_iconst d_W_putModule_5 (by decide)) ?_
  refine ct_al.cons (so_istore_n d_W_putModule_6 rfl (by decide)) ?_
  refine ct_al.cons (so_iload_n d_W_putModule_7 rfl) ?_
  refine ct_al.cons (so_gmark nw_1 d_W_putModule_8) ?_
  refine ct_al.cons (so_mlen d_W_putModule_11) ?_
  refine ct_al.cons (so_ic_ge d_W_putModule_12 (by decide)) ?_
  refine ct_al.cons (so_aload_n d_W_putModule_15 rfl) ?_
  refine ct_al.cons (so_gmark nw_1 d_W_putModule_16) ?_
  refine ct_al.cons (so_iload_n d_W_putModule_19 rfl) ?_
  refine ct_al.cons (so_mald d_W_putModule_20) ?_
  refine ct_al.cons (so_i2l d_W_putModule_21) ?_
  refine ct_al.cons (so_iconst d_W_putModule_22 (by decide)) ?_
  refine ct_al.cons (so_iinc d_W_putModule_26 (by decide) (by decide)) ?_
  refine ct_al.cons (so_goto d_W_putModule_29 (by decide)) ?_
  refine ct_al.cons (so_aload_n d_W_putModule_32 rfl) ?_
  refine ct_al.cons (so_aload_n d_W_putModule_33 rfl) ?_
  refine ct_al.cons (so_getR (Cn := "CodeTables$Writer") (T := ct_T3) kc_3 (by decide) rfl rfl wd_198 d_W_putModule_34) ?_
  refine ct_al.cons (so_getR (Cn := "CodeTables$Tables") (T := ct_T1) kc_1 (by decide) rfl rfl wd_205 d_W_putModule_37) ?_
  refine ct_al.cons (so_iconst d_W_putModule_40 (by decide)) ?_
  refine ct_al.cons (so_iald d_W_putModule_41) ?_
  refine ct_al.cons (so_i2l d_W_putModule_42) ?_
  refine ct_al.cons (so_iconst d_W_putModule_43 (by decide)) ?_
  refine ct_al.cons (so_aload_n d_W_putModule_47 rfl) ?_
  refine ct_al.cons (so_aload_n d_W_putModule_51 rfl) ?_
  refine ct_al.cons (so_aload_n d_W_putModule_55 rfl) ?_
  refine ct_al.cons (so_aload_n d_W_putModule_59 rfl) ?_
  refine ct_al.cons (so_aload_n d_W_putModule_63 rfl) ?_
  exact ct_al.nil
theorem e_W_putModule_0 : ct_tab (T_W_putModule) 0 = some (o_aload 0 1) := rfl
theorem e_W_putModule_1 : ct_tab (T_W_putModule) 1 = some (o_push (.int 0) 1) := rfl
theorem e_W_putModule_2 : ct_tab (T_W_putModule) 2 = some (o_putI 3 3 2) := rfl
theorem e_W_putModule_5 : ct_tab (T_W_putModule) 5 = some (o_push (.int 0) 1) := rfl
theorem e_W_putModule_6 : ct_tab (T_W_putModule) 6 = some (o_istore 1 1) := rfl
theorem e_W_putModule_7 : ct_tab (T_W_putModule) 7 = some (o_iload 1 1) := rfl
theorem e_W_putModule_8 : ct_tab (T_W_putModule) 8 = some (o_push (.ref 0) 3) := rfl
theorem e_W_putModule_11 : ct_tab (T_W_putModule) 11 = some (o_mlen) := rfl
theorem e_W_putModule_12 : ct_tab (T_W_putModule) 12 = some (o_ic (fun x y => y ≤ x) (fun x y => ¬ y ≤ x) 32) := rfl
theorem e_W_putModule_15 : ct_tab (T_W_putModule) 15 = some (o_aload 0 1) := rfl
theorem e_W_putModule_16 : ct_tab (T_W_putModule) 16 = some (o_push (.ref 0) 3) := rfl
theorem e_W_putModule_19 : ct_tab (T_W_putModule) 19 = some (o_iload 1 1) := rfl
theorem e_W_putModule_20 : ct_tab (T_W_putModule) 20 = some (o_mald) := rfl
theorem e_W_putModule_21 : ct_tab (T_W_putModule) 21 = some (o_i2l) := rfl
theorem e_W_putModule_22 : ct_tab (T_W_putModule) 22 = some (o_push (.int 1) 1) := rfl
theorem e_W_putModule_26 : ct_tab (T_W_putModule) 26 = some (o_iinc 1 1) := rfl
theorem e_W_putModule_29 : ct_tab (T_W_putModule) 29 = some (o_goto 7) := rfl
theorem e_W_putModule_32 : ct_tab (T_W_putModule) 32 = some (o_aload 0 1) := rfl
theorem e_W_putModule_33 : ct_tab (T_W_putModule) 33 = some (o_aload 0 1) := rfl
theorem e_W_putModule_34 : ct_tab (T_W_putModule) 34 = some (o_getR 3 3 0) := rfl
theorem e_W_putModule_37 : ct_tab (T_W_putModule) 37 = some (o_getR 1 10 0) := rfl
theorem e_W_putModule_40 : ct_tab (T_W_putModule) 40 = some (o_push (.int 0) 1) := rfl
theorem e_W_putModule_41 : ct_tab (T_W_putModule) 41 = some (o_iald) := rfl
theorem e_W_putModule_42 : ct_tab (T_W_putModule) 42 = some (o_i2l) := rfl
theorem e_W_putModule_43 : ct_tab (T_W_putModule) 43 = some (o_push (.int 2) 1) := rfl
theorem e_W_putModule_47 : ct_tab (T_W_putModule) 47 = some (o_aload 0 1) := rfl
theorem e_W_putModule_51 : ct_tab (T_W_putModule) 51 = some (o_aload 0 1) := rfl
theorem e_W_putModule_55 : ct_tab (T_W_putModule) 55 = some (o_aload 0 1) := rfl
theorem e_W_putModule_59 : ct_tab (T_W_putModule) 59 = some (o_aload 0 1) := rfl
theorem e_W_putModule_63 : ct_tab (T_W_putModule) 63 = some (o_aload 0 1) := rfl
theorem cl_W_putModule_23 {l : ct_Lx} {d d1 : Nat} {Post Post1 : Option Value → ct_Sg → Prop} {lv : ct_Lv} {st : List Value} {g : ct_Sg} {bc bs c1 s1 : Nat} {a1 a2 : Value} {h : Nat} (hsh : g.2.1 h = (10 + 3, 3)) (hM : ct_Me l M_W_put d1 c1 s1 [.ref h, a1, a2] g Post1) (hdd : d1 + 1 ≤ d) (hk : (st.map fun v => v.category).sum ≤ 8) (hcc : c1 ≤ bc) (hss : s1 ≤ bs) (kk : ∀ (v : Option Value) (g' : ct_Sg), Post1 v g' → ct_Wp l M_W_putModule d Post (26, lv, v.toList ++ st, g', bc - c1, bs - s1)) : ct_Wp l M_W_putModule d Post (23, lv, a2 :: a1 :: .ref h :: st, g, bc, bs) := ct_Wp.callV (ci := 3) (N := 3) (T := ct_T3) (As := [a1, a2]) lk_W_put (Or.inl wd_202) wd_203 wd_204 rfl d_W_putModule_23 hsh hM rfl hdd hk hcc hss kk
theorem cl_W_putModule_44 {l : ct_Lx} {d d1 : Nat} {Post Post1 : Option Value → ct_Sg → Prop} {lv : ct_Lv} {st : List Value} {g : ct_Sg} {bc bs c1 s1 : Nat} {a1 a2 : Value} {h : Nat} (hsh : g.2.1 h = (10 + 3, 3)) (hM : ct_Me l M_W_put d1 c1 s1 [.ref h, a1, a2] g Post1) (hdd : d1 + 1 ≤ d) (hk : (st.map fun v => v.category).sum ≤ 8) (hcc : c1 ≤ bc) (hss : s1 ≤ bs) (kk : ∀ (v : Option Value) (g' : ct_Sg), Post1 v g' → ct_Wp l M_W_putModule d Post (47, lv, v.toList ++ st, g', bc - c1, bs - s1)) : ct_Wp l M_W_putModule d Post (44, lv, a2 :: a1 :: .ref h :: st, g, bc, bs) := ct_Wp.callV (ci := 3) (N := 3) (T := ct_T3) (As := [a1, a2]) lk_W_put (Or.inl wd_202) wd_203 wd_204 rfl d_W_putModule_44 hsh hM rfl hdd hk hcc hss kk
theorem cl_W_putModule_48 {l : ct_Lx} {d d1 : Nat} {Post Post1 : Option Value → ct_Sg → Prop} {lv : ct_Lv} {st : List Value} {g : ct_Sg} {bc bs c1 s1 : Nat} {h : Nat} (hsh : g.2.1 h = (10 + 3, 3)) (hM : ct_Me l M_W_putStructures d1 c1 s1 [.ref h] g Post1) (hdd : d1 + 1 ≤ d) (hk : (st.map fun v => v.category).sum ≤ 8) (hcc : c1 ≤ bc) (hss : s1 ≤ bs) (kk : ∀ (v : Option Value) (g' : ct_Sg), Post1 v g' → ct_Wp l M_W_putModule d Post (51, lv, v.toList ++ st, g', bc - c1, bs - s1)) : ct_Wp l M_W_putModule d Post (48, lv, .ref h :: st, g, bc, bs) := ct_Wp.callV (ci := 3) (N := 3) (T := ct_T3) (As := []) lk_W_putStructures (Or.inl wd_208) wd_209 wd_210 rfl d_W_putModule_48 hsh hM rfl hdd hk hcc hss kk
theorem cl_W_putModule_52 {l : ct_Lx} {d d1 : Nat} {Post Post1 : Option Value → ct_Sg → Prop} {lv : ct_Lv} {st : List Value} {g : ct_Sg} {bc bs c1 s1 : Nat} {h : Nat} (hsh : g.2.1 h = (10 + 3, 3)) (hM : ct_Me l M_W_putForeignStructures d1 c1 s1 [.ref h] g Post1) (hdd : d1 + 1 ≤ d) (hk : (st.map fun v => v.category).sum ≤ 8) (hcc : c1 ≤ bc) (hss : s1 ≤ bs) (kk : ∀ (v : Option Value) (g' : ct_Sg), Post1 v g' → ct_Wp l M_W_putModule d Post (55, lv, v.toList ++ st, g', bc - c1, bs - s1)) : ct_Wp l M_W_putModule d Post (52, lv, .ref h :: st, g, bc, bs) := ct_Wp.callV (ci := 3) (N := 3) (T := ct_T3) (As := []) lk_W_putForeignStructures (Or.inl wd_213) wd_214 wd_215 rfl d_W_putModule_52 hsh hM rfl hdd hk hcc hss kk
theorem cl_W_putModule_56 {l : ct_Lx} {d d1 : Nat} {Post Post1 : Option Value → ct_Sg → Prop} {lv : ct_Lv} {st : List Value} {g : ct_Sg} {bc bs c1 s1 : Nat} {h : Nat} (hsh : g.2.1 h = (10 + 3, 3)) (hM : ct_Me l M_W_putForeignFunctions d1 c1 s1 [.ref h] g Post1) (hdd : d1 + 1 ≤ d) (hk : (st.map fun v => v.category).sum ≤ 8) (hcc : c1 ≤ bc) (hss : s1 ≤ bs) (kk : ∀ (v : Option Value) (g' : ct_Sg), Post1 v g' → ct_Wp l M_W_putModule d Post (59, lv, v.toList ++ st, g', bc - c1, bs - s1)) : ct_Wp l M_W_putModule d Post (56, lv, .ref h :: st, g, bc, bs) := ct_Wp.callV (ci := 3) (N := 3) (T := ct_T3) (As := []) lk_W_putForeignFunctions (Or.inl wd_218) wd_219 wd_220 rfl d_W_putModule_56 hsh hM rfl hdd hk hcc hss kk
theorem cl_W_putModule_60 {l : ct_Lx} {d d1 : Nat} {Post Post1 : Option Value → ct_Sg → Prop} {lv : ct_Lv} {st : List Value} {g : ct_Sg} {bc bs c1 s1 : Nat} {h : Nat} (hsh : g.2.1 h = (10 + 3, 3)) (hM : ct_Me l M_W_putElements d1 c1 s1 [.ref h] g Post1) (hdd : d1 + 1 ≤ d) (hk : (st.map fun v => v.category).sum ≤ 8) (hcc : c1 ≤ bc) (hss : s1 ≤ bs) (kk : ∀ (v : Option Value) (g' : ct_Sg), Post1 v g' → ct_Wp l M_W_putModule d Post (63, lv, v.toList ++ st, g', bc - c1, bs - s1)) : ct_Wp l M_W_putModule d Post (60, lv, .ref h :: st, g, bc, bs) := ct_Wp.callV (ci := 3) (N := 3) (T := ct_T3) (As := []) lk_W_putElements (Or.inl wd_223) wd_224 wd_225 rfl d_W_putModule_60 hsh hM rfl hdd hk hcc hss kk
theorem cl_W_putModule_64 {l : ct_Lx} {d d1 : Nat} {Post Post1 : Option Value → ct_Sg → Prop} {lv : ct_Lv} {st : List Value} {g : ct_Sg} {bc bs c1 s1 : Nat} {h : Nat} (hsh : g.2.1 h = (10 + 3, 3)) (hM : ct_Me l M_W_putFunctions d1 c1 s1 [.ref h] g Post1) (hdd : d1 + 1 ≤ d) (hk : (st.map fun v => v.category).sum ≤ 8) (hcc : c1 ≤ bc) (hss : s1 ≤ bs) (kk : ∀ (v : Option Value) (g' : ct_Sg), Post1 v g' → ct_Wp l M_W_putModule d Post (67, lv, v.toList ++ st, g', bc - c1, bs - s1)) : ct_Wp l M_W_putModule d Post (64, lv, .ref h :: st, g, bc, bs) := ct_Wp.callV (ci := 3) (N := 3) (T := ct_T3) (As := []) lk_W_putFunctions (Or.inl wd_228) wd_229 wd_230 rfl d_W_putModule_64 hsh hM rfl hdd hk hcc hss kk
theorem d_W_putStructures_0 : decode prog_5_method_3_code 0 = .ok (.aload_n 0, 1) := by decide +kernel
theorem d_W_putStructures_1 : decode prog_5_method_3_code 1 = .ok (.getfield 19, 3) := by decide +kernel
theorem d_W_putStructures_4 : decode prog_5_method_3_code 4 = .ok (.getfield 31, 3) := by decide +kernel
theorem d_W_putStructures_7 : decode prog_5_method_3_code 7 = .ok (.iconst 1, 1) := by decide +kernel
theorem d_W_putStructures_8 : decode prog_5_method_3_code 8 = .ok (.iaload, 1) := by decide +kernel
theorem d_W_putStructures_9 : decode prog_5_method_3_code 9 = .ok (.istore_n 1, 1) := by decide +kernel
theorem d_W_putStructures_10 : decode prog_5_method_3_code 10 = .ok (.aload_n 0, 1) := by decide +kernel
theorem d_W_putStructures_11 : decode prog_5_method_3_code 11 = .ok (.iload_n 1, 1) := by decide +kernel
theorem d_W_putStructures_12 : decode prog_5_method_3_code 12 = .ok (.i2l, 1) := by decide +kernel
theorem d_W_putStructures_13 : decode prog_5_method_3_code 13 = .ok (.iconst 1, 1) := by decide +kernel
theorem d_W_putStructures_14 : decode prog_5_method_3_code 14 = .ok (.invokevirtual 27, 3) := by decide +kernel
theorem d_W_putStructures_17 : decode prog_5_method_3_code 17 = .ok (.iconst 0, 1) := by decide +kernel
theorem d_W_putStructures_18 : decode prog_5_method_3_code 18 = .ok (.istore_n 2, 1) := by decide +kernel
theorem d_W_putStructures_19 : decode prog_5_method_3_code 19 = .ok (.iload_n 2, 1) := by decide +kernel
theorem d_W_putStructures_20 : decode prog_5_method_3_code 20 = .ok (.iload_n 1, 1) := by decide +kernel
theorem d_W_putStructures_21 : decode prog_5_method_3_code 21 = .ok (.if_icmp .ge 70, 3) := by decide +kernel
theorem d_W_putStructures_24 : decode prog_5_method_3_code 24 = .ok (.aload_n 0, 1) := by decide +kernel
theorem d_W_putStructures_25 : decode prog_5_method_3_code 25 = .ok (.getfield 19, 3) := by decide +kernel
theorem d_W_putStructures_28 : decode prog_5_method_3_code 28 = .ok (.iload_n 2, 1) := by decide +kernel
theorem d_W_putStructures_29 : decode prog_5_method_3_code 29 = .ok (.iconst 1, 1) := by decide +kernel
theorem d_W_putStructures_30 : decode prog_5_method_3_code 30 = .ok (.invokevirtual 51, 3) := by decide +kernel
theorem d_W_putStructures_33 : decode prog_5_method_3_code 33 = .ok (.istore_n 3, 1) := by decide +kernel
theorem d_W_putStructures_34 : decode prog_5_method_3_code 34 = .ok (.aload_n 0, 1) := by decide +kernel
theorem d_W_putStructures_35 : decode prog_5_method_3_code 35 = .ok (.aload_n 0, 1) := by decide +kernel
theorem d_W_putStructures_36 : decode prog_5_method_3_code 36 = .ok (.getfield 19, 3) := by decide +kernel
theorem d_W_putStructures_39 : decode prog_5_method_3_code 39 = .ok (.iload_n 2, 1) := by decide +kernel
theorem d_W_putStructures_40 : decode prog_5_method_3_code 40 = .ok (.iconst 0, 1) := by decide +kernel
theorem d_W_putStructures_41 : decode prog_5_method_3_code 41 = .ok (.invokevirtual 51, 3) := by decide +kernel
theorem d_W_putStructures_44 : decode prog_5_method_3_code 44 = .ok (.i2l, 1) := by decide +kernel
theorem d_W_putStructures_45 : decode prog_5_method_3_code 45 = .ok (.iconst 1, 1) := by decide +kernel
theorem d_W_putStructures_46 : decode prog_5_method_3_code 46 = .ok (.invokevirtual 27, 3) := by decide +kernel
theorem d_W_putStructures_49 : decode prog_5_method_3_code 49 = .ok (.aload_n 0, 1) := by decide +kernel
theorem d_W_putStructures_50 : decode prog_5_method_3_code 50 = .ok (.iload_n 3, 1) := by decide +kernel
theorem d_W_putStructures_51 : decode prog_5_method_3_code 51 = .ok (.i2l, 1) := by decide +kernel
theorem d_W_putStructures_52 : decode prog_5_method_3_code 52 = .ok (.iconst 1, 1) := by decide +kernel
theorem d_W_putStructures_53 : decode prog_5_method_3_code 53 = .ok (.invokevirtual 27, 3) := by decide +kernel
theorem d_W_putStructures_56 : decode prog_5_method_3_code 56 = .ok (.iconst 0, 1) := by decide +kernel
theorem d_W_putStructures_57 : decode prog_5_method_3_code 57 = .ok (.istore 4, 2) := by decide +kernel
theorem d_W_putStructures_59 : decode prog_5_method_3_code 59 = .ok (.iload 4, 2) := by decide +kernel
theorem d_W_putStructures_61 : decode prog_5_method_3_code 61 = .ok (.iload_n 3, 1) := by decide +kernel
theorem d_W_putStructures_62 : decode prog_5_method_3_code 62 = .ok (.if_icmp .ge 23, 3) := by decide +kernel
theorem d_W_putStructures_65 : decode prog_5_method_3_code 65 = .ok (.aload_n 0, 1) := by decide +kernel
theorem d_W_putStructures_66 : decode prog_5_method_3_code 66 = .ok (.aload_n 0, 1) := by decide +kernel
theorem d_W_putStructures_67 : decode prog_5_method_3_code 67 = .ok (.getfield 19, 3) := by decide +kernel
theorem d_W_putStructures_70 : decode prog_5_method_3_code 70 = .ok (.iload_n 2, 1) := by decide +kernel
theorem d_W_putStructures_71 : decode prog_5_method_3_code 71 = .ok (.iload 4, 2) := by decide +kernel
theorem d_W_putStructures_73 : decode prog_5_method_3_code 73 = .ok (.invokevirtual 55, 3) := by decide +kernel
theorem d_W_putStructures_76 : decode prog_5_method_3_code 76 = .ok (.invokevirtual 59, 3) := by decide +kernel
theorem d_W_putStructures_79 : decode prog_5_method_3_code 79 = .ok (.iinc 4 1, 3) := by decide +kernel
theorem d_W_putStructures_82 : decode prog_5_method_3_code 82 = .ok (.goto (-23), 3) := by decide +kernel
theorem d_W_putStructures_85 : decode prog_5_method_3_code 85 = .ok (.iinc 2 1, 3) := by decide +kernel
theorem d_W_putStructures_88 : decode prog_5_method_3_code 88 = .ok (.goto (-69), 3) := by decide +kernel
theorem d_W_putStructures_91 : decode prog_5_method_3_code 91 = .ok (.return_, 1) := by decide +kernel
abbrev T_W_putStructures : List (Nat × ct_PT) := [(0, o_aload 0 1), (1, o_getR 3 3 0), (4, o_getR 1 10 0), (7, o_push (.int 1) 1), (8, o_iald), (9, o_istore 1 1), (10, o_aload 0 1), (11, o_iload 1 1), (12, o_i2l), (13, o_push (.int 1) 1), (17, o_push (.int 0) 1), (18, o_istore 2 1), (19, o_iload 2 1), (20, o_iload 1 1), (21, o_ic (fun x y => y ≤ x) (fun x y => ¬ y ≤ x) 91), (24, o_aload 0 1), (25, o_getR 3 3 0), (28, o_iload 2 1), (29, o_push (.int 1) 1), (33, o_istore 3 1), (34, o_aload 0 1), (35, o_aload 0 1), (36, o_getR 3 3 0), (39, o_iload 2 1), (40, o_push (.int 0) 1), (44, o_i2l), (45, o_push (.int 1) 1), (49, o_aload 0 1), (50, o_iload 3 1), (51, o_i2l), (52, o_push (.int 1) 1), (56, o_push (.int 0) 1), (57, o_istore 4 2), (59, o_iload 4 2), (61, o_iload 3 1), (62, o_ic (fun x y => y ≤ x) (fun x y => ¬ y ≤ x) 85), (65, o_aload 0 1), (66, o_aload 0 1), (67, o_getR 3 3 0), (70, o_iload 2 1), (71, o_iload 4 2), (79, o_iinc 4 1), (82, o_goto 59), (85, o_iinc 2 1), (88, o_goto 19)]
set_option maxRecDepth 100000 in
theorem A_W_putStructures (l : ct_Lx) : ct_al l M_W_putStructures (T_W_putStructures) := by
  refine ct_al.cons (so_aload_n d_W_putStructures_0 rfl) ?_
  refine ct_al.cons (so_getR (Cn := "CodeTables$Writer") (T := ct_T3) kc_3 (by decide) rfl rfl wd_198 d_W_putStructures_1) ?_
  refine ct_al.cons (so_getR (Cn := "CodeTables$Tables") (T := ct_T1) kc_1 (by decide) rfl rfl wd_205 d_W_putStructures_4) ?_
  refine ct_al.cons (so_iconst d_W_putStructures_7 (by decide)) ?_
  refine ct_al.cons (so_iald d_W_putStructures_8) ?_
  refine ct_al.cons (so_istore_n d_W_putStructures_9 rfl (by decide)) ?_
  refine ct_al.cons (so_aload_n d_W_putStructures_10 rfl) ?_
  refine ct_al.cons (so_iload_n d_W_putStructures_11 rfl) ?_
  refine ct_al.cons (so_i2l d_W_putStructures_12) ?_
  refine ct_al.cons (so_iconst d_W_putStructures_13 (by decide)) ?_
  refine ct_al.cons (so_iconst d_W_putStructures_17 (by decide)) ?_
  refine ct_al.cons (so_istore_n d_W_putStructures_18 rfl (by decide)) ?_
  refine ct_al.cons (so_iload_n d_W_putStructures_19 rfl) ?_
  refine ct_al.cons (so_iload_n d_W_putStructures_20 rfl) ?_
  refine ct_al.cons (so_ic_ge d_W_putStructures_21 (by decide)) ?_
  refine ct_al.cons (so_aload_n d_W_putStructures_24 rfl) ?_
  refine ct_al.cons (so_getR (Cn := "CodeTables$Writer") (T := ct_T3) kc_3 (by decide) rfl rfl wd_198 d_W_putStructures_25) ?_
  refine ct_al.cons (so_iload_n d_W_putStructures_28 rfl) ?_
  refine ct_al.cons (so_iconst d_W_putStructures_29 (by decide)) ?_
  refine ct_al.cons (so_istore_n d_W_putStructures_33 rfl (by decide)) ?_
  refine ct_al.cons (so_aload_n d_W_putStructures_34 rfl) ?_
  refine ct_al.cons (so_aload_n d_W_putStructures_35 rfl) ?_
  refine ct_al.cons (so_getR (Cn := "CodeTables$Writer") (T := ct_T3) kc_3 (by decide) rfl rfl wd_198 d_W_putStructures_36) ?_
  refine ct_al.cons (so_iload_n d_W_putStructures_39 rfl) ?_
  refine ct_al.cons (so_iconst d_W_putStructures_40 (by decide)) ?_
  refine ct_al.cons (so_i2l d_W_putStructures_44) ?_
  refine ct_al.cons (so_iconst d_W_putStructures_45 (by decide)) ?_
  refine ct_al.cons (so_aload_n d_W_putStructures_49 rfl) ?_
  refine ct_al.cons (so_iload_n d_W_putStructures_50 rfl) ?_
  refine ct_al.cons (so_i2l d_W_putStructures_51) ?_
  refine ct_al.cons (so_iconst d_W_putStructures_52 (by decide)) ?_
  refine ct_al.cons (so_iconst d_W_putStructures_56 (by decide)) ?_
  refine ct_al.cons (so_istore d_W_putStructures_57 (by decide)) ?_
  refine ct_al.cons (so_iload d_W_putStructures_59) ?_
  refine ct_al.cons (so_iload_n d_W_putStructures_61 rfl) ?_
  refine ct_al.cons (so_ic_ge d_W_putStructures_62 (by decide)) ?_
  refine ct_al.cons (so_aload_n d_W_putStructures_65 rfl) ?_
  refine ct_al.cons (so_aload_n d_W_putStructures_66 rfl) ?_
  refine ct_al.cons (so_getR (Cn := "CodeTables$Writer") (T := ct_T3) kc_3 (by decide) rfl rfl wd_198 d_W_putStructures_67) ?_
  refine ct_al.cons (so_iload_n d_W_putStructures_70 rfl) ?_
  refine ct_al.cons (so_iload d_W_putStructures_71) ?_
  refine ct_al.cons (so_iinc d_W_putStructures_79 (by decide) (by decide)) ?_
  refine ct_al.cons (so_goto d_W_putStructures_82 (by decide)) ?_
  refine ct_al.cons (so_iinc d_W_putStructures_85 (by decide) (by decide)) ?_
  refine ct_al.cons (so_goto d_W_putStructures_88 (by decide)) ?_
  exact ct_al.nil
theorem e_W_putStructures_0 : ct_tab (T_W_putStructures) 0 = some (o_aload 0 1) := rfl
theorem e_W_putStructures_1 : ct_tab (T_W_putStructures) 1 = some (o_getR 3 3 0) := rfl
theorem e_W_putStructures_4 : ct_tab (T_W_putStructures) 4 = some (o_getR 1 10 0) := rfl
theorem e_W_putStructures_7 : ct_tab (T_W_putStructures) 7 = some (o_push (.int 1) 1) := rfl
theorem e_W_putStructures_8 : ct_tab (T_W_putStructures) 8 = some (o_iald) := rfl
theorem e_W_putStructures_9 : ct_tab (T_W_putStructures) 9 = some (o_istore 1 1) := rfl
theorem e_W_putStructures_10 : ct_tab (T_W_putStructures) 10 = some (o_aload 0 1) := rfl
theorem e_W_putStructures_11 : ct_tab (T_W_putStructures) 11 = some (o_iload 1 1) := rfl
theorem e_W_putStructures_12 : ct_tab (T_W_putStructures) 12 = some (o_i2l) := rfl
theorem e_W_putStructures_13 : ct_tab (T_W_putStructures) 13 = some (o_push (.int 1) 1) := rfl
theorem e_W_putStructures_17 : ct_tab (T_W_putStructures) 17 = some (o_push (.int 0) 1) := rfl
theorem e_W_putStructures_18 : ct_tab (T_W_putStructures) 18 = some (o_istore 2 1) := rfl
theorem e_W_putStructures_19 : ct_tab (T_W_putStructures) 19 = some (o_iload 2 1) := rfl
theorem e_W_putStructures_20 : ct_tab (T_W_putStructures) 20 = some (o_iload 1 1) := rfl
theorem e_W_putStructures_21 : ct_tab (T_W_putStructures) 21 = some (o_ic (fun x y => y ≤ x) (fun x y => ¬ y ≤ x) 91) := rfl
theorem e_W_putStructures_24 : ct_tab (T_W_putStructures) 24 = some (o_aload 0 1) := rfl
theorem e_W_putStructures_25 : ct_tab (T_W_putStructures) 25 = some (o_getR 3 3 0) := rfl
theorem e_W_putStructures_28 : ct_tab (T_W_putStructures) 28 = some (o_iload 2 1) := rfl
theorem e_W_putStructures_29 : ct_tab (T_W_putStructures) 29 = some (o_push (.int 1) 1) := rfl
theorem e_W_putStructures_33 : ct_tab (T_W_putStructures) 33 = some (o_istore 3 1) := rfl
theorem e_W_putStructures_34 : ct_tab (T_W_putStructures) 34 = some (o_aload 0 1) := rfl
theorem e_W_putStructures_35 : ct_tab (T_W_putStructures) 35 = some (o_aload 0 1) := rfl
theorem e_W_putStructures_36 : ct_tab (T_W_putStructures) 36 = some (o_getR 3 3 0) := rfl
theorem e_W_putStructures_39 : ct_tab (T_W_putStructures) 39 = some (o_iload 2 1) := rfl
theorem e_W_putStructures_40 : ct_tab (T_W_putStructures) 40 = some (o_push (.int 0) 1) := rfl
theorem e_W_putStructures_44 : ct_tab (T_W_putStructures) 44 = some (o_i2l) := rfl
theorem e_W_putStructures_45 : ct_tab (T_W_putStructures) 45 = some (o_push (.int 1) 1) := rfl
theorem e_W_putStructures_49 : ct_tab (T_W_putStructures) 49 = some (o_aload 0 1) := rfl
theorem e_W_putStructures_50 : ct_tab (T_W_putStructures) 50 = some (o_iload 3 1) := rfl
theorem e_W_putStructures_51 : ct_tab (T_W_putStructures) 51 = some (o_i2l) := rfl
theorem e_W_putStructures_52 : ct_tab (T_W_putStructures) 52 = some (o_push (.int 1) 1) := rfl
theorem e_W_putStructures_56 : ct_tab (T_W_putStructures) 56 = some (o_push (.int 0) 1) := rfl
theorem e_W_putStructures_57 : ct_tab (T_W_putStructures) 57 = some (o_istore 4 2) := rfl
theorem e_W_putStructures_59 : ct_tab (T_W_putStructures) 59 = some (o_iload 4 2) := rfl
theorem e_W_putStructures_61 : ct_tab (T_W_putStructures) 61 = some (o_iload 3 1) := rfl
theorem e_W_putStructures_62 : ct_tab (T_W_putStructures) 62 = some (o_ic (fun x y => y ≤ x) (fun x y => ¬ y ≤ x) 85) := rfl
theorem e_W_putStructures_65 : ct_tab (T_W_putStructures) 65 = some (o_aload 0 1) := rfl
theorem e_W_putStructures_66 : ct_tab (T_W_putStructures) 66 = some (o_aload 0 1) := rfl
theorem e_W_putStructures_67 : ct_tab (T_W_putStructures) 67 = some (o_getR 3 3 0) := rfl
theorem e_W_putStructures_70 : ct_tab (T_W_putStructures) 70 = some (o_iload 2 1) := rfl
theorem e_W_putStructures_71 : ct_tab (T_W_putStructures) 71 = some (o_iload 4 2) := rfl
theorem e_W_putStructures_79 : ct_tab (T_W_putStructures) 79 = some (o_iinc 4 1) := rfl
theorem e_W_putStructures_82 : ct_tab (T_W_putStructures) 82 = some (o_goto 59) := rfl
theorem e_W_putStructures_85 : ct_tab (T_W_putStructures) 85 = some (o_iinc 2 1) := rfl
theorem e_W_putStructures_88 : ct_tab (T_W_putStructures) 88 = some (o_goto 19) := rfl
theorem cl_W_putStructures_14 {l : ct_Lx} {d d1 : Nat} {Post Post1 : Option Value → ct_Sg → Prop} {lv : ct_Lv} {st : List Value} {g : ct_Sg} {bc bs c1 s1 : Nat} {a1 a2 : Value} {h : Nat} (hsh : g.2.1 h = (10 + 3, 3)) (hM : ct_Me l M_W_put d1 c1 s1 [.ref h, a1, a2] g Post1) (hdd : d1 + 1 ≤ d) (hk : (st.map fun v => v.category).sum ≤ 8) (hcc : c1 ≤ bc) (hss : s1 ≤ bs) (kk : ∀ (v : Option Value) (g' : ct_Sg), Post1 v g' → ct_Wp l M_W_putStructures d Post (17, lv, v.toList ++ st, g', bc - c1, bs - s1)) : ct_Wp l M_W_putStructures d Post (14, lv, a2 :: a1 :: .ref h :: st, g, bc, bs) := ct_Wp.callV (ci := 3) (N := 3) (T := ct_T3) (As := [a1, a2]) lk_W_put (Or.inl wd_202) wd_203 wd_204 rfl d_W_putStructures_14 hsh hM rfl hdd hk hcc hss kk
theorem cl_W_putStructures_30 {l : ct_Lx} {d d1 : Nat} {Post Post1 : Option Value → ct_Sg → Prop} {lv : ct_Lv} {st : List Value} {g : ct_Sg} {bc bs c1 s1 : Nat} {a1 a2 : Value} {h : Nat} (hsh : g.2.1 h = (10 + 1, 10)) (hM : ct_Me l M_T_structureFact d1 c1 s1 [.ref h, a1, a2] g Post1) (hdd : d1 + 1 ≤ d) (hk : (st.map fun v => v.category).sum ≤ 8) (hcc : c1 ≤ bc) (hss : s1 ≤ bs) (kk : ∀ (v : Option Value) (g' : ct_Sg), Post1 v g' → ct_Wp l M_W_putStructures d Post (33, lv, v.toList ++ st, g', bc - c1, bs - s1)) : ct_Wp l M_W_putStructures d Post (30, lv, a2 :: a1 :: .ref h :: st, g, bc, bs) := ct_Wp.callV (ci := 1) (N := 10) (T := ct_T1) (As := [a1, a2]) lk_T_structureFact (Or.inl wd_231) wd_25 wd_26 rfl d_W_putStructures_30 hsh hM rfl hdd hk hcc hss kk
theorem cl_W_putStructures_41 {l : ct_Lx} {d d1 : Nat} {Post Post1 : Option Value → ct_Sg → Prop} {lv : ct_Lv} {st : List Value} {g : ct_Sg} {bc bs c1 s1 : Nat} {a1 a2 : Value} {h : Nat} (hsh : g.2.1 h = (10 + 1, 10)) (hM : ct_Me l M_T_structureFact d1 c1 s1 [.ref h, a1, a2] g Post1) (hdd : d1 + 1 ≤ d) (hk : (st.map fun v => v.category).sum ≤ 8) (hcc : c1 ≤ bc) (hss : s1 ≤ bs) (kk : ∀ (v : Option Value) (g' : ct_Sg), Post1 v g' → ct_Wp l M_W_putStructures d Post (44, lv, v.toList ++ st, g', bc - c1, bs - s1)) : ct_Wp l M_W_putStructures d Post (41, lv, a2 :: a1 :: .ref h :: st, g, bc, bs) := ct_Wp.callV (ci := 1) (N := 10) (T := ct_T1) (As := [a1, a2]) lk_T_structureFact (Or.inl wd_231) wd_25 wd_26 rfl d_W_putStructures_41 hsh hM rfl hdd hk hcc hss kk
theorem cl_W_putStructures_46 {l : ct_Lx} {d d1 : Nat} {Post Post1 : Option Value → ct_Sg → Prop} {lv : ct_Lv} {st : List Value} {g : ct_Sg} {bc bs c1 s1 : Nat} {a1 a2 : Value} {h : Nat} (hsh : g.2.1 h = (10 + 3, 3)) (hM : ct_Me l M_W_put d1 c1 s1 [.ref h, a1, a2] g Post1) (hdd : d1 + 1 ≤ d) (hk : (st.map fun v => v.category).sum ≤ 8) (hcc : c1 ≤ bc) (hss : s1 ≤ bs) (kk : ∀ (v : Option Value) (g' : ct_Sg), Post1 v g' → ct_Wp l M_W_putStructures d Post (49, lv, v.toList ++ st, g', bc - c1, bs - s1)) : ct_Wp l M_W_putStructures d Post (46, lv, a2 :: a1 :: .ref h :: st, g, bc, bs) := ct_Wp.callV (ci := 3) (N := 3) (T := ct_T3) (As := [a1, a2]) lk_W_put (Or.inl wd_202) wd_203 wd_204 rfl d_W_putStructures_46 hsh hM rfl hdd hk hcc hss kk
theorem cl_W_putStructures_53 {l : ct_Lx} {d d1 : Nat} {Post Post1 : Option Value → ct_Sg → Prop} {lv : ct_Lv} {st : List Value} {g : ct_Sg} {bc bs c1 s1 : Nat} {a1 a2 : Value} {h : Nat} (hsh : g.2.1 h = (10 + 3, 3)) (hM : ct_Me l M_W_put d1 c1 s1 [.ref h, a1, a2] g Post1) (hdd : d1 + 1 ≤ d) (hk : (st.map fun v => v.category).sum ≤ 8) (hcc : c1 ≤ bc) (hss : s1 ≤ bs) (kk : ∀ (v : Option Value) (g' : ct_Sg), Post1 v g' → ct_Wp l M_W_putStructures d Post (56, lv, v.toList ++ st, g', bc - c1, bs - s1)) : ct_Wp l M_W_putStructures d Post (53, lv, a2 :: a1 :: .ref h :: st, g, bc, bs) := ct_Wp.callV (ci := 3) (N := 3) (T := ct_T3) (As := [a1, a2]) lk_W_put (Or.inl wd_202) wd_203 wd_204 rfl d_W_putStructures_53 hsh hM rfl hdd hk hcc hss kk
theorem cl_W_putStructures_73 {l : ct_Lx} {d d1 : Nat} {Post Post1 : Option Value → ct_Sg → Prop} {lv : ct_Lv} {st : List Value} {g : ct_Sg} {bc bs c1 s1 : Nat} {a1 a2 : Value} {h : Nat} (hsh : g.2.1 h = (10 + 1, 10)) (hM : ct_Me l M_T_fieldType d1 c1 s1 [.ref h, a1, a2] g Post1) (hdd : d1 + 1 ≤ d) (hk : (st.map fun v => v.category).sum ≤ 8) (hcc : c1 ≤ bc) (hss : s1 ≤ bs) (kk : ∀ (v : Option Value) (g' : ct_Sg), Post1 v g' → ct_Wp l M_W_putStructures d Post (76, lv, v.toList ++ st, g', bc - c1, bs - s1)) : ct_Wp l M_W_putStructures d Post (73, lv, a2 :: a1 :: .ref h :: st, g, bc, bs) := ct_Wp.callV (ci := 1) (N := 10) (T := ct_T1) (As := [a1, a2]) lk_T_fieldType (Or.inl wd_232) wd_192 wd_193 rfl d_W_putStructures_73 hsh hM rfl hdd hk hcc hss kk
theorem cl_W_putStructures_76 {l : ct_Lx} {d d1 : Nat} {Post Post1 : Option Value → ct_Sg → Prop} {lv : ct_Lv} {st : List Value} {g : ct_Sg} {bc bs c1 s1 : Nat} {a1 : Value} {h : Nat} (hsh : g.2.1 h = (10 + 3, 3)) (hM : ct_Me l M_W_putType d1 c1 s1 [.ref h, a1] g Post1) (hdd : d1 + 1 ≤ d) (hk : (st.map fun v => v.category).sum ≤ 8) (hcc : c1 ≤ bc) (hss : s1 ≤ bs) (kk : ∀ (v : Option Value) (g' : ct_Sg), Post1 v g' → ct_Wp l M_W_putStructures d Post (79, lv, v.toList ++ st, g', bc - c1, bs - s1)) : ct_Wp l M_W_putStructures d Post (76, lv, a1 :: .ref h :: st, g, bc, bs) := ct_Wp.callV (ci := 3) (N := 3) (T := ct_T3) (As := [a1]) lk_W_putType (Or.inl wd_235) wd_236 wd_237 rfl d_W_putStructures_76 hsh hM rfl hdd hk hcc hss kk
theorem d_W_putForeignStructures_0 : decode prog_5_method_4_code 0 = .ok (.aload_n 0, 1) := by decide +kernel
theorem d_W_putForeignStructures_1 : decode prog_5_method_4_code 1 = .ok (.aload_n 0, 1) := by decide +kernel
theorem d_W_putForeignStructures_2 : decode prog_5_method_4_code 2 = .ok (.getfield 19, 3) := by decide +kernel
theorem d_W_putForeignStructures_5 : decode prog_5_method_4_code 5 = .ok (.getfield 31, 3) := by decide +kernel
theorem d_W_putForeignStructures_8 : decode prog_5_method_4_code 8 = .ok (.iconst 2, 1) := by decide +kernel
theorem d_W_putForeignStructures_9 : decode prog_5_method_4_code 9 = .ok (.iaload, 1) := by decide +kernel
theorem d_W_putForeignStructures_10 : decode prog_5_method_4_code 10 = .ok (.i2l, 1) := by decide +kernel
theorem d_W_putForeignStructures_11 : decode prog_5_method_4_code 11 = .ok (.iconst 1, 1) := by decide +kernel
theorem d_W_putForeignStructures_12 : decode prog_5_method_4_code 12 = .ok (.invokevirtual 27, 3) := by decide +kernel
theorem d_W_putForeignStructures_15 : decode prog_5_method_4_code 15 = .ok (.aload_n 0, 1) := by decide +kernel
theorem d_W_putForeignStructures_16 : decode prog_5_method_4_code 16 = .ok (.getfield 19, 3) := by decide +kernel
theorem d_W_putForeignStructures_19 : decode prog_5_method_4_code 19 = .ok (.getfield 31, 3) := by decide +kernel
theorem d_W_putForeignStructures_22 : decode prog_5_method_4_code 22 = .ok (.iconst 1, 1) := by decide +kernel
theorem d_W_putForeignStructures_23 : decode prog_5_method_4_code 23 = .ok (.iaload, 1) := by decide +kernel
theorem d_W_putForeignStructures_24 : decode prog_5_method_4_code 24 = .ok (.istore_n 1, 1) := by decide +kernel
theorem d_W_putForeignStructures_25 : decode prog_5_method_4_code 25 = .ok (.iload_n 1, 1) := by decide +kernel
theorem d_W_putForeignStructures_26 : decode prog_5_method_4_code 26 = .ok (.aload_n 0, 1) := by decide +kernel
theorem d_W_putForeignStructures_27 : decode prog_5_method_4_code 27 = .ok (.getfield 19, 3) := by decide +kernel
theorem d_W_putForeignStructures_30 : decode prog_5_method_4_code 30 = .ok (.invokevirtual 63, 3) := by decide +kernel
theorem d_W_putForeignStructures_33 : decode prog_5_method_4_code 33 = .ok (.if_icmp .ge 54, 3) := by decide +kernel
theorem d_W_putForeignStructures_36 : decode prog_5_method_4_code 36 = .ok (.aload_n 0, 1) := by decide +kernel
theorem d_W_putForeignStructures_37 : decode prog_5_method_4_code 37 = .ok (.aload_n 0, 1) := by decide +kernel
theorem d_W_putForeignStructures_38 : decode prog_5_method_4_code 38 = .ok (.getfield 19, 3) := by decide +kernel
theorem d_W_putForeignStructures_41 : decode prog_5_method_4_code 41 = .ok (.iload_n 1, 1) := by decide +kernel
theorem d_W_putForeignStructures_42 : decode prog_5_method_4_code 42 = .ok (.iconst 2, 1) := by decide +kernel
theorem d_W_putForeignStructures_43 : decode prog_5_method_4_code 43 = .ok (.invokevirtual 51, 3) := by decide +kernel
theorem d_W_putForeignStructures_46 : decode prog_5_method_4_code 46 = .ok (.i2l, 1) := by decide +kernel
theorem d_W_putForeignStructures_47 : decode prog_5_method_4_code 47 = .ok (.iconst 2, 1) := by decide +kernel
theorem d_W_putForeignStructures_48 : decode prog_5_method_4_code 48 = .ok (.invokevirtual 27, 3) := by decide +kernel
theorem d_W_putForeignStructures_51 : decode prog_5_method_4_code 51 = .ok (.aload_n 0, 1) := by decide +kernel
theorem d_W_putForeignStructures_52 : decode prog_5_method_4_code 52 = .ok (.aload_n 0, 1) := by decide +kernel
theorem d_W_putForeignStructures_53 : decode prog_5_method_4_code 53 = .ok (.getfield 19, 3) := by decide +kernel
theorem d_W_putForeignStructures_56 : decode prog_5_method_4_code 56 = .ok (.iload_n 1, 1) := by decide +kernel
theorem d_W_putForeignStructures_57 : decode prog_5_method_4_code 57 = .ok (.iconst 3, 1) := by decide +kernel
theorem d_W_putForeignStructures_58 : decode prog_5_method_4_code 58 = .ok (.invokevirtual 51, 3) := by decide +kernel
theorem d_W_putForeignStructures_61 : decode prog_5_method_4_code 61 = .ok (.i2l, 1) := by decide +kernel
theorem d_W_putForeignStructures_62 : decode prog_5_method_4_code 62 = .ok (.iconst 1, 1) := by decide +kernel
theorem d_W_putForeignStructures_63 : decode prog_5_method_4_code 63 = .ok (.invokevirtual 27, 3) := by decide +kernel
theorem d_W_putForeignStructures_66 : decode prog_5_method_4_code 66 = .ok (.aload_n 0, 1) := by decide +kernel
theorem d_W_putForeignStructures_67 : decode prog_5_method_4_code 67 = .ok (.aload_n 0, 1) := by decide +kernel
theorem d_W_putForeignStructures_68 : decode prog_5_method_4_code 68 = .ok (.getfield 19, 3) := by decide +kernel
theorem d_W_putForeignStructures_71 : decode prog_5_method_4_code 71 = .ok (.iload_n 1, 1) := by decide +kernel
theorem d_W_putForeignStructures_72 : decode prog_5_method_4_code 72 = .ok (.iconst 0, 1) := by decide +kernel
theorem d_W_putForeignStructures_73 : decode prog_5_method_4_code 73 = .ok (.invokevirtual 51, 3) := by decide +kernel
theorem d_W_putForeignStructures_76 : decode prog_5_method_4_code 76 = .ok (.i2l, 1) := by decide +kernel
theorem d_W_putForeignStructures_77 : decode prog_5_method_4_code 77 = .ok (.iconst 1, 1) := by decide +kernel
theorem d_W_putForeignStructures_78 : decode prog_5_method_4_code 78 = .ok (.invokevirtual 27, 3) := by decide +kernel
theorem d_W_putForeignStructures_81 : decode prog_5_method_4_code 81 = .ok (.iinc 1 1, 3) := by decide +kernel
theorem d_W_putForeignStructures_84 : decode prog_5_method_4_code 84 = .ok (.goto (-59), 3) := by decide +kernel
theorem d_W_putForeignStructures_87 : decode prog_5_method_4_code 87 = .ok (.return_, 1) := by decide +kernel
abbrev T_W_putForeignStructures : List (Nat × ct_PT) := [(0, o_aload 0 1), (1, o_aload 0 1), (2, o_getR 3 3 0), (5, o_getR 1 10 0), (8, o_push (.int 2) 1), (9, o_iald), (10, o_i2l), (11, o_push (.int 1) 1), (15, o_aload 0 1), (16, o_getR 3 3 0), (19, o_getR 1 10 0), (22, o_push (.int 1) 1), (23, o_iald), (24, o_istore 1 1), (25, o_iload 1 1), (26, o_aload 0 1), (27, o_getR 3 3 0), (33, o_ic (fun x y => y ≤ x) (fun x y => ¬ y ≤ x) 87), (36, o_aload 0 1), (37, o_aload 0 1), (38, o_getR 3 3 0), (41, o_iload 1 1), (42, o_push (.int 2) 1), (46, o_i2l), (47, o_push (.int 2) 1), (51, o_aload 0 1), (52, o_aload 0 1), (53, o_getR 3 3 0), (56, o_iload 1 1), (57, o_push (.int 3) 1), (61, o_i2l), (62, o_push (.int 1) 1), (66, o_aload 0 1), (67, o_aload 0 1), (68, o_getR 3 3 0), (71, o_iload 1 1), (72, o_push (.int 0) 1), (76, o_i2l), (77, o_push (.int 1) 1), (81, o_iinc 1 1), (84, o_goto 25)]
set_option maxRecDepth 100000 in
theorem A_W_putForeignStructures (l : ct_Lx) : ct_al l M_W_putForeignStructures (T_W_putForeignStructures) := by
  refine ct_al.cons (so_aload_n d_W_putForeignStructures_0 rfl) ?_
  refine ct_al.cons (so_aload_n d_W_putForeignStructures_1 rfl) ?_
  refine ct_al.cons (so_getR (Cn := "CodeTables$Writer") (T := ct_T3) kc_3 (by decide) rfl rfl wd_198 d_W_putForeignStructures_2) ?_
  refine ct_al.cons (so_getR (Cn := "CodeTables$Tables") (T := ct_T1) kc_1 (by decide) rfl rfl wd_205 d_W_putForeignStructures_5) ?_
  refine ct_al.cons (so_iconst d_W_putForeignStructures_8 (by decide)) ?_
  refine ct_al.cons (so_iald d_W_putForeignStructures_9) ?_
  refine ct_al.cons (so_i2l d_W_putForeignStructures_10) ?_
  refine ct_al.cons (so_iconst d_W_putForeignStructures_11 (by decide)) ?_
  refine ct_al.cons (so_aload_n d_W_putForeignStructures_15 rfl) ?_
  refine ct_al.cons (so_getR (Cn := "CodeTables$Writer") (T := ct_T3) kc_3 (by decide) rfl rfl wd_198 d_W_putForeignStructures_16) ?_
  refine ct_al.cons (so_getR (Cn := "CodeTables$Tables") (T := ct_T1) kc_1 (by decide) rfl rfl wd_205 d_W_putForeignStructures_19) ?_
  refine ct_al.cons (so_iconst d_W_putForeignStructures_22 (by decide)) ?_
  refine ct_al.cons (so_iald d_W_putForeignStructures_23) ?_
  refine ct_al.cons (so_istore_n d_W_putForeignStructures_24 rfl (by decide)) ?_
  refine ct_al.cons (so_iload_n d_W_putForeignStructures_25 rfl) ?_
  refine ct_al.cons (so_aload_n d_W_putForeignStructures_26 rfl) ?_
  refine ct_al.cons (so_getR (Cn := "CodeTables$Writer") (T := ct_T3) kc_3 (by decide) rfl rfl wd_198 d_W_putForeignStructures_27) ?_
  refine ct_al.cons (so_ic_ge d_W_putForeignStructures_33 (by decide)) ?_
  refine ct_al.cons (so_aload_n d_W_putForeignStructures_36 rfl) ?_
  refine ct_al.cons (so_aload_n d_W_putForeignStructures_37 rfl) ?_
  refine ct_al.cons (so_getR (Cn := "CodeTables$Writer") (T := ct_T3) kc_3 (by decide) rfl rfl wd_198 d_W_putForeignStructures_38) ?_
  refine ct_al.cons (so_iload_n d_W_putForeignStructures_41 rfl) ?_
  refine ct_al.cons (so_iconst d_W_putForeignStructures_42 (by decide)) ?_
  refine ct_al.cons (so_i2l d_W_putForeignStructures_46) ?_
  refine ct_al.cons (so_iconst d_W_putForeignStructures_47 (by decide)) ?_
  refine ct_al.cons (so_aload_n d_W_putForeignStructures_51 rfl) ?_
  refine ct_al.cons (so_aload_n d_W_putForeignStructures_52 rfl) ?_
  refine ct_al.cons (so_getR (Cn := "CodeTables$Writer") (T := ct_T3) kc_3 (by decide) rfl rfl wd_198 d_W_putForeignStructures_53) ?_
  refine ct_al.cons (so_iload_n d_W_putForeignStructures_56 rfl) ?_
  refine ct_al.cons (so_iconst d_W_putForeignStructures_57 (by decide)) ?_
  refine ct_al.cons (so_i2l d_W_putForeignStructures_61) ?_
  refine ct_al.cons (so_iconst d_W_putForeignStructures_62 (by decide)) ?_
  refine ct_al.cons (so_aload_n d_W_putForeignStructures_66 rfl) ?_
  refine ct_al.cons (so_aload_n d_W_putForeignStructures_67 rfl) ?_
  refine ct_al.cons (so_getR (Cn := "CodeTables$Writer") (T := ct_T3) kc_3 (by decide) rfl rfl wd_198 d_W_putForeignStructures_68) ?_
  refine ct_al.cons (so_iload_n d_W_putForeignStructures_71 rfl) ?_
  refine ct_al.cons (so_iconst d_W_putForeignStructures_72 (by decide)) ?_
  refine ct_al.cons (so_i2l d_W_putForeignStructures_76) ?_
  refine ct_al.cons (so_iconst d_W_putForeignStructures_77 (by decide)) ?_
  refine ct_al.cons (so_iinc d_W_putForeignStructures_81 (by decide) (by decide)) ?_
  refine ct_al.cons (so_goto d_W_putForeignStructures_84 (by decide)) ?_
  exact ct_al.nil
theorem e_W_putForeignStructures_0 : ct_tab (T_W_putForeignStructures) 0 = some (o_aload 0 1) := rfl
theorem e_W_putForeignStructures_1 : ct_tab (T_W_putForeignStructures) 1 = some (o_aload 0 1) := rfl
theorem e_W_putForeignStructures_2 : ct_tab (T_W_putForeignStructures) 2 = some (o_getR 3 3 0) := rfl
theorem e_W_putForeignStructures_5 : ct_tab (T_W_putForeignStructures) 5 = some (o_getR 1 10 0) := rfl
theorem e_W_putForeignStructures_8 : ct_tab (T_W_putForeignStructures) 8 = some (o_push (.int 2) 1) := rfl
theorem e_W_putForeignStructures_9 : ct_tab (T_W_putForeignStructures) 9 = some (o_iald) := rfl
theorem e_W_putForeignStructures_10 : ct_tab (T_W_putForeignStructures) 10 = some (o_i2l) := rfl
theorem e_W_putForeignStructures_11 : ct_tab (T_W_putForeignStructures) 11 = some (o_push (.int 1) 1) := rfl
theorem e_W_putForeignStructures_15 : ct_tab (T_W_putForeignStructures) 15 = some (o_aload 0 1) := rfl
theorem e_W_putForeignStructures_16 : ct_tab (T_W_putForeignStructures) 16 = some (o_getR 3 3 0) := rfl
theorem e_W_putForeignStructures_19 : ct_tab (T_W_putForeignStructures) 19 = some (o_getR 1 10 0) := rfl
theorem e_W_putForeignStructures_22 : ct_tab (T_W_putForeignStructures) 22 = some (o_push (.int 1) 1) := rfl
theorem e_W_putForeignStructures_23 : ct_tab (T_W_putForeignStructures) 23 = some (o_iald) := rfl
theorem e_W_putForeignStructures_24 : ct_tab (T_W_putForeignStructures) 24 = some (o_istore 1 1) := rfl
theorem e_W_putForeignStructures_25 : ct_tab (T_W_putForeignStructures) 25 = some (o_iload 1 1) := rfl
theorem e_W_putForeignStructures_26 : ct_tab (T_W_putForeignStructures) 26 = some (o_aload 0 1) := rfl
theorem e_W_putForeignStructures_27 : ct_tab (T_W_putForeignStructures) 27 = some (o_getR 3 3 0) := rfl
theorem e_W_putForeignStructures_33 : ct_tab (T_W_putForeignStructures) 33 = some (o_ic (fun x y => y ≤ x) (fun x y => ¬ y ≤ x) 87) := rfl
theorem e_W_putForeignStructures_36 : ct_tab (T_W_putForeignStructures) 36 = some (o_aload 0 1) := rfl
theorem e_W_putForeignStructures_37 : ct_tab (T_W_putForeignStructures) 37 = some (o_aload 0 1) := rfl
theorem e_W_putForeignStructures_38 : ct_tab (T_W_putForeignStructures) 38 = some (o_getR 3 3 0) := rfl
theorem e_W_putForeignStructures_41 : ct_tab (T_W_putForeignStructures) 41 = some (o_iload 1 1) := rfl
theorem e_W_putForeignStructures_42 : ct_tab (T_W_putForeignStructures) 42 = some (o_push (.int 2) 1) := rfl
theorem e_W_putForeignStructures_46 : ct_tab (T_W_putForeignStructures) 46 = some (o_i2l) := rfl
theorem e_W_putForeignStructures_47 : ct_tab (T_W_putForeignStructures) 47 = some (o_push (.int 2) 1) := rfl
theorem e_W_putForeignStructures_51 : ct_tab (T_W_putForeignStructures) 51 = some (o_aload 0 1) := rfl
theorem e_W_putForeignStructures_52 : ct_tab (T_W_putForeignStructures) 52 = some (o_aload 0 1) := rfl
theorem e_W_putForeignStructures_53 : ct_tab (T_W_putForeignStructures) 53 = some (o_getR 3 3 0) := rfl
theorem e_W_putForeignStructures_56 : ct_tab (T_W_putForeignStructures) 56 = some (o_iload 1 1) := rfl
theorem e_W_putForeignStructures_57 : ct_tab (T_W_putForeignStructures) 57 = some (o_push (.int 3) 1) := rfl
theorem e_W_putForeignStructures_61 : ct_tab (T_W_putForeignStructures) 61 = some (o_i2l) := rfl
theorem e_W_putForeignStructures_62 : ct_tab (T_W_putForeignStructures) 62 = some (o_push (.int 1) 1) := rfl
theorem e_W_putForeignStructures_66 : ct_tab (T_W_putForeignStructures) 66 = some (o_aload 0 1) := rfl
theorem e_W_putForeignStructures_67 : ct_tab (T_W_putForeignStructures) 67 = some (o_aload 0 1) := rfl
theorem e_W_putForeignStructures_68 : ct_tab (T_W_putForeignStructures) 68 = some (o_getR 3 3 0) := rfl
theorem e_W_putForeignStructures_71 : ct_tab (T_W_putForeignStructures) 71 = some (o_iload 1 1) := rfl
theorem e_W_putForeignStructures_72 : ct_tab (T_W_putForeignStructures) 72 = some (o_push (.int 0) 1) := rfl
theorem e_W_putForeignStructures_76 : ct_tab (T_W_putForeignStructures) 76 = some (o_i2l) := rfl
theorem e_W_putForeignStructures_77 : ct_tab (T_W_putForeignStructures) 77 = some (o_push (.int 1) 1) := rfl
theorem e_W_putForeignStructures_81 : ct_tab (T_W_putForeignStructures) 81 = some (o_iinc 1 1) := rfl
theorem e_W_putForeignStructures_84 : ct_tab (T_W_putForeignStructures) 84 = some (o_goto 25) := rfl
theorem cl_W_putForeignStructures_12 {l : ct_Lx} {d d1 : Nat} {Post Post1 : Option Value → ct_Sg → Prop} {lv : ct_Lv} {st : List Value} {g : ct_Sg} {bc bs c1 s1 : Nat} {a1 a2 : Value} {h : Nat} (hsh : g.2.1 h = (10 + 3, 3)) (hM : ct_Me l M_W_put d1 c1 s1 [.ref h, a1, a2] g Post1) (hdd : d1 + 1 ≤ d) (hk : (st.map fun v => v.category).sum ≤ 8) (hcc : c1 ≤ bc) (hss : s1 ≤ bs) (kk : ∀ (v : Option Value) (g' : ct_Sg), Post1 v g' → ct_Wp l M_W_putForeignStructures d Post (15, lv, v.toList ++ st, g', bc - c1, bs - s1)) : ct_Wp l M_W_putForeignStructures d Post (12, lv, a2 :: a1 :: .ref h :: st, g, bc, bs) := ct_Wp.callV (ci := 3) (N := 3) (T := ct_T3) (As := [a1, a2]) lk_W_put (Or.inl wd_202) wd_203 wd_204 rfl d_W_putForeignStructures_12 hsh hM rfl hdd hk hcc hss kk
theorem cl_W_putForeignStructures_30 {l : ct_Lx} {d d1 : Nat} {Post Post1 : Option Value → ct_Sg → Prop} {lv : ct_Lv} {st : List Value} {g : ct_Sg} {bc bs c1 s1 : Nat} {h : Nat} (hsh : g.2.1 h = (10 + 1, 10)) (hM : ct_Me l M_T_allStructures d1 c1 s1 [.ref h] g Post1) (hdd : d1 + 1 ≤ d) (hk : (st.map fun v => v.category).sum ≤ 8) (hcc : c1 ≤ bc) (hss : s1 ≤ bs) (kk : ∀ (v : Option Value) (g' : ct_Sg), Post1 v g' → ct_Wp l M_W_putForeignStructures d Post (33, lv, v.toList ++ st, g', bc - c1, bs - s1)) : ct_Wp l M_W_putForeignStructures d Post (30, lv, .ref h :: st, g, bc, bs) := ct_Wp.callV (ci := 1) (N := 10) (T := ct_T1) (As := []) lk_T_allStructures (Or.inl wd_238) wd_20 wd_21 rfl d_W_putForeignStructures_30 hsh hM rfl hdd hk hcc hss kk
theorem cl_W_putForeignStructures_43 {l : ct_Lx} {d d1 : Nat} {Post Post1 : Option Value → ct_Sg → Prop} {lv : ct_Lv} {st : List Value} {g : ct_Sg} {bc bs c1 s1 : Nat} {a1 a2 : Value} {h : Nat} (hsh : g.2.1 h = (10 + 1, 10)) (hM : ct_Me l M_T_structureFact d1 c1 s1 [.ref h, a1, a2] g Post1) (hdd : d1 + 1 ≤ d) (hk : (st.map fun v => v.category).sum ≤ 8) (hcc : c1 ≤ bc) (hss : s1 ≤ bs) (kk : ∀ (v : Option Value) (g' : ct_Sg), Post1 v g' → ct_Wp l M_W_putForeignStructures d Post (46, lv, v.toList ++ st, g', bc - c1, bs - s1)) : ct_Wp l M_W_putForeignStructures d Post (43, lv, a2 :: a1 :: .ref h :: st, g, bc, bs) := ct_Wp.callV (ci := 1) (N := 10) (T := ct_T1) (As := [a1, a2]) lk_T_structureFact (Or.inl wd_231) wd_25 wd_26 rfl d_W_putForeignStructures_43 hsh hM rfl hdd hk hcc hss kk
theorem cl_W_putForeignStructures_48 {l : ct_Lx} {d d1 : Nat} {Post Post1 : Option Value → ct_Sg → Prop} {lv : ct_Lv} {st : List Value} {g : ct_Sg} {bc bs c1 s1 : Nat} {a1 a2 : Value} {h : Nat} (hsh : g.2.1 h = (10 + 3, 3)) (hM : ct_Me l M_W_put d1 c1 s1 [.ref h, a1, a2] g Post1) (hdd : d1 + 1 ≤ d) (hk : (st.map fun v => v.category).sum ≤ 8) (hcc : c1 ≤ bc) (hss : s1 ≤ bs) (kk : ∀ (v : Option Value) (g' : ct_Sg), Post1 v g' → ct_Wp l M_W_putForeignStructures d Post (51, lv, v.toList ++ st, g', bc - c1, bs - s1)) : ct_Wp l M_W_putForeignStructures d Post (48, lv, a2 :: a1 :: .ref h :: st, g, bc, bs) := ct_Wp.callV (ci := 3) (N := 3) (T := ct_T3) (As := [a1, a2]) lk_W_put (Or.inl wd_202) wd_203 wd_204 rfl d_W_putForeignStructures_48 hsh hM rfl hdd hk hcc hss kk
theorem cl_W_putForeignStructures_58 {l : ct_Lx} {d d1 : Nat} {Post Post1 : Option Value → ct_Sg → Prop} {lv : ct_Lv} {st : List Value} {g : ct_Sg} {bc bs c1 s1 : Nat} {a1 a2 : Value} {h : Nat} (hsh : g.2.1 h = (10 + 1, 10)) (hM : ct_Me l M_T_structureFact d1 c1 s1 [.ref h, a1, a2] g Post1) (hdd : d1 + 1 ≤ d) (hk : (st.map fun v => v.category).sum ≤ 8) (hcc : c1 ≤ bc) (hss : s1 ≤ bs) (kk : ∀ (v : Option Value) (g' : ct_Sg), Post1 v g' → ct_Wp l M_W_putForeignStructures d Post (61, lv, v.toList ++ st, g', bc - c1, bs - s1)) : ct_Wp l M_W_putForeignStructures d Post (58, lv, a2 :: a1 :: .ref h :: st, g, bc, bs) := ct_Wp.callV (ci := 1) (N := 10) (T := ct_T1) (As := [a1, a2]) lk_T_structureFact (Or.inl wd_231) wd_25 wd_26 rfl d_W_putForeignStructures_58 hsh hM rfl hdd hk hcc hss kk
theorem cl_W_putForeignStructures_63 {l : ct_Lx} {d d1 : Nat} {Post Post1 : Option Value → ct_Sg → Prop} {lv : ct_Lv} {st : List Value} {g : ct_Sg} {bc bs c1 s1 : Nat} {a1 a2 : Value} {h : Nat} (hsh : g.2.1 h = (10 + 3, 3)) (hM : ct_Me l M_W_put d1 c1 s1 [.ref h, a1, a2] g Post1) (hdd : d1 + 1 ≤ d) (hk : (st.map fun v => v.category).sum ≤ 8) (hcc : c1 ≤ bc) (hss : s1 ≤ bs) (kk : ∀ (v : Option Value) (g' : ct_Sg), Post1 v g' → ct_Wp l M_W_putForeignStructures d Post (66, lv, v.toList ++ st, g', bc - c1, bs - s1)) : ct_Wp l M_W_putForeignStructures d Post (63, lv, a2 :: a1 :: .ref h :: st, g, bc, bs) := ct_Wp.callV (ci := 3) (N := 3) (T := ct_T3) (As := [a1, a2]) lk_W_put (Or.inl wd_202) wd_203 wd_204 rfl d_W_putForeignStructures_63 hsh hM rfl hdd hk hcc hss kk
theorem cl_W_putForeignStructures_73 {l : ct_Lx} {d d1 : Nat} {Post Post1 : Option Value → ct_Sg → Prop} {lv : ct_Lv} {st : List Value} {g : ct_Sg} {bc bs c1 s1 : Nat} {a1 a2 : Value} {h : Nat} (hsh : g.2.1 h = (10 + 1, 10)) (hM : ct_Me l M_T_structureFact d1 c1 s1 [.ref h, a1, a2] g Post1) (hdd : d1 + 1 ≤ d) (hk : (st.map fun v => v.category).sum ≤ 8) (hcc : c1 ≤ bc) (hss : s1 ≤ bs) (kk : ∀ (v : Option Value) (g' : ct_Sg), Post1 v g' → ct_Wp l M_W_putForeignStructures d Post (76, lv, v.toList ++ st, g', bc - c1, bs - s1)) : ct_Wp l M_W_putForeignStructures d Post (73, lv, a2 :: a1 :: .ref h :: st, g, bc, bs) := ct_Wp.callV (ci := 1) (N := 10) (T := ct_T1) (As := [a1, a2]) lk_T_structureFact (Or.inl wd_231) wd_25 wd_26 rfl d_W_putForeignStructures_73 hsh hM rfl hdd hk hcc hss kk
theorem cl_W_putForeignStructures_78 {l : ct_Lx} {d d1 : Nat} {Post Post1 : Option Value → ct_Sg → Prop} {lv : ct_Lv} {st : List Value} {g : ct_Sg} {bc bs c1 s1 : Nat} {a1 a2 : Value} {h : Nat} (hsh : g.2.1 h = (10 + 3, 3)) (hM : ct_Me l M_W_put d1 c1 s1 [.ref h, a1, a2] g Post1) (hdd : d1 + 1 ≤ d) (hk : (st.map fun v => v.category).sum ≤ 8) (hcc : c1 ≤ bc) (hss : s1 ≤ bs) (kk : ∀ (v : Option Value) (g' : ct_Sg), Post1 v g' → ct_Wp l M_W_putForeignStructures d Post (81, lv, v.toList ++ st, g', bc - c1, bs - s1)) : ct_Wp l M_W_putForeignStructures d Post (78, lv, a2 :: a1 :: .ref h :: st, g, bc, bs) := ct_Wp.callV (ci := 3) (N := 3) (T := ct_T3) (As := [a1, a2]) lk_W_put (Or.inl wd_202) wd_203 wd_204 rfl d_W_putForeignStructures_78 hsh hM rfl hdd hk hcc hss kk
theorem d_W_putForeignFunctions_0 : decode prog_5_method_5_code 0 = .ok (.aload_n 0, 1) := by decide +kernel
theorem d_W_putForeignFunctions_1 : decode prog_5_method_5_code 1 = .ok (.aload_n 0, 1) := by decide +kernel
theorem d_W_putForeignFunctions_2 : decode prog_5_method_5_code 2 = .ok (.getfield 19, 3) := by decide +kernel
theorem d_W_putForeignFunctions_5 : decode prog_5_method_5_code 5 = .ok (.getfield 31, 3) := by decide +kernel
theorem d_W_putForeignFunctions_8 : decode prog_5_method_5_code 8 = .ok (.iconst 3, 1) := by decide +kernel
theorem d_W_putForeignFunctions_9 : decode prog_5_method_5_code 9 = .ok (.iaload, 1) := by decide +kernel
theorem d_W_putForeignFunctions_10 : decode prog_5_method_5_code 10 = .ok (.i2l, 1) := by decide +kernel
theorem d_W_putForeignFunctions_11 : decode prog_5_method_5_code 11 = .ok (.iconst 1, 1) := by decide +kernel
theorem d_W_putForeignFunctions_12 : decode prog_5_method_5_code 12 = .ok (.invokevirtual 27, 3) := by decide +kernel
theorem d_W_putForeignFunctions_15 : decode prog_5_method_5_code 15 = .ok (.aload_n 0, 1) := by decide +kernel
theorem d_W_putForeignFunctions_16 : decode prog_5_method_5_code 16 = .ok (.getfield 19, 3) := by decide +kernel
theorem d_W_putForeignFunctions_19 : decode prog_5_method_5_code 19 = .ok (.getfield 31, 3) := by decide +kernel
theorem d_W_putForeignFunctions_22 : decode prog_5_method_5_code 22 = .ok (.iconst 5, 1) := by decide +kernel
theorem d_W_putForeignFunctions_23 : decode prog_5_method_5_code 23 = .ok (.iaload, 1) := by decide +kernel
theorem d_W_putForeignFunctions_24 : decode prog_5_method_5_code 24 = .ok (.istore_n 1, 1) := by decide +kernel
theorem d_W_putForeignFunctions_25 : decode prog_5_method_5_code 25 = .ok (.iload_n 1, 1) := by decide +kernel
theorem d_W_putForeignFunctions_26 : decode prog_5_method_5_code 26 = .ok (.aload_n 0, 1) := by decide +kernel
theorem d_W_putForeignFunctions_27 : decode prog_5_method_5_code 27 = .ok (.getfield 19, 3) := by decide +kernel
theorem d_W_putForeignFunctions_30 : decode prog_5_method_5_code 30 = .ok (.invokevirtual 67, 3) := by decide +kernel
theorem d_W_putForeignFunctions_33 : decode prog_5_method_5_code 33 = .ok (.if_icmp .ge 67, 3) := by decide +kernel
theorem d_W_putForeignFunctions_36 : decode prog_5_method_5_code 36 = .ok (.aload_n 0, 1) := by decide +kernel
theorem d_W_putForeignFunctions_37 : decode prog_5_method_5_code 37 = .ok (.aload_n 0, 1) := by decide +kernel
theorem d_W_putForeignFunctions_38 : decode prog_5_method_5_code 38 = .ok (.getfield 19, 3) := by decide +kernel
theorem d_W_putForeignFunctions_41 : decode prog_5_method_5_code 41 = .ok (.iload_n 1, 1) := by decide +kernel
theorem d_W_putForeignFunctions_42 : decode prog_5_method_5_code 42 = .ok (.iconst 5, 1) := by decide +kernel
theorem d_W_putForeignFunctions_43 : decode prog_5_method_5_code 43 = .ok (.invokevirtual 70, 3) := by decide +kernel
theorem d_W_putForeignFunctions_46 : decode prog_5_method_5_code 46 = .ok (.i2l, 1) := by decide +kernel
theorem d_W_putForeignFunctions_47 : decode prog_5_method_5_code 47 = .ok (.iconst 2, 1) := by decide +kernel
theorem d_W_putForeignFunctions_48 : decode prog_5_method_5_code 48 = .ok (.invokevirtual 27, 3) := by decide +kernel
theorem d_W_putForeignFunctions_51 : decode prog_5_method_5_code 51 = .ok (.aload_n 0, 1) := by decide +kernel
theorem d_W_putForeignFunctions_52 : decode prog_5_method_5_code 52 = .ok (.aload_n 0, 1) := by decide +kernel
theorem d_W_putForeignFunctions_53 : decode prog_5_method_5_code 53 = .ok (.getfield 19, 3) := by decide +kernel
theorem d_W_putForeignFunctions_56 : decode prog_5_method_5_code 56 = .ok (.iload_n 1, 1) := by decide +kernel
theorem d_W_putForeignFunctions_57 : decode prog_5_method_5_code 57 = .ok (.bipush 6, 2) := by decide +kernel
theorem d_W_putForeignFunctions_59 : decode prog_5_method_5_code 59 = .ok (.invokevirtual 70, 3) := by decide +kernel
theorem d_W_putForeignFunctions_62 : decode prog_5_method_5_code 62 = .ok (.i2l, 1) := by decide +kernel
theorem d_W_putForeignFunctions_63 : decode prog_5_method_5_code 63 = .ok (.iconst 1, 1) := by decide +kernel
theorem d_W_putForeignFunctions_64 : decode prog_5_method_5_code 64 = .ok (.invokevirtual 27, 3) := by decide +kernel
theorem d_W_putForeignFunctions_67 : decode prog_5_method_5_code 67 = .ok (.aload_n 0, 1) := by decide +kernel
theorem d_W_putForeignFunctions_68 : decode prog_5_method_5_code 68 = .ok (.aload_n 0, 1) := by decide +kernel
theorem d_W_putForeignFunctions_69 : decode prog_5_method_5_code 69 = .ok (.getfield 19, 3) := by decide +kernel
theorem d_W_putForeignFunctions_72 : decode prog_5_method_5_code 72 = .ok (.iload_n 1, 1) := by decide +kernel
theorem d_W_putForeignFunctions_73 : decode prog_5_method_5_code 73 = .ok (.iconst 0, 1) := by decide +kernel
theorem d_W_putForeignFunctions_74 : decode prog_5_method_5_code 74 = .ok (.invokevirtual 70, 3) := by decide +kernel
theorem d_W_putForeignFunctions_77 : decode prog_5_method_5_code 77 = .ok (.i2l, 1) := by decide +kernel
theorem d_W_putForeignFunctions_78 : decode prog_5_method_5_code 78 = .ok (.iconst 1, 1) := by decide +kernel
theorem d_W_putForeignFunctions_79 : decode prog_5_method_5_code 79 = .ok (.invokevirtual 27, 3) := by decide +kernel
theorem d_W_putForeignFunctions_82 : decode prog_5_method_5_code 82 = .ok (.aload_n 0, 1) := by decide +kernel
theorem d_W_putForeignFunctions_83 : decode prog_5_method_5_code 83 = .ok (.iload_n 1, 1) := by decide +kernel
theorem d_W_putForeignFunctions_84 : decode prog_5_method_5_code 84 = .ok (.iconst 0, 1) := by decide +kernel
theorem d_W_putForeignFunctions_85 : decode prog_5_method_5_code 85 = .ok (.invokevirtual 73, 3) := by decide +kernel
theorem d_W_putForeignFunctions_88 : decode prog_5_method_5_code 88 = .ok (.aload_n 0, 1) := by decide +kernel
theorem d_W_putForeignFunctions_89 : decode prog_5_method_5_code 89 = .ok (.iload_n 1, 1) := by decide +kernel
theorem d_W_putForeignFunctions_90 : decode prog_5_method_5_code 90 = .ok (.iconst 1, 1) := by decide +kernel
theorem d_W_putForeignFunctions_91 : decode prog_5_method_5_code 91 = .ok (.invokevirtual 73, 3) := by decide +kernel
theorem d_W_putForeignFunctions_94 : decode prog_5_method_5_code 94 = .ok (.iinc 1 1, 3) := by decide +kernel
theorem d_W_putForeignFunctions_97 : decode prog_5_method_5_code 97 = .ok (.goto (-72), 3) := by decide +kernel
theorem d_W_putForeignFunctions_100 : decode prog_5_method_5_code 100 = .ok (.return_, 1) := by decide +kernel
abbrev T_W_putForeignFunctions : List (Nat × ct_PT) := [(0, o_aload 0 1), (1, o_aload 0 1), (2, o_getR 3 3 0), (5, o_getR 1 10 0), (8, o_push (.int 3) 1), (9, o_iald), (10, o_i2l), (11, o_push (.int 1) 1), (15, o_aload 0 1), (16, o_getR 3 3 0), (19, o_getR 1 10 0), (22, o_push (.int 5) 1), (23, o_iald), (24, o_istore 1 1), (25, o_iload 1 1), (26, o_aload 0 1), (27, o_getR 3 3 0), (33, o_ic (fun x y => y ≤ x) (fun x y => ¬ y ≤ x) 100), (36, o_aload 0 1), (37, o_aload 0 1), (38, o_getR 3 3 0), (41, o_iload 1 1), (42, o_push (.int 5) 1), (46, o_i2l), (47, o_push (.int 2) 1), (51, o_aload 0 1), (52, o_aload 0 1), (53, o_getR 3 3 0), (56, o_iload 1 1), (57, o_push (.int 6) 2), (62, o_i2l), (63, o_push (.int 1) 1), (67, o_aload 0 1), (68, o_aload 0 1), (69, o_getR 3 3 0), (72, o_iload 1 1), (73, o_push (.int 0) 1), (77, o_i2l), (78, o_push (.int 1) 1), (82, o_aload 0 1), (83, o_iload 1 1), (84, o_push (.int 0) 1), (88, o_aload 0 1), (89, o_iload 1 1), (90, o_push (.int 1) 1), (94, o_iinc 1 1), (97, o_goto 25)]
set_option maxRecDepth 100000 in
theorem A_W_putForeignFunctions (l : ct_Lx) : ct_al l M_W_putForeignFunctions (T_W_putForeignFunctions) := by
  refine ct_al.cons (so_aload_n d_W_putForeignFunctions_0 rfl) ?_
  refine ct_al.cons (so_aload_n d_W_putForeignFunctions_1 rfl) ?_
  refine ct_al.cons (so_getR (Cn := "CodeTables$Writer") (T := ct_T3) kc_3 (by decide) rfl rfl wd_198 d_W_putForeignFunctions_2) ?_
  refine ct_al.cons (so_getR (Cn := "CodeTables$Tables") (T := ct_T1) kc_1 (by decide) rfl rfl wd_205 d_W_putForeignFunctions_5) ?_
  refine ct_al.cons (so_iconst d_W_putForeignFunctions_8 (by decide)) ?_
  refine ct_al.cons (so_iald d_W_putForeignFunctions_9) ?_
  refine ct_al.cons (so_i2l d_W_putForeignFunctions_10) ?_
  refine ct_al.cons (so_iconst d_W_putForeignFunctions_11 (by decide)) ?_
  refine ct_al.cons (so_aload_n d_W_putForeignFunctions_15 rfl) ?_
  refine ct_al.cons (so_getR (Cn := "CodeTables$Writer") (T := ct_T3) kc_3 (by decide) rfl rfl wd_198 d_W_putForeignFunctions_16) ?_
  refine ct_al.cons (so_getR (Cn := "CodeTables$Tables") (T := ct_T1) kc_1 (by decide) rfl rfl wd_205 d_W_putForeignFunctions_19) ?_
  refine ct_al.cons (so_iconst d_W_putForeignFunctions_22 (by decide)) ?_
  refine ct_al.cons (so_iald d_W_putForeignFunctions_23) ?_
  refine ct_al.cons (so_istore_n d_W_putForeignFunctions_24 rfl (by decide)) ?_
  refine ct_al.cons (so_iload_n d_W_putForeignFunctions_25 rfl) ?_
  refine ct_al.cons (so_aload_n d_W_putForeignFunctions_26 rfl) ?_
  refine ct_al.cons (so_getR (Cn := "CodeTables$Writer") (T := ct_T3) kc_3 (by decide) rfl rfl wd_198 d_W_putForeignFunctions_27) ?_
  refine ct_al.cons (so_ic_ge d_W_putForeignFunctions_33 (by decide)) ?_
  refine ct_al.cons (so_aload_n d_W_putForeignFunctions_36 rfl) ?_
  refine ct_al.cons (so_aload_n d_W_putForeignFunctions_37 rfl) ?_
  refine ct_al.cons (so_getR (Cn := "CodeTables$Writer") (T := ct_T3) kc_3 (by decide) rfl rfl wd_198 d_W_putForeignFunctions_38) ?_
  refine ct_al.cons (so_iload_n d_W_putForeignFunctions_41 rfl) ?_
  refine ct_al.cons (so_iconst d_W_putForeignFunctions_42 (by decide)) ?_
  refine ct_al.cons (so_i2l d_W_putForeignFunctions_46) ?_
  refine ct_al.cons (so_iconst d_W_putForeignFunctions_47 (by decide)) ?_
  refine ct_al.cons (so_aload_n d_W_putForeignFunctions_51 rfl) ?_
  refine ct_al.cons (so_aload_n d_W_putForeignFunctions_52 rfl) ?_
  refine ct_al.cons (so_getR (Cn := "CodeTables$Writer") (T := ct_T3) kc_3 (by decide) rfl rfl wd_198 d_W_putForeignFunctions_53) ?_
  refine ct_al.cons (so_iload_n d_W_putForeignFunctions_56 rfl) ?_
  refine ct_al.cons (so_bipush d_W_putForeignFunctions_57 (by decide)) ?_
  refine ct_al.cons (so_i2l d_W_putForeignFunctions_62) ?_
  refine ct_al.cons (so_iconst d_W_putForeignFunctions_63 (by decide)) ?_
  refine ct_al.cons (so_aload_n d_W_putForeignFunctions_67 rfl) ?_
  refine ct_al.cons (so_aload_n d_W_putForeignFunctions_68 rfl) ?_
  refine ct_al.cons (so_getR (Cn := "CodeTables$Writer") (T := ct_T3) kc_3 (by decide) rfl rfl wd_198 d_W_putForeignFunctions_69) ?_
  refine ct_al.cons (so_iload_n d_W_putForeignFunctions_72 rfl) ?_
  refine ct_al.cons (so_iconst d_W_putForeignFunctions_73 (by decide)) ?_
  refine ct_al.cons (so_i2l d_W_putForeignFunctions_77) ?_
  refine ct_al.cons (so_iconst d_W_putForeignFunctions_78 (by decide)) ?_
  refine ct_al.cons (so_aload_n d_W_putForeignFunctions_82 rfl) ?_
  refine ct_al.cons (so_iload_n d_W_putForeignFunctions_83 rfl) ?_
  refine ct_al.cons (so_iconst d_W_putForeignFunctions_84 (by decide)) ?_
  refine ct_al.cons (so_aload_n d_W_putForeignFunctions_88 rfl) ?_
  refine ct_al.cons (so_iload_n d_W_putForeignFunctions_89 rfl) ?_
  refine ct_al.cons (so_iconst d_W_putForeignFunctions_90 (by decide)) ?_
  refine ct_al.cons (so_iinc d_W_putForeignFunctions_94 (by decide) (by decide)) ?_
  refine ct_al.cons (so_goto d_W_putForeignFunctions_97 (by decide)) ?_
  exact ct_al.nil
theorem e_W_putForeignFunctions_0 : ct_tab (T_W_putForeignFunctions) 0 = some (o_aload 0 1) := rfl
theorem e_W_putForeignFunctions_1 : ct_tab (T_W_putForeignFunctions) 1 = some (o_aload 0 1) := rfl
theorem e_W_putForeignFunctions_2 : ct_tab (T_W_putForeignFunctions) 2 = some (o_getR 3 3 0) := rfl
theorem e_W_putForeignFunctions_5 : ct_tab (T_W_putForeignFunctions) 5 = some (o_getR 1 10 0) := rfl
theorem e_W_putForeignFunctions_8 : ct_tab (T_W_putForeignFunctions) 8 = some (o_push (.int 3) 1) := rfl
theorem e_W_putForeignFunctions_9 : ct_tab (T_W_putForeignFunctions) 9 = some (o_iald) := rfl
theorem e_W_putForeignFunctions_10 : ct_tab (T_W_putForeignFunctions) 10 = some (o_i2l) := rfl
theorem e_W_putForeignFunctions_11 : ct_tab (T_W_putForeignFunctions) 11 = some (o_push (.int 1) 1) := rfl
theorem e_W_putForeignFunctions_15 : ct_tab (T_W_putForeignFunctions) 15 = some (o_aload 0 1) := rfl
theorem e_W_putForeignFunctions_16 : ct_tab (T_W_putForeignFunctions) 16 = some (o_getR 3 3 0) := rfl
theorem e_W_putForeignFunctions_19 : ct_tab (T_W_putForeignFunctions) 19 = some (o_getR 1 10 0) := rfl
theorem e_W_putForeignFunctions_22 : ct_tab (T_W_putForeignFunctions) 22 = some (o_push (.int 5) 1) := rfl
theorem e_W_putForeignFunctions_23 : ct_tab (T_W_putForeignFunctions) 23 = some (o_iald) := rfl
theorem e_W_putForeignFunctions_24 : ct_tab (T_W_putForeignFunctions) 24 = some (o_istore 1 1) := rfl
theorem e_W_putForeignFunctions_25 : ct_tab (T_W_putForeignFunctions) 25 = some (o_iload 1 1) := rfl
theorem e_W_putForeignFunctions_26 : ct_tab (T_W_putForeignFunctions) 26 = some (o_aload 0 1) := rfl
theorem e_W_putForeignFunctions_27 : ct_tab (T_W_putForeignFunctions) 27 = some (o_getR 3 3 0) := rfl
theorem e_W_putForeignFunctions_33 : ct_tab (T_W_putForeignFunctions) 33 = some (o_ic (fun x y => y ≤ x) (fun x y => ¬ y ≤ x) 100) := rfl
theorem e_W_putForeignFunctions_36 : ct_tab (T_W_putForeignFunctions) 36 = some (o_aload 0 1) := rfl
theorem e_W_putForeignFunctions_37 : ct_tab (T_W_putForeignFunctions) 37 = some (o_aload 0 1) := rfl
theorem e_W_putForeignFunctions_38 : ct_tab (T_W_putForeignFunctions) 38 = some (o_getR 3 3 0) := rfl
theorem e_W_putForeignFunctions_41 : ct_tab (T_W_putForeignFunctions) 41 = some (o_iload 1 1) := rfl
theorem e_W_putForeignFunctions_42 : ct_tab (T_W_putForeignFunctions) 42 = some (o_push (.int 5) 1) := rfl
theorem e_W_putForeignFunctions_46 : ct_tab (T_W_putForeignFunctions) 46 = some (o_i2l) := rfl
theorem e_W_putForeignFunctions_47 : ct_tab (T_W_putForeignFunctions) 47 = some (o_push (.int 2) 1) := rfl
theorem e_W_putForeignFunctions_51 : ct_tab (T_W_putForeignFunctions) 51 = some (o_aload 0 1) := rfl
theorem e_W_putForeignFunctions_52 : ct_tab (T_W_putForeignFunctions) 52 = some (o_aload 0 1) := rfl
theorem e_W_putForeignFunctions_53 : ct_tab (T_W_putForeignFunctions) 53 = some (o_getR 3 3 0) := rfl
theorem e_W_putForeignFunctions_56 : ct_tab (T_W_putForeignFunctions) 56 = some (o_iload 1 1) := rfl
theorem e_W_putForeignFunctions_57 : ct_tab (T_W_putForeignFunctions) 57 = some (o_push (.int 6) 2) := rfl
theorem e_W_putForeignFunctions_62 : ct_tab (T_W_putForeignFunctions) 62 = some (o_i2l) := rfl
theorem e_W_putForeignFunctions_63 : ct_tab (T_W_putForeignFunctions) 63 = some (o_push (.int 1) 1) := rfl
theorem e_W_putForeignFunctions_67 : ct_tab (T_W_putForeignFunctions) 67 = some (o_aload 0 1) := rfl
theorem e_W_putForeignFunctions_68 : ct_tab (T_W_putForeignFunctions) 68 = some (o_aload 0 1) := rfl
theorem e_W_putForeignFunctions_69 : ct_tab (T_W_putForeignFunctions) 69 = some (o_getR 3 3 0) := rfl
theorem e_W_putForeignFunctions_72 : ct_tab (T_W_putForeignFunctions) 72 = some (o_iload 1 1) := rfl
theorem e_W_putForeignFunctions_73 : ct_tab (T_W_putForeignFunctions) 73 = some (o_push (.int 0) 1) := rfl
theorem e_W_putForeignFunctions_77 : ct_tab (T_W_putForeignFunctions) 77 = some (o_i2l) := rfl
theorem e_W_putForeignFunctions_78 : ct_tab (T_W_putForeignFunctions) 78 = some (o_push (.int 1) 1) := rfl
theorem e_W_putForeignFunctions_82 : ct_tab (T_W_putForeignFunctions) 82 = some (o_aload 0 1) := rfl
theorem e_W_putForeignFunctions_83 : ct_tab (T_W_putForeignFunctions) 83 = some (o_iload 1 1) := rfl
theorem e_W_putForeignFunctions_84 : ct_tab (T_W_putForeignFunctions) 84 = some (o_push (.int 0) 1) := rfl
theorem e_W_putForeignFunctions_88 : ct_tab (T_W_putForeignFunctions) 88 = some (o_aload 0 1) := rfl
theorem e_W_putForeignFunctions_89 : ct_tab (T_W_putForeignFunctions) 89 = some (o_iload 1 1) := rfl
theorem e_W_putForeignFunctions_90 : ct_tab (T_W_putForeignFunctions) 90 = some (o_push (.int 1) 1) := rfl
theorem e_W_putForeignFunctions_94 : ct_tab (T_W_putForeignFunctions) 94 = some (o_iinc 1 1) := rfl
theorem e_W_putForeignFunctions_97 : ct_tab (T_W_putForeignFunctions) 97 = some (o_goto 25) := rfl
theorem cl_W_putForeignFunctions_12 {l : ct_Lx} {d d1 : Nat} {Post Post1 : Option Value → ct_Sg → Prop} {lv : ct_Lv} {st : List Value} {g : ct_Sg} {bc bs c1 s1 : Nat} {a1 a2 : Value} {h : Nat} (hsh : g.2.1 h = (10 + 3, 3)) (hM : ct_Me l M_W_put d1 c1 s1 [.ref h, a1, a2] g Post1) (hdd : d1 + 1 ≤ d) (hk : (st.map fun v => v.category).sum ≤ 8) (hcc : c1 ≤ bc) (hss : s1 ≤ bs) (kk : ∀ (v : Option Value) (g' : ct_Sg), Post1 v g' → ct_Wp l M_W_putForeignFunctions d Post (15, lv, v.toList ++ st, g', bc - c1, bs - s1)) : ct_Wp l M_W_putForeignFunctions d Post (12, lv, a2 :: a1 :: .ref h :: st, g, bc, bs) := ct_Wp.callV (ci := 3) (N := 3) (T := ct_T3) (As := [a1, a2]) lk_W_put (Or.inl wd_202) wd_203 wd_204 rfl d_W_putForeignFunctions_12 hsh hM rfl hdd hk hcc hss kk
theorem cl_W_putForeignFunctions_30 {l : ct_Lx} {d d1 : Nat} {Post Post1 : Option Value → ct_Sg → Prop} {lv : ct_Lv} {st : List Value} {g : ct_Sg} {bc bs c1 s1 : Nat} {h : Nat} (hsh : g.2.1 h = (10 + 1, 10)) (hM : ct_Me l M_T_allFunctions d1 c1 s1 [.ref h] g Post1) (hdd : d1 + 1 ≤ d) (hk : (st.map fun v => v.category).sum ≤ 8) (hcc : c1 ≤ bc) (hss : s1 ≤ bs) (kk : ∀ (v : Option Value) (g' : ct_Sg), Post1 v g' → ct_Wp l M_W_putForeignFunctions d Post (33, lv, v.toList ++ st, g', bc - c1, bs - s1)) : ct_Wp l M_W_putForeignFunctions d Post (30, lv, .ref h :: st, g, bc, bs) := ct_Wp.callV (ci := 1) (N := 10) (T := ct_T1) (As := []) lk_T_allFunctions (Or.inl wd_239) wd_30 wd_31 rfl d_W_putForeignFunctions_30 hsh hM rfl hdd hk hcc hss kk
theorem cl_W_putForeignFunctions_43 {l : ct_Lx} {d d1 : Nat} {Post Post1 : Option Value → ct_Sg → Prop} {lv : ct_Lv} {st : List Value} {g : ct_Sg} {bc bs c1 s1 : Nat} {a1 a2 : Value} {h : Nat} (hsh : g.2.1 h = (10 + 1, 10)) (hM : ct_Me l M_T_functionFact d1 c1 s1 [.ref h, a1, a2] g Post1) (hdd : d1 + 1 ≤ d) (hk : (st.map fun v => v.category).sum ≤ 8) (hcc : c1 ≤ bc) (hss : s1 ≤ bs) (kk : ∀ (v : Option Value) (g' : ct_Sg), Post1 v g' → ct_Wp l M_W_putForeignFunctions d Post (46, lv, v.toList ++ st, g', bc - c1, bs - s1)) : ct_Wp l M_W_putForeignFunctions d Post (43, lv, a2 :: a1 :: .ref h :: st, g, bc, bs) := ct_Wp.callV (ci := 1) (N := 10) (T := ct_T1) (As := [a1, a2]) lk_T_functionFact (Or.inl wd_240) wd_40 wd_41 rfl d_W_putForeignFunctions_43 hsh hM rfl hdd hk hcc hss kk
theorem cl_W_putForeignFunctions_48 {l : ct_Lx} {d d1 : Nat} {Post Post1 : Option Value → ct_Sg → Prop} {lv : ct_Lv} {st : List Value} {g : ct_Sg} {bc bs c1 s1 : Nat} {a1 a2 : Value} {h : Nat} (hsh : g.2.1 h = (10 + 3, 3)) (hM : ct_Me l M_W_put d1 c1 s1 [.ref h, a1, a2] g Post1) (hdd : d1 + 1 ≤ d) (hk : (st.map fun v => v.category).sum ≤ 8) (hcc : c1 ≤ bc) (hss : s1 ≤ bs) (kk : ∀ (v : Option Value) (g' : ct_Sg), Post1 v g' → ct_Wp l M_W_putForeignFunctions d Post (51, lv, v.toList ++ st, g', bc - c1, bs - s1)) : ct_Wp l M_W_putForeignFunctions d Post (48, lv, a2 :: a1 :: .ref h :: st, g, bc, bs) := ct_Wp.callV (ci := 3) (N := 3) (T := ct_T3) (As := [a1, a2]) lk_W_put (Or.inl wd_202) wd_203 wd_204 rfl d_W_putForeignFunctions_48 hsh hM rfl hdd hk hcc hss kk
theorem cl_W_putForeignFunctions_59 {l : ct_Lx} {d d1 : Nat} {Post Post1 : Option Value → ct_Sg → Prop} {lv : ct_Lv} {st : List Value} {g : ct_Sg} {bc bs c1 s1 : Nat} {a1 a2 : Value} {h : Nat} (hsh : g.2.1 h = (10 + 1, 10)) (hM : ct_Me l M_T_functionFact d1 c1 s1 [.ref h, a1, a2] g Post1) (hdd : d1 + 1 ≤ d) (hk : (st.map fun v => v.category).sum ≤ 8) (hcc : c1 ≤ bc) (hss : s1 ≤ bs) (kk : ∀ (v : Option Value) (g' : ct_Sg), Post1 v g' → ct_Wp l M_W_putForeignFunctions d Post (62, lv, v.toList ++ st, g', bc - c1, bs - s1)) : ct_Wp l M_W_putForeignFunctions d Post (59, lv, a2 :: a1 :: .ref h :: st, g, bc, bs) := ct_Wp.callV (ci := 1) (N := 10) (T := ct_T1) (As := [a1, a2]) lk_T_functionFact (Or.inl wd_240) wd_40 wd_41 rfl d_W_putForeignFunctions_59 hsh hM rfl hdd hk hcc hss kk
theorem cl_W_putForeignFunctions_64 {l : ct_Lx} {d d1 : Nat} {Post Post1 : Option Value → ct_Sg → Prop} {lv : ct_Lv} {st : List Value} {g : ct_Sg} {bc bs c1 s1 : Nat} {a1 a2 : Value} {h : Nat} (hsh : g.2.1 h = (10 + 3, 3)) (hM : ct_Me l M_W_put d1 c1 s1 [.ref h, a1, a2] g Post1) (hdd : d1 + 1 ≤ d) (hk : (st.map fun v => v.category).sum ≤ 8) (hcc : c1 ≤ bc) (hss : s1 ≤ bs) (kk : ∀ (v : Option Value) (g' : ct_Sg), Post1 v g' → ct_Wp l M_W_putForeignFunctions d Post (67, lv, v.toList ++ st, g', bc - c1, bs - s1)) : ct_Wp l M_W_putForeignFunctions d Post (64, lv, a2 :: a1 :: .ref h :: st, g, bc, bs) := ct_Wp.callV (ci := 3) (N := 3) (T := ct_T3) (As := [a1, a2]) lk_W_put (Or.inl wd_202) wd_203 wd_204 rfl d_W_putForeignFunctions_64 hsh hM rfl hdd hk hcc hss kk
theorem cl_W_putForeignFunctions_74 {l : ct_Lx} {d d1 : Nat} {Post Post1 : Option Value → ct_Sg → Prop} {lv : ct_Lv} {st : List Value} {g : ct_Sg} {bc bs c1 s1 : Nat} {a1 a2 : Value} {h : Nat} (hsh : g.2.1 h = (10 + 1, 10)) (hM : ct_Me l M_T_functionFact d1 c1 s1 [.ref h, a1, a2] g Post1) (hdd : d1 + 1 ≤ d) (hk : (st.map fun v => v.category).sum ≤ 8) (hcc : c1 ≤ bc) (hss : s1 ≤ bs) (kk : ∀ (v : Option Value) (g' : ct_Sg), Post1 v g' → ct_Wp l M_W_putForeignFunctions d Post (77, lv, v.toList ++ st, g', bc - c1, bs - s1)) : ct_Wp l M_W_putForeignFunctions d Post (74, lv, a2 :: a1 :: .ref h :: st, g, bc, bs) := ct_Wp.callV (ci := 1) (N := 10) (T := ct_T1) (As := [a1, a2]) lk_T_functionFact (Or.inl wd_240) wd_40 wd_41 rfl d_W_putForeignFunctions_74 hsh hM rfl hdd hk hcc hss kk
theorem cl_W_putForeignFunctions_79 {l : ct_Lx} {d d1 : Nat} {Post Post1 : Option Value → ct_Sg → Prop} {lv : ct_Lv} {st : List Value} {g : ct_Sg} {bc bs c1 s1 : Nat} {a1 a2 : Value} {h : Nat} (hsh : g.2.1 h = (10 + 3, 3)) (hM : ct_Me l M_W_put d1 c1 s1 [.ref h, a1, a2] g Post1) (hdd : d1 + 1 ≤ d) (hk : (st.map fun v => v.category).sum ≤ 8) (hcc : c1 ≤ bc) (hss : s1 ≤ bs) (kk : ∀ (v : Option Value) (g' : ct_Sg), Post1 v g' → ct_Wp l M_W_putForeignFunctions d Post (82, lv, v.toList ++ st, g', bc - c1, bs - s1)) : ct_Wp l M_W_putForeignFunctions d Post (79, lv, a2 :: a1 :: .ref h :: st, g, bc, bs) := ct_Wp.callV (ci := 3) (N := 3) (T := ct_T3) (As := [a1, a2]) lk_W_put (Or.inl wd_202) wd_203 wd_204 rfl d_W_putForeignFunctions_79 hsh hM rfl hdd hk hcc hss kk
theorem cl_W_putForeignFunctions_85 {l : ct_Lx} {d d1 : Nat} {Post Post1 : Option Value → ct_Sg → Prop} {lv : ct_Lv} {st : List Value} {g : ct_Sg} {bc bs c1 s1 : Nat} {a1 a2 : Value} {h : Nat} (hsh : g.2.1 h = (10 + 3, 3)) (hM : ct_Me l M_W_putList d1 c1 s1 [.ref h, a1, a2] g Post1) (hdd : d1 + 1 ≤ d) (hk : (st.map fun v => v.category).sum ≤ 8) (hcc : c1 ≤ bc) (hss : s1 ≤ bs) (kk : ∀ (v : Option Value) (g' : ct_Sg), Post1 v g' → ct_Wp l M_W_putForeignFunctions d Post (88, lv, v.toList ++ st, g', bc - c1, bs - s1)) : ct_Wp l M_W_putForeignFunctions d Post (85, lv, a2 :: a1 :: .ref h :: st, g, bc, bs) := ct_Wp.callV (ci := 3) (N := 3) (T := ct_T3) (As := [a1, a2]) lk_W_putList (Or.inl wd_243) wd_244 wd_245 rfl d_W_putForeignFunctions_85 hsh hM rfl hdd hk hcc hss kk
theorem cl_W_putForeignFunctions_91 {l : ct_Lx} {d d1 : Nat} {Post Post1 : Option Value → ct_Sg → Prop} {lv : ct_Lv} {st : List Value} {g : ct_Sg} {bc bs c1 s1 : Nat} {a1 a2 : Value} {h : Nat} (hsh : g.2.1 h = (10 + 3, 3)) (hM : ct_Me l M_W_putList d1 c1 s1 [.ref h, a1, a2] g Post1) (hdd : d1 + 1 ≤ d) (hk : (st.map fun v => v.category).sum ≤ 8) (hcc : c1 ≤ bc) (hss : s1 ≤ bs) (kk : ∀ (v : Option Value) (g' : ct_Sg), Post1 v g' → ct_Wp l M_W_putForeignFunctions d Post (94, lv, v.toList ++ st, g', bc - c1, bs - s1)) : ct_Wp l M_W_putForeignFunctions d Post (91, lv, a2 :: a1 :: .ref h :: st, g, bc, bs) := ct_Wp.callV (ci := 3) (N := 3) (T := ct_T3) (As := [a1, a2]) lk_W_putList (Or.inl wd_243) wd_244 wd_245 rfl d_W_putForeignFunctions_91 hsh hM rfl hdd hk hcc hss kk
theorem d_W_putElements_0 : decode prog_5_method_6_code 0 = .ok (.aload_n 0, 1) := by decide +kernel
theorem d_W_putElements_1 : decode prog_5_method_6_code 1 = .ok (.getfield 19, 3) := by decide +kernel
theorem d_W_putElements_4 : decode prog_5_method_6_code 4 = .ok (.getfield 31, 3) := by decide +kernel
theorem d_W_putElements_7 : decode prog_5_method_6_code 7 = .ok (.iconst 4, 1) := by decide +kernel
theorem d_W_putElements_8 : decode prog_5_method_6_code 8 = .ok (.iaload, 1) := by decide +kernel
theorem d_W_putElements_9 : decode prog_5_method_6_code 9 = .ok (.istore_n 1, 1) := by decide +kernel
theorem d_W_putElements_10 : decode prog_5_method_6_code 10 = .ok (.aload_n 0, 1) := by decide +kernel
theorem d_W_putElements_11 : decode prog_5_method_6_code 11 = .ok (.iload_n 1, 1) := by decide +kernel
theorem d_W_putElements_12 : decode prog_5_method_6_code 12 = .ok (.i2l, 1) := by decide +kernel
theorem d_W_putElements_13 : decode prog_5_method_6_code 13 = .ok (.iconst 1, 1) := by decide +kernel
theorem d_W_putElements_14 : decode prog_5_method_6_code 14 = .ok (.invokevirtual 27, 3) := by decide +kernel
theorem d_W_putElements_17 : decode prog_5_method_6_code 17 = .ok (.iconst 0, 1) := by decide +kernel
theorem d_W_putElements_18 : decode prog_5_method_6_code 18 = .ok (.istore_n 2, 1) := by decide +kernel
theorem d_W_putElements_19 : decode prog_5_method_6_code 19 = .ok (.iload_n 2, 1) := by decide +kernel
theorem d_W_putElements_20 : decode prog_5_method_6_code 20 = .ok (.iload_n 1, 1) := by decide +kernel
theorem d_W_putElements_21 : decode prog_5_method_6_code 21 = .ok (.if_icmp .ge 22, 3) := by decide +kernel
theorem d_W_putElements_24 : decode prog_5_method_6_code 24 = .ok (.aload_n 0, 1) := by decide +kernel
theorem d_W_putElements_25 : decode prog_5_method_6_code 25 = .ok (.aload_n 0, 1) := by decide +kernel
theorem d_W_putElements_26 : decode prog_5_method_6_code 26 = .ok (.getfield 19, 3) := by decide +kernel
theorem d_W_putElements_29 : decode prog_5_method_6_code 29 = .ok (.getfield 77, 3) := by decide +kernel
theorem d_W_putElements_32 : decode prog_5_method_6_code 32 = .ok (.iload_n 2, 1) := by decide +kernel
theorem d_W_putElements_33 : decode prog_5_method_6_code 33 = .ok (.laload, 1) := by decide +kernel
theorem d_W_putElements_34 : decode prog_5_method_6_code 34 = .ok (.invokevirtual 59, 3) := by decide +kernel
theorem d_W_putElements_37 : decode prog_5_method_6_code 37 = .ok (.iinc 2 1, 3) := by decide +kernel
theorem d_W_putElements_40 : decode prog_5_method_6_code 40 = .ok (.goto (-21), 3) := by decide +kernel
theorem d_W_putElements_43 : decode prog_5_method_6_code 43 = .ok (.return_, 1) := by decide +kernel
abbrev T_W_putElements : List (Nat × ct_PT) := [(0, o_aload 0 1), (1, o_getR 3 3 0), (4, o_getR 1 10 0), (7, o_push (.int 4) 1), (8, o_iald), (9, o_istore 1 1), (10, o_aload 0 1), (11, o_iload 1 1), (12, o_i2l), (13, o_push (.int 1) 1), (17, o_push (.int 0) 1), (18, o_istore 2 1), (19, o_iload 2 1), (20, o_iload 1 1), (21, o_ic (fun x y => y ≤ x) (fun x y => ¬ y ≤ x) 43), (24, o_aload 0 1), (25, o_aload 0 1), (26, o_getR 3 3 0), (29, o_getR 1 10 5), (32, o_iload 2 1), (33, o_lald), (37, o_iinc 2 1), (40, o_goto 19)]
set_option maxRecDepth 100000 in
theorem A_W_putElements (l : ct_Lx) : ct_al l M_W_putElements (T_W_putElements) := by
  refine ct_al.cons (so_aload_n d_W_putElements_0 rfl) ?_
  refine ct_al.cons (so_getR (Cn := "CodeTables$Writer") (T := ct_T3) kc_3 (by decide) rfl rfl wd_198 d_W_putElements_1) ?_
  refine ct_al.cons (so_getR (Cn := "CodeTables$Tables") (T := ct_T1) kc_1 (by decide) rfl rfl wd_205 d_W_putElements_4) ?_
  refine ct_al.cons (so_iconst d_W_putElements_7 (by decide)) ?_
  refine ct_al.cons (so_iald d_W_putElements_8) ?_
  refine ct_al.cons (so_istore_n d_W_putElements_9 rfl (by decide)) ?_
  refine ct_al.cons (so_aload_n d_W_putElements_10 rfl) ?_
  refine ct_al.cons (so_iload_n d_W_putElements_11 rfl) ?_
  refine ct_al.cons (so_i2l d_W_putElements_12) ?_
  refine ct_al.cons (so_iconst d_W_putElements_13 (by decide)) ?_
  refine ct_al.cons (so_iconst d_W_putElements_17 (by decide)) ?_
  refine ct_al.cons (so_istore_n d_W_putElements_18 rfl (by decide)) ?_
  refine ct_al.cons (so_iload_n d_W_putElements_19 rfl) ?_
  refine ct_al.cons (so_iload_n d_W_putElements_20 rfl) ?_
  refine ct_al.cons (so_ic_ge d_W_putElements_21 (by decide)) ?_
  refine ct_al.cons (so_aload_n d_W_putElements_24 rfl) ?_
  refine ct_al.cons (so_aload_n d_W_putElements_25 rfl) ?_
  refine ct_al.cons (so_getR (Cn := "CodeTables$Writer") (T := ct_T3) kc_3 (by decide) rfl rfl wd_198 d_W_putElements_26) ?_
  refine ct_al.cons (so_getR (Cn := "CodeTables$Tables") (T := ct_T1) kc_1 (by decide) rfl rfl wd_246 d_W_putElements_29) ?_
  refine ct_al.cons (so_iload_n d_W_putElements_32 rfl) ?_
  refine ct_al.cons (so_lald d_W_putElements_33) ?_
  refine ct_al.cons (so_iinc d_W_putElements_37 (by decide) (by decide)) ?_
  refine ct_al.cons (so_goto d_W_putElements_40 (by decide)) ?_
  exact ct_al.nil
theorem e_W_putElements_0 : ct_tab (T_W_putElements) 0 = some (o_aload 0 1) := rfl
theorem e_W_putElements_1 : ct_tab (T_W_putElements) 1 = some (o_getR 3 3 0) := rfl
theorem e_W_putElements_4 : ct_tab (T_W_putElements) 4 = some (o_getR 1 10 0) := rfl
theorem e_W_putElements_7 : ct_tab (T_W_putElements) 7 = some (o_push (.int 4) 1) := rfl
theorem e_W_putElements_8 : ct_tab (T_W_putElements) 8 = some (o_iald) := rfl
theorem e_W_putElements_9 : ct_tab (T_W_putElements) 9 = some (o_istore 1 1) := rfl
theorem e_W_putElements_10 : ct_tab (T_W_putElements) 10 = some (o_aload 0 1) := rfl
theorem e_W_putElements_11 : ct_tab (T_W_putElements) 11 = some (o_iload 1 1) := rfl
theorem e_W_putElements_12 : ct_tab (T_W_putElements) 12 = some (o_i2l) := rfl
theorem e_W_putElements_13 : ct_tab (T_W_putElements) 13 = some (o_push (.int 1) 1) := rfl
theorem e_W_putElements_17 : ct_tab (T_W_putElements) 17 = some (o_push (.int 0) 1) := rfl
theorem e_W_putElements_18 : ct_tab (T_W_putElements) 18 = some (o_istore 2 1) := rfl
theorem e_W_putElements_19 : ct_tab (T_W_putElements) 19 = some (o_iload 2 1) := rfl
theorem e_W_putElements_20 : ct_tab (T_W_putElements) 20 = some (o_iload 1 1) := rfl
theorem e_W_putElements_21 : ct_tab (T_W_putElements) 21 = some (o_ic (fun x y => y ≤ x) (fun x y => ¬ y ≤ x) 43) := rfl
theorem e_W_putElements_24 : ct_tab (T_W_putElements) 24 = some (o_aload 0 1) := rfl
theorem e_W_putElements_25 : ct_tab (T_W_putElements) 25 = some (o_aload 0 1) := rfl
theorem e_W_putElements_26 : ct_tab (T_W_putElements) 26 = some (o_getR 3 3 0) := rfl
theorem e_W_putElements_29 : ct_tab (T_W_putElements) 29 = some (o_getR 1 10 5) := rfl
theorem e_W_putElements_32 : ct_tab (T_W_putElements) 32 = some (o_iload 2 1) := rfl
theorem e_W_putElements_33 : ct_tab (T_W_putElements) 33 = some (o_lald) := rfl
theorem e_W_putElements_37 : ct_tab (T_W_putElements) 37 = some (o_iinc 2 1) := rfl
theorem e_W_putElements_40 : ct_tab (T_W_putElements) 40 = some (o_goto 19) := rfl
theorem cl_W_putElements_14 {l : ct_Lx} {d d1 : Nat} {Post Post1 : Option Value → ct_Sg → Prop} {lv : ct_Lv} {st : List Value} {g : ct_Sg} {bc bs c1 s1 : Nat} {a1 a2 : Value} {h : Nat} (hsh : g.2.1 h = (10 + 3, 3)) (hM : ct_Me l M_W_put d1 c1 s1 [.ref h, a1, a2] g Post1) (hdd : d1 + 1 ≤ d) (hk : (st.map fun v => v.category).sum ≤ 8) (hcc : c1 ≤ bc) (hss : s1 ≤ bs) (kk : ∀ (v : Option Value) (g' : ct_Sg), Post1 v g' → ct_Wp l M_W_putElements d Post (17, lv, v.toList ++ st, g', bc - c1, bs - s1)) : ct_Wp l M_W_putElements d Post (14, lv, a2 :: a1 :: .ref h :: st, g, bc, bs) := ct_Wp.callV (ci := 3) (N := 3) (T := ct_T3) (As := [a1, a2]) lk_W_put (Or.inl wd_202) wd_203 wd_204 rfl d_W_putElements_14 hsh hM rfl hdd hk hcc hss kk
theorem cl_W_putElements_34 {l : ct_Lx} {d d1 : Nat} {Post Post1 : Option Value → ct_Sg → Prop} {lv : ct_Lv} {st : List Value} {g : ct_Sg} {bc bs c1 s1 : Nat} {a1 : Value} {h : Nat} (hsh : g.2.1 h = (10 + 3, 3)) (hM : ct_Me l M_W_putType d1 c1 s1 [.ref h, a1] g Post1) (hdd : d1 + 1 ≤ d) (hk : (st.map fun v => v.category).sum ≤ 8) (hcc : c1 ≤ bc) (hss : s1 ≤ bs) (kk : ∀ (v : Option Value) (g' : ct_Sg), Post1 v g' → ct_Wp l M_W_putElements d Post (37, lv, v.toList ++ st, g', bc - c1, bs - s1)) : ct_Wp l M_W_putElements d Post (34, lv, a1 :: .ref h :: st, g, bc, bs) := ct_Wp.callV (ci := 3) (N := 3) (T := ct_T3) (As := [a1]) lk_W_putType (Or.inl wd_235) wd_236 wd_237 rfl d_W_putElements_34 hsh hM rfl hdd hk hcc hss kk
theorem d_W_putFunctions_0 : decode prog_5_method_7_code 0 = .ok (.aload_n 0, 1) := by decide +kernel
theorem d_W_putFunctions_1 : decode prog_5_method_7_code 1 = .ok (.getfield 19, 3) := by decide +kernel
theorem d_W_putFunctions_4 : decode prog_5_method_7_code 4 = .ok (.getfield 31, 3) := by decide +kernel
theorem d_W_putFunctions_7 : decode prog_5_method_7_code 7 = .ok (.iconst 5, 1) := by decide +kernel
theorem d_W_putFunctions_8 : decode prog_5_method_7_code 8 = .ok (.iaload, 1) := by decide +kernel
theorem d_W_putFunctions_9 : decode prog_5_method_7_code 9 = .ok (.istore_n 1, 1) := by decide +kernel
theorem d_W_putFunctions_10 : decode prog_5_method_7_code 10 = .ok (.aload_n 0, 1) := by decide +kernel
theorem d_W_putFunctions_11 : decode prog_5_method_7_code 11 = .ok (.iload_n 1, 1) := by decide +kernel
theorem d_W_putFunctions_12 : decode prog_5_method_7_code 12 = .ok (.i2l, 1) := by decide +kernel
theorem d_W_putFunctions_13 : decode prog_5_method_7_code 13 = .ok (.iconst 1, 1) := by decide +kernel
theorem d_W_putFunctions_14 : decode prog_5_method_7_code 14 = .ok (.invokevirtual 27, 3) := by decide +kernel
theorem d_W_putFunctions_17 : decode prog_5_method_7_code 17 = .ok (.iconst 0, 1) := by decide +kernel
theorem d_W_putFunctions_18 : decode prog_5_method_7_code 18 = .ok (.istore_n 2, 1) := by decide +kernel
theorem d_W_putFunctions_19 : decode prog_5_method_7_code 19 = .ok (.iload_n 2, 1) := by decide +kernel
theorem d_W_putFunctions_20 : decode prog_5_method_7_code 20 = .ok (.iload_n 1, 1) := by decide +kernel
theorem d_W_putFunctions_21 : decode prog_5_method_7_code 21 = .ok (.if_icmp .ge 48, 3) := by decide +kernel
theorem d_W_putFunctions_24 : decode prog_5_method_7_code 24 = .ok (.aload_n 0, 1) := by decide +kernel
theorem d_W_putFunctions_25 : decode prog_5_method_7_code 25 = .ok (.aload_n 0, 1) := by decide +kernel
theorem d_W_putFunctions_26 : decode prog_5_method_7_code 26 = .ok (.getfield 19, 3) := by decide +kernel
theorem d_W_putFunctions_29 : decode prog_5_method_7_code 29 = .ok (.iload_n 2, 1) := by decide +kernel
theorem d_W_putFunctions_30 : decode prog_5_method_7_code 30 = .ok (.iconst 0, 1) := by decide +kernel
theorem d_W_putFunctions_31 : decode prog_5_method_7_code 31 = .ok (.invokevirtual 70, 3) := by decide +kernel
theorem d_W_putFunctions_34 : decode prog_5_method_7_code 34 = .ok (.i2l, 1) := by decide +kernel
theorem d_W_putFunctions_35 : decode prog_5_method_7_code 35 = .ok (.iconst 1, 1) := by decide +kernel
theorem d_W_putFunctions_36 : decode prog_5_method_7_code 36 = .ok (.invokevirtual 27, 3) := by decide +kernel
theorem d_W_putFunctions_39 : decode prog_5_method_7_code 39 = .ok (.iconst 0, 1) := by decide +kernel
theorem d_W_putFunctions_40 : decode prog_5_method_7_code 40 = .ok (.istore_n 3, 1) := by decide +kernel
theorem d_W_putFunctions_41 : decode prog_5_method_7_code 41 = .ok (.iload_n 3, 1) := by decide +kernel
theorem d_W_putFunctions_42 : decode prog_5_method_7_code 42 = .ok (.iconst 3, 1) := by decide +kernel
theorem d_W_putFunctions_43 : decode prog_5_method_7_code 43 = .ok (.if_icmp .ge 15, 3) := by decide +kernel
theorem d_W_putFunctions_46 : decode prog_5_method_7_code 46 = .ok (.aload_n 0, 1) := by decide +kernel
theorem d_W_putFunctions_47 : decode prog_5_method_7_code 47 = .ok (.iload_n 2, 1) := by decide +kernel
theorem d_W_putFunctions_48 : decode prog_5_method_7_code 48 = .ok (.iload_n 3, 1) := by decide +kernel
theorem d_W_putFunctions_49 : decode prog_5_method_7_code 49 = .ok (.invokevirtual 73, 3) := by decide +kernel
theorem d_W_putFunctions_52 : decode prog_5_method_7_code 52 = .ok (.iinc 3 1, 3) := by decide +kernel
theorem d_W_putFunctions_55 : decode prog_5_method_7_code 55 = .ok (.goto (-14), 3) := by decide +kernel
theorem d_W_putFunctions_58 : decode prog_5_method_7_code 58 = .ok (.aload_n 0, 1) := by decide +kernel
theorem d_W_putFunctions_59 : decode prog_5_method_7_code 59 = .ok (.iload_n 2, 1) := by decide +kernel
theorem d_W_putFunctions_60 : decode prog_5_method_7_code 60 = .ok (.invokevirtual 81, 3) := by decide +kernel
theorem d_W_putFunctions_63 : decode prog_5_method_7_code 63 = .ok (.iinc 2 1, 3) := by decide +kernel
theorem d_W_putFunctions_66 : decode prog_5_method_7_code 66 = .ok (.goto (-47), 3) := by decide +kernel
theorem d_W_putFunctions_69 : decode prog_5_method_7_code 69 = .ok (.return_, 1) := by decide +kernel
abbrev T_W_putFunctions : List (Nat × ct_PT) := [(0, o_aload 0 1), (1, o_getR 3 3 0), (4, o_getR 1 10 0), (7, o_push (.int 5) 1), (8, o_iald), (9, o_istore 1 1), (10, o_aload 0 1), (11, o_iload 1 1), (12, o_i2l), (13, o_push (.int 1) 1), (17, o_push (.int 0) 1), (18, o_istore 2 1), (19, o_iload 2 1), (20, o_iload 1 1), (21, o_ic (fun x y => y ≤ x) (fun x y => ¬ y ≤ x) 69), (24, o_aload 0 1), (25, o_aload 0 1), (26, o_getR 3 3 0), (29, o_iload 2 1), (30, o_push (.int 0) 1), (34, o_i2l), (35, o_push (.int 1) 1), (39, o_push (.int 0) 1), (40, o_istore 3 1), (41, o_iload 3 1), (42, o_push (.int 3) 1), (43, o_ic (fun x y => y ≤ x) (fun x y => ¬ y ≤ x) 58), (46, o_aload 0 1), (47, o_iload 2 1), (48, o_iload 3 1), (52, o_iinc 3 1), (55, o_goto 41), (58, o_aload 0 1), (59, o_iload 2 1), (63, o_iinc 2 1), (66, o_goto 19)]
set_option maxRecDepth 100000 in
theorem A_W_putFunctions (l : ct_Lx) : ct_al l M_W_putFunctions (T_W_putFunctions) := by
  refine ct_al.cons (so_aload_n d_W_putFunctions_0 rfl) ?_
  refine ct_al.cons (so_getR (Cn := "CodeTables$Writer") (T := ct_T3) kc_3 (by decide) rfl rfl wd_198 d_W_putFunctions_1) ?_
  refine ct_al.cons (so_getR (Cn := "CodeTables$Tables") (T := ct_T1) kc_1 (by decide) rfl rfl wd_205 d_W_putFunctions_4) ?_
  refine ct_al.cons (so_iconst d_W_putFunctions_7 (by decide)) ?_
  refine ct_al.cons (so_iald d_W_putFunctions_8) ?_
  refine ct_al.cons (so_istore_n d_W_putFunctions_9 rfl (by decide)) ?_
  refine ct_al.cons (so_aload_n d_W_putFunctions_10 rfl) ?_
  refine ct_al.cons (so_iload_n d_W_putFunctions_11 rfl) ?_
  refine ct_al.cons (so_i2l d_W_putFunctions_12) ?_
  refine ct_al.cons (so_iconst d_W_putFunctions_13 (by decide)) ?_
  refine ct_al.cons (so_iconst d_W_putFunctions_17 (by decide)) ?_
  refine ct_al.cons (so_istore_n d_W_putFunctions_18 rfl (by decide)) ?_
  refine ct_al.cons (so_iload_n d_W_putFunctions_19 rfl) ?_
  refine ct_al.cons (so_iload_n d_W_putFunctions_20 rfl) ?_
  refine ct_al.cons (so_ic_ge d_W_putFunctions_21 (by decide)) ?_
  refine ct_al.cons (so_aload_n d_W_putFunctions_24 rfl) ?_
  refine ct_al.cons (so_aload_n d_W_putFunctions_25 rfl) ?_
  refine ct_al.cons (so_getR (Cn := "CodeTables$Writer") (T := ct_T3) kc_3 (by decide) rfl rfl wd_198 d_W_putFunctions_26) ?_
  refine ct_al.cons (so_iload_n d_W_putFunctions_29 rfl) ?_
  refine ct_al.cons (so_iconst d_W_putFunctions_30 (by decide)) ?_
  refine ct_al.cons (so_i2l d_W_putFunctions_34) ?_
  refine ct_al.cons (so_iconst d_W_putFunctions_35 (by decide)) ?_
  refine ct_al.cons (so_iconst d_W_putFunctions_39 (by decide)) ?_
  refine ct_al.cons (so_istore_n d_W_putFunctions_40 rfl (by decide)) ?_
  refine ct_al.cons (so_iload_n d_W_putFunctions_41 rfl) ?_
  refine ct_al.cons (so_iconst d_W_putFunctions_42 (by decide)) ?_
  refine ct_al.cons (so_ic_ge d_W_putFunctions_43 (by decide)) ?_
  refine ct_al.cons (so_aload_n d_W_putFunctions_46 rfl) ?_
  refine ct_al.cons (so_iload_n d_W_putFunctions_47 rfl) ?_
  refine ct_al.cons (so_iload_n d_W_putFunctions_48 rfl) ?_
  refine ct_al.cons (so_iinc d_W_putFunctions_52 (by decide) (by decide)) ?_
  refine ct_al.cons (so_goto d_W_putFunctions_55 (by decide)) ?_
  refine ct_al.cons (so_aload_n d_W_putFunctions_58 rfl) ?_
  refine ct_al.cons (so_iload_n d_W_putFunctions_59 rfl) ?_
  refine ct_al.cons (so_iinc d_W_putFunctions_63 (by decide) (by decide)) ?_
  refine ct_al.cons (so_goto d_W_putFunctions_66 (by decide)) ?_
  exact ct_al.nil
theorem e_W_putFunctions_0 : ct_tab (T_W_putFunctions) 0 = some (o_aload 0 1) := rfl
theorem e_W_putFunctions_1 : ct_tab (T_W_putFunctions) 1 = some (o_getR 3 3 0) := rfl
theorem e_W_putFunctions_4 : ct_tab (T_W_putFunctions) 4 = some (o_getR 1 10 0) := rfl
theorem e_W_putFunctions_7 : ct_tab (T_W_putFunctions) 7 = some (o_push (.int 5) 1) := rfl
theorem e_W_putFunctions_8 : ct_tab (T_W_putFunctions) 8 = some (o_iald) := rfl
theorem e_W_putFunctions_9 : ct_tab (T_W_putFunctions) 9 = some (o_istore 1 1) := rfl
theorem e_W_putFunctions_10 : ct_tab (T_W_putFunctions) 10 = some (o_aload 0 1) := rfl
theorem e_W_putFunctions_11 : ct_tab (T_W_putFunctions) 11 = some (o_iload 1 1) := rfl
theorem e_W_putFunctions_12 : ct_tab (T_W_putFunctions) 12 = some (o_i2l) := rfl
theorem e_W_putFunctions_13 : ct_tab (T_W_putFunctions) 13 = some (o_push (.int 1) 1) := rfl
theorem e_W_putFunctions_17 : ct_tab (T_W_putFunctions) 17 = some (o_push (.int 0) 1) := rfl
theorem e_W_putFunctions_18 : ct_tab (T_W_putFunctions) 18 = some (o_istore 2 1) := rfl
theorem e_W_putFunctions_19 : ct_tab (T_W_putFunctions) 19 = some (o_iload 2 1) := rfl
theorem e_W_putFunctions_20 : ct_tab (T_W_putFunctions) 20 = some (o_iload 1 1) := rfl
theorem e_W_putFunctions_21 : ct_tab (T_W_putFunctions) 21 = some (o_ic (fun x y => y ≤ x) (fun x y => ¬ y ≤ x) 69) := rfl
theorem e_W_putFunctions_24 : ct_tab (T_W_putFunctions) 24 = some (o_aload 0 1) := rfl
theorem e_W_putFunctions_25 : ct_tab (T_W_putFunctions) 25 = some (o_aload 0 1) := rfl
theorem e_W_putFunctions_26 : ct_tab (T_W_putFunctions) 26 = some (o_getR 3 3 0) := rfl
theorem e_W_putFunctions_29 : ct_tab (T_W_putFunctions) 29 = some (o_iload 2 1) := rfl
theorem e_W_putFunctions_30 : ct_tab (T_W_putFunctions) 30 = some (o_push (.int 0) 1) := rfl
theorem e_W_putFunctions_34 : ct_tab (T_W_putFunctions) 34 = some (o_i2l) := rfl
theorem e_W_putFunctions_35 : ct_tab (T_W_putFunctions) 35 = some (o_push (.int 1) 1) := rfl
theorem e_W_putFunctions_39 : ct_tab (T_W_putFunctions) 39 = some (o_push (.int 0) 1) := rfl
theorem e_W_putFunctions_40 : ct_tab (T_W_putFunctions) 40 = some (o_istore 3 1) := rfl
theorem e_W_putFunctions_41 : ct_tab (T_W_putFunctions) 41 = some (o_iload 3 1) := rfl
theorem e_W_putFunctions_42 : ct_tab (T_W_putFunctions) 42 = some (o_push (.int 3) 1) := rfl
theorem e_W_putFunctions_43 : ct_tab (T_W_putFunctions) 43 = some (o_ic (fun x y => y ≤ x) (fun x y => ¬ y ≤ x) 58) := rfl
theorem e_W_putFunctions_46 : ct_tab (T_W_putFunctions) 46 = some (o_aload 0 1) := rfl
theorem e_W_putFunctions_47 : ct_tab (T_W_putFunctions) 47 = some (o_iload 2 1) := rfl
theorem e_W_putFunctions_48 : ct_tab (T_W_putFunctions) 48 = some (o_iload 3 1) := rfl
theorem e_W_putFunctions_52 : ct_tab (T_W_putFunctions) 52 = some (o_iinc 3 1) := rfl
theorem e_W_putFunctions_55 : ct_tab (T_W_putFunctions) 55 = some (o_goto 41) := rfl
theorem e_W_putFunctions_58 : ct_tab (T_W_putFunctions) 58 = some (o_aload 0 1) := rfl
theorem e_W_putFunctions_59 : ct_tab (T_W_putFunctions) 59 = some (o_iload 2 1) := rfl
theorem e_W_putFunctions_63 : ct_tab (T_W_putFunctions) 63 = some (o_iinc 2 1) := rfl
theorem e_W_putFunctions_66 : ct_tab (T_W_putFunctions) 66 = some (o_goto 19) := rfl
theorem cl_W_putFunctions_14 {l : ct_Lx} {d d1 : Nat} {Post Post1 : Option Value → ct_Sg → Prop} {lv : ct_Lv} {st : List Value} {g : ct_Sg} {bc bs c1 s1 : Nat} {a1 a2 : Value} {h : Nat} (hsh : g.2.1 h = (10 + 3, 3)) (hM : ct_Me l M_W_put d1 c1 s1 [.ref h, a1, a2] g Post1) (hdd : d1 + 1 ≤ d) (hk : (st.map fun v => v.category).sum ≤ 8) (hcc : c1 ≤ bc) (hss : s1 ≤ bs) (kk : ∀ (v : Option Value) (g' : ct_Sg), Post1 v g' → ct_Wp l M_W_putFunctions d Post (17, lv, v.toList ++ st, g', bc - c1, bs - s1)) : ct_Wp l M_W_putFunctions d Post (14, lv, a2 :: a1 :: .ref h :: st, g, bc, bs) := ct_Wp.callV (ci := 3) (N := 3) (T := ct_T3) (As := [a1, a2]) lk_W_put (Or.inl wd_202) wd_203 wd_204 rfl d_W_putFunctions_14 hsh hM rfl hdd hk hcc hss kk
theorem cl_W_putFunctions_31 {l : ct_Lx} {d d1 : Nat} {Post Post1 : Option Value → ct_Sg → Prop} {lv : ct_Lv} {st : List Value} {g : ct_Sg} {bc bs c1 s1 : Nat} {a1 a2 : Value} {h : Nat} (hsh : g.2.1 h = (10 + 1, 10)) (hM : ct_Me l M_T_functionFact d1 c1 s1 [.ref h, a1, a2] g Post1) (hdd : d1 + 1 ≤ d) (hk : (st.map fun v => v.category).sum ≤ 8) (hcc : c1 ≤ bc) (hss : s1 ≤ bs) (kk : ∀ (v : Option Value) (g' : ct_Sg), Post1 v g' → ct_Wp l M_W_putFunctions d Post (34, lv, v.toList ++ st, g', bc - c1, bs - s1)) : ct_Wp l M_W_putFunctions d Post (31, lv, a2 :: a1 :: .ref h :: st, g, bc, bs) := ct_Wp.callV (ci := 1) (N := 10) (T := ct_T1) (As := [a1, a2]) lk_T_functionFact (Or.inl wd_240) wd_40 wd_41 rfl d_W_putFunctions_31 hsh hM rfl hdd hk hcc hss kk
theorem cl_W_putFunctions_36 {l : ct_Lx} {d d1 : Nat} {Post Post1 : Option Value → ct_Sg → Prop} {lv : ct_Lv} {st : List Value} {g : ct_Sg} {bc bs c1 s1 : Nat} {a1 a2 : Value} {h : Nat} (hsh : g.2.1 h = (10 + 3, 3)) (hM : ct_Me l M_W_put d1 c1 s1 [.ref h, a1, a2] g Post1) (hdd : d1 + 1 ≤ d) (hk : (st.map fun v => v.category).sum ≤ 8) (hcc : c1 ≤ bc) (hss : s1 ≤ bs) (kk : ∀ (v : Option Value) (g' : ct_Sg), Post1 v g' → ct_Wp l M_W_putFunctions d Post (39, lv, v.toList ++ st, g', bc - c1, bs - s1)) : ct_Wp l M_W_putFunctions d Post (36, lv, a2 :: a1 :: .ref h :: st, g, bc, bs) := ct_Wp.callV (ci := 3) (N := 3) (T := ct_T3) (As := [a1, a2]) lk_W_put (Or.inl wd_202) wd_203 wd_204 rfl d_W_putFunctions_36 hsh hM rfl hdd hk hcc hss kk
theorem cl_W_putFunctions_49 {l : ct_Lx} {d d1 : Nat} {Post Post1 : Option Value → ct_Sg → Prop} {lv : ct_Lv} {st : List Value} {g : ct_Sg} {bc bs c1 s1 : Nat} {a1 a2 : Value} {h : Nat} (hsh : g.2.1 h = (10 + 3, 3)) (hM : ct_Me l M_W_putList d1 c1 s1 [.ref h, a1, a2] g Post1) (hdd : d1 + 1 ≤ d) (hk : (st.map fun v => v.category).sum ≤ 8) (hcc : c1 ≤ bc) (hss : s1 ≤ bs) (kk : ∀ (v : Option Value) (g' : ct_Sg), Post1 v g' → ct_Wp l M_W_putFunctions d Post (52, lv, v.toList ++ st, g', bc - c1, bs - s1)) : ct_Wp l M_W_putFunctions d Post (49, lv, a2 :: a1 :: .ref h :: st, g, bc, bs) := ct_Wp.callV (ci := 3) (N := 3) (T := ct_T3) (As := [a1, a2]) lk_W_putList (Or.inl wd_243) wd_244 wd_245 rfl d_W_putFunctions_49 hsh hM rfl hdd hk hcc hss kk
theorem cl_W_putFunctions_60 {l : ct_Lx} {d d1 : Nat} {Post Post1 : Option Value → ct_Sg → Prop} {lv : ct_Lv} {st : List Value} {g : ct_Sg} {bc bs c1 s1 : Nat} {a1 : Value} {h : Nat} (hsh : g.2.1 h = (10 + 3, 3)) (hM : ct_Me l M_W_putCode d1 c1 s1 [.ref h, a1] g Post1) (hdd : d1 + 1 ≤ d) (hk : (st.map fun v => v.category).sum ≤ 8) (hcc : c1 ≤ bc) (hss : s1 ≤ bs) (kk : ∀ (v : Option Value) (g' : ct_Sg), Post1 v g' → ct_Wp l M_W_putFunctions d Post (63, lv, v.toList ++ st, g', bc - c1, bs - s1)) : ct_Wp l M_W_putFunctions d Post (60, lv, a1 :: .ref h :: st, g, bc, bs) := ct_Wp.callV (ci := 3) (N := 3) (T := ct_T3) (As := [a1]) lk_W_putCode (Or.inl wd_249) wd_250 wd_251 rfl d_W_putFunctions_60 hsh hM rfl hdd hk hcc hss kk
theorem d_W_putList_0 : decode prog_5_method_8_code 0 = .ok (.aload_n 0, 1) := by decide +kernel
theorem d_W_putList_1 : decode prog_5_method_8_code 1 = .ok (.getfield 19, 3) := by decide +kernel
theorem d_W_putList_4 : decode prog_5_method_8_code 4 = .ok (.iload_n 1, 1) := by decide +kernel
theorem d_W_putList_5 : decode prog_5_method_8_code 5 = .ok (.iconst 1, 1) := by decide +kernel
theorem d_W_putList_6 : decode prog_5_method_8_code 6 = .ok (.iload_n 2, 1) := by decide +kernel
theorem d_W_putList_7 : decode prog_5_method_8_code 7 = .ok (.iadd, 1) := by decide +kernel
theorem d_W_putList_8 : decode prog_5_method_8_code 8 = .ok (.invokevirtual 70, 3) := by decide +kernel
theorem d_W_putList_11 : decode prog_5_method_8_code 11 = .ok (.istore_n 3, 1) := by decide +kernel
theorem d_W_putList_12 : decode prog_5_method_8_code 12 = .ok (.aload_n 0, 1) := by decide +kernel
theorem d_W_putList_13 : decode prog_5_method_8_code 13 = .ok (.iload_n 3, 1) := by decide +kernel
theorem d_W_putList_14 : decode prog_5_method_8_code 14 = .ok (.i2l, 1) := by decide +kernel
theorem d_W_putList_15 : decode prog_5_method_8_code 15 = .ok (.iconst 1, 1) := by decide +kernel
theorem d_W_putList_16 : decode prog_5_method_8_code 16 = .ok (.invokevirtual 27, 3) := by decide +kernel
theorem d_W_putList_19 : decode prog_5_method_8_code 19 = .ok (.iconst 0, 1) := by decide +kernel
theorem d_W_putList_20 : decode prog_5_method_8_code 20 = .ok (.istore 4, 2) := by decide +kernel
theorem d_W_putList_22 : decode prog_5_method_8_code 22 = .ok (.iload 4, 2) := by decide +kernel
theorem d_W_putList_24 : decode prog_5_method_8_code 24 = .ok (.iload_n 3, 1) := by decide +kernel
theorem d_W_putList_25 : decode prog_5_method_8_code 25 = .ok (.if_icmp .ge 24, 3) := by decide +kernel
theorem d_W_putList_28 : decode prog_5_method_8_code 28 = .ok (.aload_n 0, 1) := by decide +kernel
theorem d_W_putList_29 : decode prog_5_method_8_code 29 = .ok (.aload_n 0, 1) := by decide +kernel
theorem d_W_putList_30 : decode prog_5_method_8_code 30 = .ok (.getfield 19, 3) := by decide +kernel
theorem d_W_putList_33 : decode prog_5_method_8_code 33 = .ok (.iload_n 1, 1) := by decide +kernel
theorem d_W_putList_34 : decode prog_5_method_8_code 34 = .ok (.iload_n 2, 1) := by decide +kernel
theorem d_W_putList_35 : decode prog_5_method_8_code 35 = .ok (.iload 4, 2) := by decide +kernel
theorem d_W_putList_37 : decode prog_5_method_8_code 37 = .ok (.invokevirtual 85, 3) := by decide +kernel
theorem d_W_putList_40 : decode prog_5_method_8_code 40 = .ok (.invokevirtual 59, 3) := by decide +kernel
theorem d_W_putList_43 : decode prog_5_method_8_code 43 = .ok (.iinc 4 1, 3) := by decide +kernel
theorem d_W_putList_46 : decode prog_5_method_8_code 46 = .ok (.goto (-24), 3) := by decide +kernel
theorem d_W_putList_49 : decode prog_5_method_8_code 49 = .ok (.return_, 1) := by decide +kernel
abbrev T_W_putList : List (Nat × ct_PT) := [(0, o_aload 0 1), (1, o_getR 3 3 0), (4, o_iload 1 1), (5, o_push (.int 1) 1), (6, o_iload 2 1), (7, o_ii fun x y => x + y), (11, o_istore 3 1), (12, o_aload 0 1), (13, o_iload 3 1), (14, o_i2l), (15, o_push (.int 1) 1), (19, o_push (.int 0) 1), (20, o_istore 4 2), (22, o_iload 4 2), (24, o_iload 3 1), (25, o_ic (fun x y => y ≤ x) (fun x y => ¬ y ≤ x) 49), (28, o_aload 0 1), (29, o_aload 0 1), (30, o_getR 3 3 0), (33, o_iload 1 1), (34, o_iload 2 1), (35, o_iload 4 2), (43, o_iinc 4 1), (46, o_goto 22)]
set_option maxRecDepth 100000 in
theorem A_W_putList (l : ct_Lx) : ct_al l M_W_putList (T_W_putList) := by
  refine ct_al.cons (so_aload_n d_W_putList_0 rfl) ?_
  refine ct_al.cons (so_getR (Cn := "CodeTables$Writer") (T := ct_T3) kc_3 (by decide) rfl rfl wd_198 d_W_putList_1) ?_
  refine ct_al.cons (so_iload_n d_W_putList_4 rfl) ?_
  refine ct_al.cons (so_iconst d_W_putList_5 (by decide)) ?_
  refine ct_al.cons (so_iload_n d_W_putList_6 rfl) ?_
  refine ct_al.cons (so_iadd d_W_putList_7) ?_
  refine ct_al.cons (so_istore_n d_W_putList_11 rfl (by decide)) ?_
  refine ct_al.cons (so_aload_n d_W_putList_12 rfl) ?_
  refine ct_al.cons (so_iload_n d_W_putList_13 rfl) ?_
  refine ct_al.cons (so_i2l d_W_putList_14) ?_
  refine ct_al.cons (so_iconst d_W_putList_15 (by decide)) ?_
  refine ct_al.cons (so_iconst d_W_putList_19 (by decide)) ?_
  refine ct_al.cons (so_istore d_W_putList_20 (by decide)) ?_
  refine ct_al.cons (so_iload d_W_putList_22) ?_
  refine ct_al.cons (so_iload_n d_W_putList_24 rfl) ?_
  refine ct_al.cons (so_ic_ge d_W_putList_25 (by decide)) ?_
  refine ct_al.cons (so_aload_n d_W_putList_28 rfl) ?_
  refine ct_al.cons (so_aload_n d_W_putList_29 rfl) ?_
  refine ct_al.cons (so_getR (Cn := "CodeTables$Writer") (T := ct_T3) kc_3 (by decide) rfl rfl wd_198 d_W_putList_30) ?_
  refine ct_al.cons (so_iload_n d_W_putList_33 rfl) ?_
  refine ct_al.cons (so_iload_n d_W_putList_34 rfl) ?_
  refine ct_al.cons (so_iload d_W_putList_35) ?_
  refine ct_al.cons (so_iinc d_W_putList_43 (by decide) (by decide)) ?_
  refine ct_al.cons (so_goto d_W_putList_46 (by decide)) ?_
  exact ct_al.nil
theorem e_W_putList_0 : ct_tab (T_W_putList) 0 = some (o_aload 0 1) := rfl
theorem e_W_putList_1 : ct_tab (T_W_putList) 1 = some (o_getR 3 3 0) := rfl
theorem e_W_putList_4 : ct_tab (T_W_putList) 4 = some (o_iload 1 1) := rfl
theorem e_W_putList_5 : ct_tab (T_W_putList) 5 = some (o_push (.int 1) 1) := rfl
theorem e_W_putList_6 : ct_tab (T_W_putList) 6 = some (o_iload 2 1) := rfl
theorem e_W_putList_7 : ct_tab (T_W_putList) 7 = some (o_ii fun x y => x + y) := rfl
theorem e_W_putList_11 : ct_tab (T_W_putList) 11 = some (o_istore 3 1) := rfl
theorem e_W_putList_12 : ct_tab (T_W_putList) 12 = some (o_aload 0 1) := rfl
theorem e_W_putList_13 : ct_tab (T_W_putList) 13 = some (o_iload 3 1) := rfl
theorem e_W_putList_14 : ct_tab (T_W_putList) 14 = some (o_i2l) := rfl
theorem e_W_putList_15 : ct_tab (T_W_putList) 15 = some (o_push (.int 1) 1) := rfl
theorem e_W_putList_19 : ct_tab (T_W_putList) 19 = some (o_push (.int 0) 1) := rfl
theorem e_W_putList_20 : ct_tab (T_W_putList) 20 = some (o_istore 4 2) := rfl
theorem e_W_putList_22 : ct_tab (T_W_putList) 22 = some (o_iload 4 2) := rfl
theorem e_W_putList_24 : ct_tab (T_W_putList) 24 = some (o_iload 3 1) := rfl
theorem e_W_putList_25 : ct_tab (T_W_putList) 25 = some (o_ic (fun x y => y ≤ x) (fun x y => ¬ y ≤ x) 49) := rfl
theorem e_W_putList_28 : ct_tab (T_W_putList) 28 = some (o_aload 0 1) := rfl
theorem e_W_putList_29 : ct_tab (T_W_putList) 29 = some (o_aload 0 1) := rfl
theorem e_W_putList_30 : ct_tab (T_W_putList) 30 = some (o_getR 3 3 0) := rfl
theorem e_W_putList_33 : ct_tab (T_W_putList) 33 = some (o_iload 1 1) := rfl
theorem e_W_putList_34 : ct_tab (T_W_putList) 34 = some (o_iload 2 1) := rfl
theorem e_W_putList_35 : ct_tab (T_W_putList) 35 = some (o_iload 4 2) := rfl
theorem e_W_putList_43 : ct_tab (T_W_putList) 43 = some (o_iinc 4 1) := rfl
theorem e_W_putList_46 : ct_tab (T_W_putList) 46 = some (o_goto 22) := rfl
theorem cl_W_putList_8 {l : ct_Lx} {d d1 : Nat} {Post Post1 : Option Value → ct_Sg → Prop} {lv : ct_Lv} {st : List Value} {g : ct_Sg} {bc bs c1 s1 : Nat} {a1 a2 : Value} {h : Nat} (hsh : g.2.1 h = (10 + 1, 10)) (hM : ct_Me l M_T_functionFact d1 c1 s1 [.ref h, a1, a2] g Post1) (hdd : d1 + 1 ≤ d) (hk : (st.map fun v => v.category).sum ≤ 8) (hcc : c1 ≤ bc) (hss : s1 ≤ bs) (kk : ∀ (v : Option Value) (g' : ct_Sg), Post1 v g' → ct_Wp l M_W_putList d Post (11, lv, v.toList ++ st, g', bc - c1, bs - s1)) : ct_Wp l M_W_putList d Post (8, lv, a2 :: a1 :: .ref h :: st, g, bc, bs) := ct_Wp.callV (ci := 1) (N := 10) (T := ct_T1) (As := [a1, a2]) lk_T_functionFact (Or.inl wd_240) wd_40 wd_41 rfl d_W_putList_8 hsh hM rfl hdd hk hcc hss kk
theorem cl_W_putList_16 {l : ct_Lx} {d d1 : Nat} {Post Post1 : Option Value → ct_Sg → Prop} {lv : ct_Lv} {st : List Value} {g : ct_Sg} {bc bs c1 s1 : Nat} {a1 a2 : Value} {h : Nat} (hsh : g.2.1 h = (10 + 3, 3)) (hM : ct_Me l M_W_put d1 c1 s1 [.ref h, a1, a2] g Post1) (hdd : d1 + 1 ≤ d) (hk : (st.map fun v => v.category).sum ≤ 8) (hcc : c1 ≤ bc) (hss : s1 ≤ bs) (kk : ∀ (v : Option Value) (g' : ct_Sg), Post1 v g' → ct_Wp l M_W_putList d Post (19, lv, v.toList ++ st, g', bc - c1, bs - s1)) : ct_Wp l M_W_putList d Post (16, lv, a2 :: a1 :: .ref h :: st, g, bc, bs) := ct_Wp.callV (ci := 3) (N := 3) (T := ct_T3) (As := [a1, a2]) lk_W_put (Or.inl wd_202) wd_203 wd_204 rfl d_W_putList_16 hsh hM rfl hdd hk hcc hss kk
theorem cl_W_putList_37 {l : ct_Lx} {d d1 : Nat} {Post Post1 : Option Value → ct_Sg → Prop} {lv : ct_Lv} {st : List Value} {g : ct_Sg} {bc bs c1 s1 : Nat} {a1 a2 a3 : Value} {h : Nat} (hsh : g.2.1 h = (10 + 1, 10)) (hM : ct_Me l M_T_listedType d1 c1 s1 [.ref h, a1, a2, a3] g Post1) (hdd : d1 + 1 ≤ d) (hk : (st.map fun v => v.category).sum ≤ 8) (hcc : c1 ≤ bc) (hss : s1 ≤ bs) (kk : ∀ (v : Option Value) (g' : ct_Sg), Post1 v g' → ct_Wp l M_W_putList d Post (40, lv, v.toList ++ st, g', bc - c1, bs - s1)) : ct_Wp l M_W_putList d Post (37, lv, a3 :: a2 :: a1 :: .ref h :: st, g, bc, bs) := ct_Wp.callV (ci := 1) (N := 10) (T := ct_T1) (As := [a1, a2, a3]) lk_T_listedType (Or.inl wd_254) wd_255 wd_256 rfl d_W_putList_37 hsh hM rfl hdd hk hcc hss kk
theorem cl_W_putList_40 {l : ct_Lx} {d d1 : Nat} {Post Post1 : Option Value → ct_Sg → Prop} {lv : ct_Lv} {st : List Value} {g : ct_Sg} {bc bs c1 s1 : Nat} {a1 : Value} {h : Nat} (hsh : g.2.1 h = (10 + 3, 3)) (hM : ct_Me l M_W_putType d1 c1 s1 [.ref h, a1] g Post1) (hdd : d1 + 1 ≤ d) (hk : (st.map fun v => v.category).sum ≤ 8) (hcc : c1 ≤ bc) (hss : s1 ≤ bs) (kk : ∀ (v : Option Value) (g' : ct_Sg), Post1 v g' → ct_Wp l M_W_putList d Post (43, lv, v.toList ++ st, g', bc - c1, bs - s1)) : ct_Wp l M_W_putList d Post (40, lv, a1 :: .ref h :: st, g, bc, bs) := ct_Wp.callV (ci := 3) (N := 3) (T := ct_T3) (As := [a1]) lk_W_putType (Or.inl wd_235) wd_236 wd_237 rfl d_W_putList_40 hsh hM rfl hdd hk hcc hss kk
theorem d_W_putCode_0 : decode prog_5_method_9_code 0 = .ok (.aload_n 0, 1) := by decide +kernel
theorem d_W_putCode_1 : decode prog_5_method_9_code 1 = .ok (.getfield 19, 3) := by decide +kernel
theorem d_W_putCode_4 : decode prog_5_method_9_code 4 = .ok (.iload_n 1, 1) := by decide +kernel
theorem d_W_putCode_5 : decode prog_5_method_9_code 5 = .ok (.iconst 4, 1) := by decide +kernel
theorem d_W_putCode_6 : decode prog_5_method_9_code 6 = .ok (.invokevirtual 70, 3) := by decide +kernel
theorem d_W_putCode_9 : decode prog_5_method_9_code 9 = .ok (.istore_n 2, 1) := by decide +kernel
theorem d_W_putCode_10 : decode prog_5_method_9_code 10 = .ok (.aload_n 0, 1) := by decide +kernel
theorem d_W_putCode_11 : decode prog_5_method_9_code 11 = .ok (.iload_n 2, 1) := by decide +kernel
theorem d_W_putCode_12 : decode prog_5_method_9_code 12 = .ok (.i2l, 1) := by decide +kernel
theorem d_W_putCode_13 : decode prog_5_method_9_code 13 = .ok (.iconst 2, 1) := by decide +kernel
theorem d_W_putCode_14 : decode prog_5_method_9_code 14 = .ok (.invokevirtual 27, 3) := by decide +kernel
theorem d_W_putCode_17 : decode prog_5_method_9_code 17 = .ok (.iconst 0, 1) := by decide +kernel
theorem d_W_putCode_18 : decode prog_5_method_9_code 18 = .ok (.istore_n 3, 1) := by decide +kernel
theorem d_W_putCode_19 : decode prog_5_method_9_code 19 = .ok (.iload_n 3, 1) := by decide +kernel
theorem d_W_putCode_20 : decode prog_5_method_9_code 20 = .ok (.iload_n 2, 1) := by decide +kernel
theorem d_W_putCode_21 : decode prog_5_method_9_code 21 = .ok (.if_icmp .ge 87, 3) := by decide +kernel
theorem d_W_putCode_24 : decode prog_5_method_9_code 24 = .ok (.aload_n 0, 1) := by decide +kernel
theorem d_W_putCode_25 : decode prog_5_method_9_code 25 = .ok (.getfield 19, 3) := by decide +kernel
theorem d_W_putCode_28 : decode prog_5_method_9_code 28 = .ok (.getfield 89, 3) := by decide +kernel
theorem d_W_putCode_31 : decode prog_5_method_9_code 31 = .ok (.iload_n 1, 1) := by decide +kernel
theorem d_W_putCode_32 : decode prog_5_method_9_code 32 = .ok (.iaload, 1) := by decide +kernel
theorem d_W_putCode_33 : decode prog_5_method_9_code 33 = .ok (.iload_n 3, 1) := by decide +kernel
theorem d_W_putCode_34 : decode prog_5_method_9_code 34 = .ok (.iadd, 1) := by decide +kernel
theorem d_W_putCode_35 : decode prog_5_method_9_code 35 = .ok (.istore 4, 2) := by decide +kernel
theorem d_W_putCode_37 : decode prog_5_method_9_code 37 = .ok (.aload_n 0, 1) := by decide +kernel
theorem d_W_putCode_38 : decode prog_5_method_9_code 38 = .ok (.getfield 19, 3) := by decide +kernel
theorem d_W_putCode_41 : decode prog_5_method_9_code 41 = .ok (.getfield 92, 3) := by decide +kernel
theorem d_W_putCode_44 : decode prog_5_method_9_code 44 = .ok (.iload 4, 2) := by decide +kernel
theorem d_W_putCode_46 : decode prog_5_method_9_code 46 = .ok (.baload, 1) := by decide +kernel
theorem d_W_putCode_47 : decode prog_5_method_9_code 47 = .ok (.istore 5, 2) := by decide +kernel
theorem d_W_putCode_49 : decode prog_5_method_9_code 49 = .ok (.iload 5, 2) := by decide +kernel
theorem d_W_putCode_51 : decode prog_5_method_9_code 51 = .ok (.invokestatic 95, 3) := by decide +kernel
theorem d_W_putCode_54 : decode prog_5_method_9_code 54 = .ok (.istore 6, 2) := by decide +kernel
theorem d_W_putCode_56 : decode prog_5_method_9_code 56 = .ok (.aload_n 0, 1) := by decide +kernel
theorem d_W_putCode_57 : decode prog_5_method_9_code 57 = .ok (.iload 5, 2) := by decide +kernel
theorem d_W_putCode_59 : decode prog_5_method_9_code 59 = .ok (.i2l, 1) := by decide +kernel
theorem d_W_putCode_60 : decode prog_5_method_9_code 60 = .ok (.iconst 1, 1) := by decide +kernel
theorem d_W_putCode_61 : decode prog_5_method_9_code 61 = .ok (.invokevirtual 27, 3) := by decide +kernel
theorem d_W_putCode_64 : decode prog_5_method_9_code 64 = .ok (.aload_n 0, 1) := by decide +kernel
theorem d_W_putCode_65 : decode prog_5_method_9_code 65 = .ok (.aload_n 0, 1) := by decide +kernel
theorem d_W_putCode_66 : decode prog_5_method_9_code 66 = .ok (.getfield 19, 3) := by decide +kernel
theorem d_W_putCode_69 : decode prog_5_method_9_code 69 = .ok (.getfield 101, 3) := by decide +kernel
theorem d_W_putCode_72 : decode prog_5_method_9_code 72 = .ok (.iload 4, 2) := by decide +kernel
theorem d_W_putCode_74 : decode prog_5_method_9_code 74 = .ok (.laload, 1) := by decide +kernel
theorem d_W_putCode_75 : decode prog_5_method_9_code 75 = .ok (.iload 6, 2) := by decide +kernel
theorem d_W_putCode_77 : decode prog_5_method_9_code 77 = .ok (.invokestatic 104, 3) := by decide +kernel
theorem d_W_putCode_80 : decode prog_5_method_9_code 80 = .ok (.invokevirtual 27, 3) := by decide +kernel
theorem d_W_putCode_83 : decode prog_5_method_9_code 83 = .ok (.aload_n 0, 1) := by decide +kernel
theorem d_W_putCode_84 : decode prog_5_method_9_code 84 = .ok (.aload_n 0, 1) := by decide +kernel
theorem d_W_putCode_85 : decode prog_5_method_9_code 85 = .ok (.getfield 19, 3) := by decide +kernel
theorem d_W_putCode_88 : decode prog_5_method_9_code 88 = .ok (.getfield 107, 3) := by decide +kernel
theorem d_W_putCode_91 : decode prog_5_method_9_code 91 = .ok (.iload 4, 2) := by decide +kernel
theorem d_W_putCode_93 : decode prog_5_method_9_code 93 = .ok (.laload, 1) := by decide +kernel
theorem d_W_putCode_94 : decode prog_5_method_9_code 94 = .ok (.iload 6, 2) := by decide +kernel
theorem d_W_putCode_96 : decode prog_5_method_9_code 96 = .ok (.invokestatic 110, 3) := by decide +kernel
theorem d_W_putCode_99 : decode prog_5_method_9_code 99 = .ok (.invokevirtual 27, 3) := by decide +kernel
theorem d_W_putCode_102 : decode prog_5_method_9_code 102 = .ok (.iinc 3 1, 3) := by decide +kernel
theorem d_W_putCode_105 : decode prog_5_method_9_code 105 = .ok (.goto (-86), 3) := by decide +kernel
theorem d_W_putCode_108 : decode prog_5_method_9_code 108 = .ok (.return_, 1) := by decide +kernel
abbrev T_W_putCode : List (Nat × ct_PT) := [(0, o_aload 0 1), (1, o_getR 3 3 0), (4, o_iload 1 1), (5, o_push (.int 4) 1), (9, o_istore 2 1), (10, o_aload 0 1), (11, o_iload 2 1), (12, o_i2l), (13, o_push (.int 2) 1), (17, o_push (.int 0) 1), (18, o_istore 3 1), (19, o_iload 3 1), (20, o_iload 2 1), (21, o_ic (fun x y => y ≤ x) (fun x y => ¬ y ≤ x) 108), (24, o_aload 0 1), (25, o_getR 3 3 0), (28, o_getR 1 10 6), (31, o_iload 1 1), (32, o_iald), (33, o_iload 3 1), (34, o_ii fun x y => x + y), (35, o_istore 4 2), (37, o_aload 0 1), (38, o_getR 3 3 0), (41, o_getR 1 10 7), (44, o_iload 4 2), (46, o_bald), (47, o_istore 5 2), (49, o_iload 5 2), (54, o_istore 6 2), (56, o_aload 0 1), (57, o_iload 5 2), (59, o_i2l), (60, o_push (.int 1) 1), (64, o_aload 0 1), (65, o_aload 0 1), (66, o_getR 3 3 0), (69, o_getR 1 10 8), (72, o_iload 4 2), (74, o_lald), (75, o_iload 6 2), (83, o_aload 0 1), (84, o_aload 0 1), (85, o_getR 3 3 0), (88, o_getR 1 10 9), (91, o_iload 4 2), (93, o_lald), (94, o_iload 6 2), (102, o_iinc 3 1), (105, o_goto 19)]
set_option maxRecDepth 100000 in
theorem A_W_putCode (l : ct_Lx) : ct_al l M_W_putCode (T_W_putCode) := by
  refine ct_al.cons (so_aload_n d_W_putCode_0 rfl) ?_
  refine ct_al.cons (so_getR (Cn := "CodeTables$Writer") (T := ct_T3) kc_3 (by decide) rfl rfl wd_198 d_W_putCode_1) ?_
  refine ct_al.cons (so_iload_n d_W_putCode_4 rfl) ?_
  refine ct_al.cons (so_iconst d_W_putCode_5 (by decide)) ?_
  refine ct_al.cons (so_istore_n d_W_putCode_9 rfl (by decide)) ?_
  refine ct_al.cons (so_aload_n d_W_putCode_10 rfl) ?_
  refine ct_al.cons (so_iload_n d_W_putCode_11 rfl) ?_
  refine ct_al.cons (so_i2l d_W_putCode_12) ?_
  refine ct_al.cons (so_iconst d_W_putCode_13 (by decide)) ?_
  refine ct_al.cons (so_iconst d_W_putCode_17 (by decide)) ?_
  refine ct_al.cons (so_istore_n d_W_putCode_18 rfl (by decide)) ?_
  refine ct_al.cons (so_iload_n d_W_putCode_19 rfl) ?_
  refine ct_al.cons (so_iload_n d_W_putCode_20 rfl) ?_
  refine ct_al.cons (so_ic_ge d_W_putCode_21 (by decide)) ?_
  refine ct_al.cons (so_aload_n d_W_putCode_24 rfl) ?_
  refine ct_al.cons (so_getR (Cn := "CodeTables$Writer") (T := ct_T3) kc_3 (by decide) rfl rfl wd_198 d_W_putCode_25) ?_
  refine ct_al.cons (so_getR (Cn := "CodeTables$Tables") (T := ct_T1) kc_1 (by decide) rfl rfl wd_257 d_W_putCode_28) ?_
  refine ct_al.cons (so_iload_n d_W_putCode_31 rfl) ?_
  refine ct_al.cons (so_iald d_W_putCode_32) ?_
  refine ct_al.cons (so_iload_n d_W_putCode_33 rfl) ?_
  refine ct_al.cons (so_iadd d_W_putCode_34) ?_
  refine ct_al.cons (so_istore d_W_putCode_35 (by decide)) ?_
  refine ct_al.cons (so_aload_n d_W_putCode_37 rfl) ?_
  refine ct_al.cons (so_getR (Cn := "CodeTables$Writer") (T := ct_T3) kc_3 (by decide) rfl rfl wd_198 d_W_putCode_38) ?_
  refine ct_al.cons (so_getR (Cn := "CodeTables$Tables") (T := ct_T1) kc_1 (by decide) rfl rfl wd_258 d_W_putCode_41) ?_
  refine ct_al.cons (so_iload d_W_putCode_44) ?_
  refine ct_al.cons (so_bald d_W_putCode_46) ?_
  refine ct_al.cons (so_istore d_W_putCode_47 (by decide)) ?_
  refine ct_al.cons (so_iload d_W_putCode_49) ?_
  refine ct_al.cons (so_istore d_W_putCode_54 (by decide)) ?_
  refine ct_al.cons (so_aload_n d_W_putCode_56 rfl) ?_
  refine ct_al.cons (so_iload d_W_putCode_57) ?_
  refine ct_al.cons (so_i2l d_W_putCode_59) ?_
  refine ct_al.cons (so_iconst d_W_putCode_60 (by decide)) ?_
  refine ct_al.cons (so_aload_n d_W_putCode_64 rfl) ?_
  refine ct_al.cons (so_aload_n d_W_putCode_65 rfl) ?_
  refine ct_al.cons (so_getR (Cn := "CodeTables$Writer") (T := ct_T3) kc_3 (by decide) rfl rfl wd_198 d_W_putCode_66) ?_
  refine ct_al.cons (so_getR (Cn := "CodeTables$Tables") (T := ct_T1) kc_1 (by decide) rfl rfl wd_260 d_W_putCode_69) ?_
  refine ct_al.cons (so_iload d_W_putCode_72) ?_
  refine ct_al.cons (so_lald d_W_putCode_74) ?_
  refine ct_al.cons (so_iload d_W_putCode_75) ?_
  refine ct_al.cons (so_aload_n d_W_putCode_83 rfl) ?_
  refine ct_al.cons (so_aload_n d_W_putCode_84 rfl) ?_
  refine ct_al.cons (so_getR (Cn := "CodeTables$Writer") (T := ct_T3) kc_3 (by decide) rfl rfl wd_198 d_W_putCode_85) ?_
  refine ct_al.cons (so_getR (Cn := "CodeTables$Tables") (T := ct_T1) kc_1 (by decide) rfl rfl wd_262 d_W_putCode_88) ?_
  refine ct_al.cons (so_iload d_W_putCode_91) ?_
  refine ct_al.cons (so_lald d_W_putCode_93) ?_
  refine ct_al.cons (so_iload d_W_putCode_94) ?_
  refine ct_al.cons (so_iinc d_W_putCode_102 (by decide) (by decide)) ?_
  refine ct_al.cons (so_goto d_W_putCode_105 (by decide)) ?_
  exact ct_al.nil
theorem e_W_putCode_0 : ct_tab (T_W_putCode) 0 = some (o_aload 0 1) := rfl
theorem e_W_putCode_1 : ct_tab (T_W_putCode) 1 = some (o_getR 3 3 0) := rfl
theorem e_W_putCode_4 : ct_tab (T_W_putCode) 4 = some (o_iload 1 1) := rfl
theorem e_W_putCode_5 : ct_tab (T_W_putCode) 5 = some (o_push (.int 4) 1) := rfl
theorem e_W_putCode_9 : ct_tab (T_W_putCode) 9 = some (o_istore 2 1) := rfl
theorem e_W_putCode_10 : ct_tab (T_W_putCode) 10 = some (o_aload 0 1) := rfl
theorem e_W_putCode_11 : ct_tab (T_W_putCode) 11 = some (o_iload 2 1) := rfl
theorem e_W_putCode_12 : ct_tab (T_W_putCode) 12 = some (o_i2l) := rfl
theorem e_W_putCode_13 : ct_tab (T_W_putCode) 13 = some (o_push (.int 2) 1) := rfl
theorem e_W_putCode_17 : ct_tab (T_W_putCode) 17 = some (o_push (.int 0) 1) := rfl
theorem e_W_putCode_18 : ct_tab (T_W_putCode) 18 = some (o_istore 3 1) := rfl
theorem e_W_putCode_19 : ct_tab (T_W_putCode) 19 = some (o_iload 3 1) := rfl
theorem e_W_putCode_20 : ct_tab (T_W_putCode) 20 = some (o_iload 2 1) := rfl
theorem e_W_putCode_21 : ct_tab (T_W_putCode) 21 = some (o_ic (fun x y => y ≤ x) (fun x y => ¬ y ≤ x) 108) := rfl
theorem e_W_putCode_24 : ct_tab (T_W_putCode) 24 = some (o_aload 0 1) := rfl
theorem e_W_putCode_25 : ct_tab (T_W_putCode) 25 = some (o_getR 3 3 0) := rfl
theorem e_W_putCode_28 : ct_tab (T_W_putCode) 28 = some (o_getR 1 10 6) := rfl
theorem e_W_putCode_31 : ct_tab (T_W_putCode) 31 = some (o_iload 1 1) := rfl
theorem e_W_putCode_32 : ct_tab (T_W_putCode) 32 = some (o_iald) := rfl
theorem e_W_putCode_33 : ct_tab (T_W_putCode) 33 = some (o_iload 3 1) := rfl
theorem e_W_putCode_34 : ct_tab (T_W_putCode) 34 = some (o_ii fun x y => x + y) := rfl
theorem e_W_putCode_35 : ct_tab (T_W_putCode) 35 = some (o_istore 4 2) := rfl
theorem e_W_putCode_37 : ct_tab (T_W_putCode) 37 = some (o_aload 0 1) := rfl
theorem e_W_putCode_38 : ct_tab (T_W_putCode) 38 = some (o_getR 3 3 0) := rfl
theorem e_W_putCode_41 : ct_tab (T_W_putCode) 41 = some (o_getR 1 10 7) := rfl
theorem e_W_putCode_44 : ct_tab (T_W_putCode) 44 = some (o_iload 4 2) := rfl
theorem e_W_putCode_46 : ct_tab (T_W_putCode) 46 = some (o_bald) := rfl
theorem e_W_putCode_47 : ct_tab (T_W_putCode) 47 = some (o_istore 5 2) := rfl
theorem e_W_putCode_49 : ct_tab (T_W_putCode) 49 = some (o_iload 5 2) := rfl
theorem e_W_putCode_54 : ct_tab (T_W_putCode) 54 = some (o_istore 6 2) := rfl
theorem e_W_putCode_56 : ct_tab (T_W_putCode) 56 = some (o_aload 0 1) := rfl
theorem e_W_putCode_57 : ct_tab (T_W_putCode) 57 = some (o_iload 5 2) := rfl
theorem e_W_putCode_59 : ct_tab (T_W_putCode) 59 = some (o_i2l) := rfl
theorem e_W_putCode_60 : ct_tab (T_W_putCode) 60 = some (o_push (.int 1) 1) := rfl
theorem e_W_putCode_64 : ct_tab (T_W_putCode) 64 = some (o_aload 0 1) := rfl
theorem e_W_putCode_65 : ct_tab (T_W_putCode) 65 = some (o_aload 0 1) := rfl
theorem e_W_putCode_66 : ct_tab (T_W_putCode) 66 = some (o_getR 3 3 0) := rfl
theorem e_W_putCode_69 : ct_tab (T_W_putCode) 69 = some (o_getR 1 10 8) := rfl
theorem e_W_putCode_72 : ct_tab (T_W_putCode) 72 = some (o_iload 4 2) := rfl
theorem e_W_putCode_74 : ct_tab (T_W_putCode) 74 = some (o_lald) := rfl
theorem e_W_putCode_75 : ct_tab (T_W_putCode) 75 = some (o_iload 6 2) := rfl
theorem e_W_putCode_83 : ct_tab (T_W_putCode) 83 = some (o_aload 0 1) := rfl
theorem e_W_putCode_84 : ct_tab (T_W_putCode) 84 = some (o_aload 0 1) := rfl
theorem e_W_putCode_85 : ct_tab (T_W_putCode) 85 = some (o_getR 3 3 0) := rfl
theorem e_W_putCode_88 : ct_tab (T_W_putCode) 88 = some (o_getR 1 10 9) := rfl
theorem e_W_putCode_91 : ct_tab (T_W_putCode) 91 = some (o_iload 4 2) := rfl
theorem e_W_putCode_93 : ct_tab (T_W_putCode) 93 = some (o_lald) := rfl
theorem e_W_putCode_94 : ct_tab (T_W_putCode) 94 = some (o_iload 6 2) := rfl
theorem e_W_putCode_102 : ct_tab (T_W_putCode) 102 = some (o_iinc 3 1) := rfl
theorem e_W_putCode_105 : ct_tab (T_W_putCode) 105 = some (o_goto 19) := rfl
theorem cl_W_putCode_6 {l : ct_Lx} {d d1 : Nat} {Post Post1 : Option Value → ct_Sg → Prop} {lv : ct_Lv} {st : List Value} {g : ct_Sg} {bc bs c1 s1 : Nat} {a1 a2 : Value} {h : Nat} (hsh : g.2.1 h = (10 + 1, 10)) (hM : ct_Me l M_T_functionFact d1 c1 s1 [.ref h, a1, a2] g Post1) (hdd : d1 + 1 ≤ d) (hk : (st.map fun v => v.category).sum ≤ 8) (hcc : c1 ≤ bc) (hss : s1 ≤ bs) (kk : ∀ (v : Option Value) (g' : ct_Sg), Post1 v g' → ct_Wp l M_W_putCode d Post (9, lv, v.toList ++ st, g', bc - c1, bs - s1)) : ct_Wp l M_W_putCode d Post (6, lv, a2 :: a1 :: .ref h :: st, g, bc, bs) := ct_Wp.callV (ci := 1) (N := 10) (T := ct_T1) (As := [a1, a2]) lk_T_functionFact (Or.inl wd_240) wd_40 wd_41 rfl d_W_putCode_6 hsh hM rfl hdd hk hcc hss kk
theorem cl_W_putCode_14 {l : ct_Lx} {d d1 : Nat} {Post Post1 : Option Value → ct_Sg → Prop} {lv : ct_Lv} {st : List Value} {g : ct_Sg} {bc bs c1 s1 : Nat} {a1 a2 : Value} {h : Nat} (hsh : g.2.1 h = (10 + 3, 3)) (hM : ct_Me l M_W_put d1 c1 s1 [.ref h, a1, a2] g Post1) (hdd : d1 + 1 ≤ d) (hk : (st.map fun v => v.category).sum ≤ 8) (hcc : c1 ≤ bc) (hss : s1 ≤ bs) (kk : ∀ (v : Option Value) (g' : ct_Sg), Post1 v g' → ct_Wp l M_W_putCode d Post (17, lv, v.toList ++ st, g', bc - c1, bs - s1)) : ct_Wp l M_W_putCode d Post (14, lv, a2 :: a1 :: .ref h :: st, g, bc, bs) := ct_Wp.callV (ci := 3) (N := 3) (T := ct_T3) (As := [a1, a2]) lk_W_put (Or.inl wd_202) wd_203 wd_204 rfl d_W_putCode_14 hsh hM rfl hdd hk hcc hss kk
theorem cl_W_putCode_51 {l : ct_Lx} {d d1 : Nat} {Post Post1 : Option Value → ct_Sg → Prop} {lv : ct_Lv} {st : List Value} {g : ct_Sg} {bc bs c1 s1 : Nat} {a1 : Value} (hM : ct_Me l M_S_of d1 c1 s1 [a1] g Post1) (hdd : d1 + 1 ≤ d) (hk : (st.map fun v => v.category).sum ≤ 8) (hcc : c1 ≤ bc) (hss : s1 ≤ bs) (kk : ∀ (v : Option Value) (g' : ct_Sg), Post1 v g' → ct_Wp l M_W_putCode d Post (54, lv, v.toList ++ st, g', bc - c1, bs - s1)) : ct_Wp l M_W_putCode d Post (51, lv, a1 :: st, g, bc, bs) := ct_Wp.callS (As := [a1]) lk_S_of (Or.inl wd_259) wd_138 d_W_putCode_51 hM rfl hdd hk hcc hss kk
theorem cl_W_putCode_61 {l : ct_Lx} {d d1 : Nat} {Post Post1 : Option Value → ct_Sg → Prop} {lv : ct_Lv} {st : List Value} {g : ct_Sg} {bc bs c1 s1 : Nat} {a1 a2 : Value} {h : Nat} (hsh : g.2.1 h = (10 + 3, 3)) (hM : ct_Me l M_W_put d1 c1 s1 [.ref h, a1, a2] g Post1) (hdd : d1 + 1 ≤ d) (hk : (st.map fun v => v.category).sum ≤ 8) (hcc : c1 ≤ bc) (hss : s1 ≤ bs) (kk : ∀ (v : Option Value) (g' : ct_Sg), Post1 v g' → ct_Wp l M_W_putCode d Post (64, lv, v.toList ++ st, g', bc - c1, bs - s1)) : ct_Wp l M_W_putCode d Post (61, lv, a2 :: a1 :: .ref h :: st, g, bc, bs) := ct_Wp.callV (ci := 3) (N := 3) (T := ct_T3) (As := [a1, a2]) lk_W_put (Or.inl wd_202) wd_203 wd_204 rfl d_W_putCode_61 hsh hM rfl hdd hk hcc hss kk
theorem cl_W_putCode_77 {l : ct_Lx} {d d1 : Nat} {Post Post1 : Option Value → ct_Sg → Prop} {lv : ct_Lv} {st : List Value} {g : ct_Sg} {bc bs c1 s1 : Nat} {a1 : Value} (hM : ct_Me l M_S_firstSize d1 c1 s1 [a1] g Post1) (hdd : d1 + 1 ≤ d) (hk : (st.map fun v => v.category).sum ≤ 8) (hcc : c1 ≤ bc) (hss : s1 ≤ bs) (kk : ∀ (v : Option Value) (g' : ct_Sg), Post1 v g' → ct_Wp l M_W_putCode d Post (80, lv, v.toList ++ st, g', bc - c1, bs - s1)) : ct_Wp l M_W_putCode d Post (77, lv, a1 :: st, g, bc, bs) := ct_Wp.callS (As := [a1]) lk_S_firstSize (Or.inl wd_261) wd_166 d_W_putCode_77 hM rfl hdd hk hcc hss kk
theorem cl_W_putCode_80 {l : ct_Lx} {d d1 : Nat} {Post Post1 : Option Value → ct_Sg → Prop} {lv : ct_Lv} {st : List Value} {g : ct_Sg} {bc bs c1 s1 : Nat} {a1 a2 : Value} {h : Nat} (hsh : g.2.1 h = (10 + 3, 3)) (hM : ct_Me l M_W_put d1 c1 s1 [.ref h, a1, a2] g Post1) (hdd : d1 + 1 ≤ d) (hk : (st.map fun v => v.category).sum ≤ 8) (hcc : c1 ≤ bc) (hss : s1 ≤ bs) (kk : ∀ (v : Option Value) (g' : ct_Sg), Post1 v g' → ct_Wp l M_W_putCode d Post (83, lv, v.toList ++ st, g', bc - c1, bs - s1)) : ct_Wp l M_W_putCode d Post (80, lv, a2 :: a1 :: .ref h :: st, g, bc, bs) := ct_Wp.callV (ci := 3) (N := 3) (T := ct_T3) (As := [a1, a2]) lk_W_put (Or.inl wd_202) wd_203 wd_204 rfl d_W_putCode_80 hsh hM rfl hdd hk hcc hss kk
theorem cl_W_putCode_96 {l : ct_Lx} {d d1 : Nat} {Post Post1 : Option Value → ct_Sg → Prop} {lv : ct_Lv} {st : List Value} {g : ct_Sg} {bc bs c1 s1 : Nat} {a1 : Value} (hM : ct_Me l M_S_secondSize d1 c1 s1 [a1] g Post1) (hdd : d1 + 1 ≤ d) (hk : (st.map fun v => v.category).sum ≤ 8) (hcc : c1 ≤ bc) (hss : s1 ≤ bs) (kk : ∀ (v : Option Value) (g' : ct_Sg), Post1 v g' → ct_Wp l M_W_putCode d Post (99, lv, v.toList ++ st, g', bc - c1, bs - s1)) : ct_Wp l M_W_putCode d Post (96, lv, a1 :: st, g, bc, bs) := ct_Wp.callS (As := [a1]) lk_S_secondSize (Or.inl wd_263) wd_171 d_W_putCode_96 hM rfl hdd hk hcc hss kk
theorem cl_W_putCode_99 {l : ct_Lx} {d d1 : Nat} {Post Post1 : Option Value → ct_Sg → Prop} {lv : ct_Lv} {st : List Value} {g : ct_Sg} {bc bs c1 s1 : Nat} {a1 a2 : Value} {h : Nat} (hsh : g.2.1 h = (10 + 3, 3)) (hM : ct_Me l M_W_put d1 c1 s1 [.ref h, a1, a2] g Post1) (hdd : d1 + 1 ≤ d) (hk : (st.map fun v => v.category).sum ≤ 8) (hcc : c1 ≤ bc) (hss : s1 ≤ bs) (kk : ∀ (v : Option Value) (g' : ct_Sg), Post1 v g' → ct_Wp l M_W_putCode d Post (102, lv, v.toList ++ st, g', bc - c1, bs - s1)) : ct_Wp l M_W_putCode d Post (99, lv, a2 :: a1 :: .ref h :: st, g, bc, bs) := ct_Wp.callV (ci := 3) (N := 3) (T := ct_T3) (As := [a1, a2]) lk_W_put (Or.inl wd_202) wd_203 wd_204 rfl d_W_putCode_99 hsh hM rfl hdd hk hcc hss kk
theorem d_W_putType_0 : decode prog_5_method_10_code 0 = .ok (.iconst 1, 1) := by decide +kernel
theorem d_W_putType_1 : decode prog_5_method_10_code 1 = .ok (.istore_n 3, 1) := by decide +kernel
theorem d_W_putType_2 : decode prog_5_method_10_code 2 = .ok (.iload_n 3, 1) := by decide +kernel
theorem d_W_putType_3 : decode prog_5_method_10_code 3 = .ok (.bipush 8, 2) := by decide +kernel
theorem d_W_putType_5 : decode prog_5_method_10_code 5 = .ok (.if_icmp .ge 20, 3) := by decide +kernel
theorem d_W_putType_8 : decode prog_5_method_10_code 8 = .ok (.lload_n 1, 1) := by decide +kernel
theorem d_W_putType_9 : decode prog_5_method_10_code 9 = .ok (.bipush 8, 2) := by decide +kernel
theorem d_W_putType_11 : decode prog_5_method_10_code 11 = .ok (.iload_n 3, 1) := by decide +kernel
theorem d_W_putType_12 : decode prog_5_method_10_code 12 = .ok (.imul, 1) := by decide +kernel
theorem d_W_putType_13 : decode prog_5_method_10_code 13 = .ok (.lushr, 1) := by decide +kernel
theorem d_W_putType_14 : decode prog_5_method_10_code 14 = .ok (.lconst 0, 1) := by decide +kernel
theorem d_W_putType_15 : decode prog_5_method_10_code 15 = .ok (.lcmp, 1) := by decide +kernel
theorem d_W_putType_16 : decode prog_5_method_10_code 16 = .ok (.ifCond .eq 9, 3) := by decide +kernel
theorem d_W_putType_19 : decode prog_5_method_10_code 19 = .ok (.iinc 3 1, 3) := by decide +kernel
theorem d_W_putType_22 : decode prog_5_method_10_code 22 = .ok (.goto (-20), 3) := by decide +kernel
theorem d_W_putType_25 : decode prog_5_method_10_code 25 = .ok (.aload_n 0, 1) := by decide +kernel
theorem d_W_putType_26 : decode prog_5_method_10_code 26 = .ok (.lload_n 1, 1) := by decide +kernel
theorem d_W_putType_27 : decode prog_5_method_10_code 27 = .ok (.iload_n 3, 1) := by decide +kernel
theorem d_W_putType_28 : decode prog_5_method_10_code 28 = .ok (.invokevirtual 27, 3) := by decide +kernel
theorem d_W_putType_31 : decode prog_5_method_10_code 31 = .ok (.return_, 1) := by decide +kernel
abbrev T_W_putType : List (Nat × ct_PT) := [(0, o_push (.int 1) 1), (1, o_istore 3 1), (2, o_iload 3 1), (3, o_push (.int 8) 2), (5, o_ic (fun x y => y ≤ x) (fun x y => ¬ y ≤ x) 25), (8, o_lload 1 1), (9, o_push (.int 8) 2), (11, o_iload 3 1), (12, o_ii fun x y => x * y), (13, o_li fun x y => (x.toUInt64 >>> (y.toInt64.toUInt64 &&& Int64.toUInt64 63)).toInt64), (14, o_push (.long 0) 1), (15, o_lcmp), (16, o_if (fun x => x = 0) (fun x => ¬ x = 0) 25), (19, o_iinc 3 1), (22, o_goto 2), (25, o_aload 0 1), (26, o_lload 1 1), (27, o_iload 3 1)]
set_option maxRecDepth 100000 in
theorem A_W_putType (l : ct_Lx) : ct_al l M_W_putType (T_W_putType) := by
  refine ct_al.cons (so_iconst d_W_putType_0 (by decide)) ?_
  refine ct_al.cons (so_istore_n d_W_putType_1 rfl (by decide)) ?_
  refine ct_al.cons (so_iload_n d_W_putType_2 rfl) ?_
  refine ct_al.cons (so_bipush d_W_putType_3 (by decide)) ?_
  refine ct_al.cons (so_ic_ge d_W_putType_5 (by decide)) ?_
  refine ct_al.cons (so_lload_n d_W_putType_8 rfl) ?_
  refine ct_al.cons (so_bipush d_W_putType_9 (by decide)) ?_
  refine ct_al.cons (so_iload_n d_W_putType_11 rfl) ?_
  refine ct_al.cons (so_imul d_W_putType_12) ?_
  refine ct_al.cons (so_lushr d_W_putType_13) ?_
  refine ct_al.cons (so_lconst d_W_putType_14 (by decide)) ?_
  refine ct_al.cons (so_lcmp d_W_putType_15) ?_
  refine ct_al.cons (so_if_eq d_W_putType_16 (by decide)) ?_
  refine ct_al.cons (so_iinc d_W_putType_19 (by decide) (by decide)) ?_
  refine ct_al.cons (so_goto d_W_putType_22 (by decide)) ?_
  refine ct_al.cons (so_aload_n d_W_putType_25 rfl) ?_
  refine ct_al.cons (so_lload_n d_W_putType_26 rfl) ?_
  refine ct_al.cons (so_iload_n d_W_putType_27 rfl) ?_
  exact ct_al.nil
theorem e_W_putType_0 : ct_tab (T_W_putType) 0 = some (o_push (.int 1) 1) := rfl
theorem e_W_putType_1 : ct_tab (T_W_putType) 1 = some (o_istore 3 1) := rfl
theorem e_W_putType_2 : ct_tab (T_W_putType) 2 = some (o_iload 3 1) := rfl
theorem e_W_putType_3 : ct_tab (T_W_putType) 3 = some (o_push (.int 8) 2) := rfl
theorem e_W_putType_5 : ct_tab (T_W_putType) 5 = some (o_ic (fun x y => y ≤ x) (fun x y => ¬ y ≤ x) 25) := rfl
theorem e_W_putType_8 : ct_tab (T_W_putType) 8 = some (o_lload 1 1) := rfl
theorem e_W_putType_9 : ct_tab (T_W_putType) 9 = some (o_push (.int 8) 2) := rfl
theorem e_W_putType_11 : ct_tab (T_W_putType) 11 = some (o_iload 3 1) := rfl
theorem e_W_putType_12 : ct_tab (T_W_putType) 12 = some (o_ii fun x y => x * y) := rfl
theorem e_W_putType_13 : ct_tab (T_W_putType) 13 = some (o_li fun x y => (x.toUInt64 >>> (y.toInt64.toUInt64 &&& Int64.toUInt64 63)).toInt64) := rfl
theorem e_W_putType_14 : ct_tab (T_W_putType) 14 = some (o_push (.long 0) 1) := rfl
theorem e_W_putType_15 : ct_tab (T_W_putType) 15 = some (o_lcmp) := rfl
theorem e_W_putType_16 : ct_tab (T_W_putType) 16 = some (o_if (fun x => x = 0) (fun x => ¬ x = 0) 25) := rfl
theorem e_W_putType_19 : ct_tab (T_W_putType) 19 = some (o_iinc 3 1) := rfl
theorem e_W_putType_22 : ct_tab (T_W_putType) 22 = some (o_goto 2) := rfl
theorem e_W_putType_25 : ct_tab (T_W_putType) 25 = some (o_aload 0 1) := rfl
theorem e_W_putType_26 : ct_tab (T_W_putType) 26 = some (o_lload 1 1) := rfl
theorem e_W_putType_27 : ct_tab (T_W_putType) 27 = some (o_iload 3 1) := rfl
theorem cl_W_putType_28 {l : ct_Lx} {d d1 : Nat} {Post Post1 : Option Value → ct_Sg → Prop} {lv : ct_Lv} {st : List Value} {g : ct_Sg} {bc bs c1 s1 : Nat} {a1 a2 : Value} {h : Nat} (hsh : g.2.1 h = (10 + 3, 3)) (hM : ct_Me l M_W_put d1 c1 s1 [.ref h, a1, a2] g Post1) (hdd : d1 + 1 ≤ d) (hk : (st.map fun v => v.category).sum ≤ 8) (hcc : c1 ≤ bc) (hss : s1 ≤ bs) (kk : ∀ (v : Option Value) (g' : ct_Sg), Post1 v g' → ct_Wp l M_W_putType d Post (31, lv, v.toList ++ st, g', bc - c1, bs - s1)) : ct_Wp l M_W_putType d Post (28, lv, a2 :: a1 :: .ref h :: st, g, bc, bs) := ct_Wp.callV (ci := 3) (N := 3) (T := ct_T3) (As := [a1, a2]) lk_W_put (Or.inl wd_202) wd_203 wd_204 rfl d_W_putType_28 hsh hM rfl hdd hk hcc hss kk
theorem d_W_put_0 : decode prog_5_method_11_code 0 = .ok (.aload_n 0, 1) := by decide +kernel
theorem d_W_put_1 : decode prog_5_method_11_code 1 = .ok (.aload_n 0, 1) := by decide +kernel
theorem d_W_put_2 : decode prog_5_method_11_code 2 = .ok (.getfield 9, 3) := by decide +kernel
theorem d_W_put_5 : decode prog_5_method_11_code 5 = .ok (.aload_n 0, 1) := by decide +kernel
theorem d_W_put_6 : decode prog_5_method_11_code 6 = .ok (.getfield 15, 3) := by decide +kernel
theorem d_W_put_9 : decode prog_5_method_11_code 9 = .ok (.iload_n 3, 1) := by decide +kernel
theorem d_W_put_10 : decode prog_5_method_11_code 10 = .ok (.iadd, 1) := by decide +kernel
theorem d_W_put_11 : decode prog_5_method_11_code 11 = .ok (.invokestatic 113, 3) := by decide +kernel
theorem d_W_put_14 : decode prog_5_method_11_code 14 = .ok (.putfield 9, 3) := by decide +kernel
theorem d_W_put_17 : decode prog_5_method_11_code 17 = .ok (.aload_n 0, 1) := by decide +kernel
theorem d_W_put_18 : decode prog_5_method_11_code 18 = .ok (.getfield 9, 3) := by decide +kernel
theorem d_W_put_21 : decode prog_5_method_11_code 21 = .ok (.aload_n 0, 1) := by decide +kernel
theorem d_W_put_22 : decode prog_5_method_11_code 22 = .ok (.getfield 15, 3) := by decide +kernel
theorem d_W_put_25 : decode prog_5_method_11_code 25 = .ok (.lload_n 1, 1) := by decide +kernel
theorem d_W_put_26 : decode prog_5_method_11_code 26 = .ok (.iload_n 3, 1) := by decide +kernel
theorem d_W_put_27 : decode prog_5_method_11_code 27 = .ok (.invokestatic 117, 3) := by decide +kernel
theorem d_W_put_30 : decode prog_5_method_11_code 30 = .ok (.aload_n 0, 1) := by decide +kernel
theorem d_W_put_31 : decode prog_5_method_11_code 31 = .ok (.dup, 1) := by decide +kernel
theorem d_W_put_32 : decode prog_5_method_11_code 32 = .ok (.getfield 15, 3) := by decide +kernel
theorem d_W_put_35 : decode prog_5_method_11_code 35 = .ok (.iload_n 3, 1) := by decide +kernel
theorem d_W_put_36 : decode prog_5_method_11_code 36 = .ok (.iadd, 1) := by decide +kernel
theorem d_W_put_37 : decode prog_5_method_11_code 37 = .ok (.putfield 15, 3) := by decide +kernel
theorem d_W_put_40 : decode prog_5_method_11_code 40 = .ok (.return_, 1) := by decide +kernel
abbrev T_W_put : List (Nat × ct_PT) := [(0, o_aload 0 1), (1, o_aload 0 1), (2, o_getR 3 3 1), (5, o_aload 0 1), (6, o_getI 3 3 2), (9, o_iload 3 1), (10, o_ii fun x y => x + y), (14, o_putR 3 3 1), (17, o_aload 0 1), (18, o_getR 3 3 1), (21, o_aload 0 1), (22, o_getI 3 3 2), (25, o_lload 1 1), (26, o_iload 3 1), (30, o_aload 0 1), (31, o_dup), (32, o_getI 3 3 2), (35, o_iload 3 1), (36, o_ii fun x y => x + y), (37, o_putI 3 3 2)]
set_option maxRecDepth 100000 in
theorem A_W_put (l : ct_Lx) : ct_al l M_W_put (T_W_put) := by
  refine ct_al.cons (so_aload_n d_W_put_0 rfl) ?_
  refine ct_al.cons (so_aload_n d_W_put_1 rfl) ?_
  refine ct_al.cons (so_getR (Cn := "CodeTables$Writer") (T := ct_T3) kc_3 (by decide) rfl rfl wd_196 d_W_put_2) ?_
  refine ct_al.cons (so_aload_n d_W_put_5 rfl) ?_
  refine ct_al.cons (so_getI (Cn := "CodeTables$Writer") (T := ct_T3) kc_3 (by decide) rfl rfl wd_197 d_W_put_6) ?_
  refine ct_al.cons (so_iload_n d_W_put_9 rfl) ?_
  refine ct_al.cons (so_iadd d_W_put_10) ?_
  refine ct_al.cons (so_putR (Cn := "CodeTables$Writer") (T := ct_T3) kc_3 (by decide) (Or.inr ⟨_, rfl⟩) rfl (Or.inl rfl) wd_196 d_W_put_14) ?_
  refine ct_al.cons (so_aload_n d_W_put_17 rfl) ?_
  refine ct_al.cons (so_getR (Cn := "CodeTables$Writer") (T := ct_T3) kc_3 (by decide) rfl rfl wd_196 d_W_put_18) ?_
  refine ct_al.cons (so_aload_n d_W_put_21 rfl) ?_
  refine ct_al.cons (so_getI (Cn := "CodeTables$Writer") (T := ct_T3) kc_3 (by decide) rfl rfl wd_197 d_W_put_22) ?_
  refine ct_al.cons (so_lload_n d_W_put_25 rfl) ?_
  refine ct_al.cons (so_iload_n d_W_put_26 rfl) ?_
  refine ct_al.cons (so_aload_n d_W_put_30 rfl) ?_
  refine ct_al.cons (so_dup d_W_put_31) ?_
  refine ct_al.cons (so_getI (Cn := "CodeTables$Writer") (T := ct_T3) kc_3 (by decide) rfl rfl wd_197 d_W_put_32) ?_
  refine ct_al.cons (so_iload_n d_W_put_35 rfl) ?_
  refine ct_al.cons (so_iadd d_W_put_36) ?_
  refine ct_al.cons (so_putI (Cn := "CodeTables$Writer") (T := ct_T3) kc_3 (by decide) rfl rfl (Or.inl rfl) wd_197 d_W_put_37) ?_
  exact ct_al.nil
theorem e_W_put_0 : ct_tab (T_W_put) 0 = some (o_aload 0 1) := rfl
theorem e_W_put_1 : ct_tab (T_W_put) 1 = some (o_aload 0 1) := rfl
theorem e_W_put_2 : ct_tab (T_W_put) 2 = some (o_getR 3 3 1) := rfl
theorem e_W_put_5 : ct_tab (T_W_put) 5 = some (o_aload 0 1) := rfl
theorem e_W_put_6 : ct_tab (T_W_put) 6 = some (o_getI 3 3 2) := rfl
theorem e_W_put_9 : ct_tab (T_W_put) 9 = some (o_iload 3 1) := rfl
theorem e_W_put_10 : ct_tab (T_W_put) 10 = some (o_ii fun x y => x + y) := rfl
theorem e_W_put_14 : ct_tab (T_W_put) 14 = some (o_putR 3 3 1) := rfl
theorem e_W_put_17 : ct_tab (T_W_put) 17 = some (o_aload 0 1) := rfl
theorem e_W_put_18 : ct_tab (T_W_put) 18 = some (o_getR 3 3 1) := rfl
theorem e_W_put_21 : ct_tab (T_W_put) 21 = some (o_aload 0 1) := rfl
theorem e_W_put_22 : ct_tab (T_W_put) 22 = some (o_getI 3 3 2) := rfl
theorem e_W_put_25 : ct_tab (T_W_put) 25 = some (o_lload 1 1) := rfl
theorem e_W_put_26 : ct_tab (T_W_put) 26 = some (o_iload 3 1) := rfl
theorem e_W_put_30 : ct_tab (T_W_put) 30 = some (o_aload 0 1) := rfl
theorem e_W_put_31 : ct_tab (T_W_put) 31 = some (o_dup) := rfl
theorem e_W_put_32 : ct_tab (T_W_put) 32 = some (o_getI 3 3 2) := rfl
theorem e_W_put_35 : ct_tab (T_W_put) 35 = some (o_iload 3 1) := rfl
theorem e_W_put_36 : ct_tab (T_W_put) 36 = some (o_ii fun x y => x + y) := rfl
theorem e_W_put_37 : ct_tab (T_W_put) 37 = some (o_putI 3 3 2) := rfl
theorem cl_W_put_11 {l : ct_Lx} {d d1 : Nat} {Post Post1 : Option Value → ct_Sg → Prop} {lv : ct_Lv} {st : List Value} {g : ct_Sg} {bc bs c1 s1 : Nat} {a1 a2 : Value} (hM : ct_Me l M_X_withRoom d1 c1 s1 [a1, a2] g Post1) (hdd : d1 + 1 ≤ d) (hk : (st.map fun v => v.category).sum ≤ 8) (hcc : c1 ≤ bc) (hss : s1 ≤ bs) (kk : ∀ (v : Option Value) (g' : ct_Sg), Post1 v g' → ct_Wp l M_W_put d Post (14, lv, v.toList ++ st, g', bc - c1, bs - s1)) : ct_Wp l M_W_put d Post (11, lv, a2 :: a1 :: st, g, bc, bs) := ct_Wp.callS (As := [a1, a2]) lk_X_withRoom (Or.inr ⟨"CodeTables", nw_2⟩) wd_267 d_W_put_11 hM rfl hdd hk hcc hss kk
theorem cl_W_put_27 {l : ct_Lx} {d d1 : Nat} {Post Post1 : Option Value → ct_Sg → Prop} {lv : ct_Lv} {st : List Value} {g : ct_Sg} {bc bs c1 s1 : Nat} {a1 a2 a3 a4 : Value} (hM : ct_Me l M_X_putBytes d1 c1 s1 [a1, a2, a3, a4] g Post1) (hdd : d1 + 1 ≤ d) (hk : (st.map fun v => v.category).sum ≤ 8) (hcc : c1 ≤ bc) (hss : s1 ≤ bs) (kk : ∀ (v : Option Value) (g' : ct_Sg), Post1 v g' → ct_Wp l M_W_put d Post (30, lv, v.toList ++ st, g', bc - c1, bs - s1)) : ct_Wp l M_W_put d Post (27, lv, a4 :: a3 :: a2 :: a1 :: st, g, bc, bs) := ct_Wp.callS (As := [a1, a2, a3, a4]) lk_X_putBytes (Or.inr ⟨"CodeTables", nw_3⟩) wd_270 d_W_put_27 hM rfl hdd hk hcc hss kk
