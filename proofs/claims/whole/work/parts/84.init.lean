/-! CONSTRUCTORS: the world grows cell by cell; all its numbers are 0 -/
def q_sh (n h : Nat) : Nat × Nat := if h < 10 + n then c_sh h else (0, 0)
def q_i : Nat → Nat → Int32 := fun _ _ => 0
def q_l : Nat → Nat → Int64 := fun _ _ => 0
def q_r0 : Nat → Nat → Option Nat := fun _ _ => none
theorem q_z (h k : Nat) : ct_u2 q_i h k 0 = q_i := by
  funext a b; unfold ct_u2 q_i; split <;> rfl
theorem q_mk {n kd N : Nat} {r : Nat → Nat → Option Nat} (hs : c_sh (n + 10) = (kd, N)) (hr : r (n + 10) = fun _ => none) : ct_mk (n, q_sh n, q_i, q_l, r) kd N = (n + 1, q_sh (n + 1), q_i, q_l, r) := by
  unfold ct_mk
  refine Prod.ext rfl (Prod.ext ?_ (Prod.ext ?_ (Prod.ext ?_ ?_)))
  · funext h
    show ct_ur (q_sh n) (n + 10) (kd, N) h = q_sh (n + 1) h
    unfold ct_ur q_sh
    by_cases e : h = n + 10
    · rw [if_pos e, if_pos (by omega), e, hs]
    · rw [if_neg e]
      by_cases e2 : h < 10 + n
      · rw [if_pos e2, if_pos (by omega)]
      · rw [if_neg e2, if_neg (by omega)]
  · funext h k
    show ct_ur q_i (n + 10) (fun _ => 0) h k = 0
    unfold ct_ur; split <;> rfl
  · funext h k
    show ct_ur q_l (n + 10) (fun _ => 0) h k = 0
    unfold ct_ur; split <;> rfl
  · funext h
    show ct_ur r (n + 10) (fun _ => none) h = r h
    unfold ct_ur; split
    · rename_i e; rw [e, hr]
    · rfl
def q_r1 : Nat → Nat → Option Nat := ct_u2 q_r0 10 0 (some 11)
theorem q_p0 : ct_u2 q_r0 10 0 (some 11) = q_r1 := rfl
def q_r2 : Nat → Nat → Option Nat := ct_u2 q_r1 12 0 (some 13)
theorem q_p1 : ct_u2 q_r1 12 0 (some 13) = q_r2 := rfl
def q_r3 : Nat → Nat → Option Nat := ct_u2 q_r2 12 1 (some 14)
theorem q_p2 : ct_u2 q_r2 12 1 (some 14) = q_r3 := rfl
def q_r4 : Nat → Nat → Option Nat := ct_u2 q_r3 12 2 (some 15)
theorem q_p3 : ct_u2 q_r3 12 2 (some 15) = q_r4 := rfl
def q_r5 : Nat → Nat → Option Nat := ct_u2 q_r4 12 3 (some 16)
theorem q_p4 : ct_u2 q_r4 12 3 (some 16) = q_r5 := rfl
def q_r6 : Nat → Nat → Option Nat := ct_u2 q_r5 12 4 (some 17)
theorem q_p5 : ct_u2 q_r5 12 4 (some 17) = q_r6 := rfl
def q_r7 : Nat → Nat → Option Nat := ct_u2 q_r6 12 5 (some 18)
theorem q_p6 : ct_u2 q_r6 12 5 (some 18) = q_r7 := rfl
def q_r8 : Nat → Nat → Option Nat := ct_u2 q_r7 12 6 (some 19)
theorem q_p7 : ct_u2 q_r7 12 6 (some 19) = q_r8 := rfl
def q_r9 : Nat → Nat → Option Nat := ct_u2 q_r8 12 7 (some 20)
theorem q_p8 : ct_u2 q_r8 12 7 (some 20) = q_r9 := rfl
def q_r10 : Nat → Nat → Option Nat := ct_u2 q_r9 12 8 (some 21)
theorem q_p9 : ct_u2 q_r9 12 8 (some 21) = q_r10 := rfl
def q_r11 : Nat → Nat → Option Nat := ct_u2 q_r10 12 9 (some 22)
theorem q_p10 : ct_u2 q_r10 12 9 (some 22) = q_r11 := rfl
def q_r12 : Nat → Nat → Option Nat := ct_u2 q_r11 10 4 (some 12)
theorem q_p11 : ct_u2 q_r11 10 4 (some 12) = q_r12 := rfl
def q_r13 : Nat → Nat → Option Nat := ct_u2 q_r12 23 1 (some 24)
theorem q_p12 : ct_u2 q_r12 23 1 (some 24) = q_r13 := rfl
def q_r14 : Nat → Nat → Option Nat := ct_u2 q_r13 23 2 (some 25)
theorem q_p13 : ct_u2 q_r13 23 2 (some 25) = q_r14 := rfl
def q_r15 : Nat → Nat → Option Nat := ct_u2 q_r14 23 3 (some 26)
theorem q_p14 : ct_u2 q_r14 23 3 (some 26) = q_r15 := rfl
def q_r16 : Nat → Nat → Option Nat := ct_u2 q_r15 23 0 (some 12)
theorem q_p15 : ct_u2 q_r15 23 0 (some 12) = q_r16 := rfl
def q_r17 : Nat → Nat → Option Nat := ct_u2 q_r16 10 5 (some 23)
theorem q_p16 : ct_u2 q_r16 10 5 (some 23) = q_r17 := rfl
def q_r18 : Nat → Nat → Option Nat := ct_u2 q_r17 27 1 (some 28)
theorem q_p17 : ct_u2 q_r17 27 1 (some 28) = q_r18 := rfl
def q_r19 : Nat → Nat → Option Nat := ct_u2 q_r18 27 0 (some 12)
theorem q_p18 : ct_u2 q_r18 27 0 (some 12) = q_r19 := rfl
def q_r20 : Nat → Nat → Option Nat := ct_u2 q_r19 10 6 (some 27)
theorem q_p19 : ct_u2 q_r19 10 6 (some 27) = q_r20 := rfl
def q_r21 : Nat → Nat → Option Nat := ct_u2 q_r20 29 0 (some 30)
theorem q_p20 : ct_u2 q_r20 29 0 (some 30) = q_r21 := rfl
def q_r22 : Nat → Nat → Option Nat := ct_u2 q_r21 29 2 (some 31)
theorem q_p21 : ct_u2 q_r21 29 2 (some 31) = q_r22 := rfl
def q_r23 : Nat → Nat → Option Nat := ct_u2 q_r22 29 15 (some 32)
theorem q_p22 : ct_u2 q_r22 29 15 (some 32) = q_r23 := rfl
def q_r24 : Nat → Nat → Option Nat := ct_u2 q_r23 29 16 (some 33)
theorem q_p23 : ct_u2 q_r23 29 16 (some 33) = q_r24 := rfl
def q_r25 : Nat → Nat → Option Nat := ct_u2 q_r24 29 17 (some 34)
theorem q_p24 : ct_u2 q_r24 29 17 (some 34) = q_r25 := rfl
def q_r26 : Nat → Nat → Option Nat := ct_u2 q_r25 29 18 (some 35)
theorem q_p25 : ct_u2 q_r25 29 18 (some 35) = q_r26 := rfl
def q_r27 : Nat → Nat → Option Nat := ct_u2 q_r26 29 19 (some 36)
theorem q_p26 : ct_u2 q_r26 29 19 (some 36) = q_r27 := rfl
def q_r28 : Nat → Nat → Option Nat := ct_u2 q_r27 29 20 (some 37)
theorem q_p27 : ct_u2 q_r27 29 20 (some 37) = q_r28 := rfl
def q_r29 : Nat → Nat → Option Nat := ct_u2 q_r28 29 21 (some 38)
theorem q_p28 : ct_u2 q_r28 29 21 (some 38) = q_r29 := rfl
def q_r30 : Nat → Nat → Option Nat := ct_u2 q_r29 29 23 (some 39)
theorem q_p29 : ct_u2 q_r29 29 23 (some 39) = q_r30 := rfl
theorem q_m3_1 : ct_mk (3, q_sh 3, q_i, q_l, q_r1) 1 7 = (4, q_sh 4, q_i, q_l, q_r1) := q_mk rfl rfl
theorem q_c7 : (7 : Int32).toNatClampNeg = 7 := by decide +kernel
theorem q_n7 : ((7 : Int32) < 0) = False := by decide +kernel
theorem q_s4_12 : q_sh 4 12 = (11, 10) := rfl
theorem q_m4_2 : ct_mk (4, q_sh 4, q_i, q_l, q_r2) 1 256 = (5, q_sh 5, q_i, q_l, q_r2) := q_mk rfl rfl
theorem q_c256 : (256 : Int32).toNatClampNeg = 256 := by decide +kernel
theorem q_n256 : ((256 : Int32) < 0) = False := by decide +kernel
theorem q_s5_12 : q_sh 5 12 = (11, 10) := rfl
theorem q_m5_3 : ct_mk (5, q_sh 5, q_i, q_l, q_r3) 3 512 = (6, q_sh 6, q_i, q_l, q_r3) := q_mk rfl rfl
theorem q_c512 : (512 : Int32).toNatClampNeg = 512 := by decide +kernel
theorem q_n512 : ((512 : Int32) < 0) = False := by decide +kernel
theorem q_s6_12 : q_sh 6 12 = (11, 10) := rfl
theorem q_m6_4 : ct_mk (6, q_sh 6, q_i, q_l, q_r4) 1 672 = (7, q_sh 7, q_i, q_l, q_r4) := q_mk rfl rfl
theorem q_c672 : (672 : Int32).toNatClampNeg = 672 := by decide +kernel
theorem q_n672 : ((672 : Int32) < 0) = False := by decide +kernel
theorem q_s7_12 : q_sh 7 12 = (11, 10) := rfl
theorem q_m7_5 : ct_mk (7, q_sh 7, q_i, q_l, q_r5) 3 4608 = (8, q_sh 8, q_i, q_l, q_r5) := q_mk rfl rfl
theorem q_c4608 : (4608 : Int32).toNatClampNeg = 4608 := by decide +kernel
theorem q_n4608 : ((4608 : Int32) < 0) = False := by decide +kernel
theorem q_s8_12 : q_sh 8 12 = (11, 10) := rfl
theorem q_m8_6 : ct_mk (8, q_sh 8, q_i, q_l, q_r6) 3 32 = (9, q_sh 9, q_i, q_l, q_r6) := q_mk rfl rfl
theorem q_c32 : (32 : Int32).toNatClampNeg = 32 := by decide +kernel
theorem q_n32 : ((32 : Int32) < 0) = False := by decide +kernel
theorem q_s9_12 : q_sh 9 12 = (11, 10) := rfl
theorem q_m9_7 : ct_mk (9, q_sh 9, q_i, q_l, q_r7) 1 64 = (10, q_sh 10, q_i, q_l, q_r7) := q_mk rfl rfl
theorem q_c64 : (64 : Int32).toNatClampNeg = 64 := by decide +kernel
theorem q_n64 : ((64 : Int32) < 0) = False := by decide +kernel
theorem q_s10_12 : q_sh 10 12 = (11, 10) := rfl
theorem q_m10_8 : ct_mk (10, q_sh 10, q_i, q_l, q_r8) 2 8192 = (11, q_sh 11, q_i, q_l, q_r8) := q_mk rfl rfl
theorem q_c8192 : (8192 : Int32).toNatClampNeg = 8192 := by decide +kernel
theorem q_n8192 : ((8192 : Int32) < 0) = False := by decide +kernel
theorem q_s11_12 : q_sh 11 12 = (11, 10) := rfl
theorem q_m11_9 : ct_mk (11, q_sh 11, q_i, q_l, q_r9) 3 8192 = (12, q_sh 12, q_i, q_l, q_r9) := q_mk rfl rfl
theorem q_s12_12 : q_sh 12 12 = (11, 10) := rfl
theorem q_m12_10 : ct_mk (12, q_sh 12, q_i, q_l, q_r10) 3 8192 = (13, q_sh 13, q_i, q_l, q_r10) := q_mk rfl rfl
theorem q_s13_12 : q_sh 13 12 = (11, 10) := rfl
set_option maxHeartbeats 800000 in
set_option maxRecDepth 100000 in
theorem sp_T_init (l : ct_Lx) : ct_Me l M_T_init 2 10 30727 [.ref 12] (3, q_sh 3, q_i, q_l, q_r1) (fun v g => v = none ∧ g = (13, q_sh 13, q_i, q_l, q_r11)) := by
  refine ct_Me.of (by decide) (Nat.le_of_ble_eq_true rfl) (fun v g h => by rw [h.1]; rfl) ?_
  refine ct_Wp.go (A_T_init l) (by decide) [] 80 (fun K hK => ?_)
  simp only [ct_run_s, ct_nx_s, ct_hp, ct_lg, ct_s1, ct_d1, ct_s2, ct_d2, lv_args, Value.category, ct_u2_get, Option.toList, List.cons_append, List.nil_append, Nat.reduceAdd, Nat.reduceSub, Nat.reduceMul, Nat.reduceEqDiff, Nat.reduceLeDiff, Nat.reduceLT, true_and, and_true, and_self, if_true, if_false, reduceCtorEq, Prod.mk.injEq, List.length_cons, List.length_nil, false_and, and_false, not_false_eq_true, not_true_eq_false, true_implies, false_implies, implies_true, Bool.false_eq_true, ite_true, ite_false, reduceIte, or_true, true_or, or_false, false_or, o_aload, o_newa, o_oinit, o_push, o_putR, e_T_init_0, e_T_init_1, e_T_init_4, e_T_init_5, e_T_init_7, e_T_init_9, e_T_init_12, e_T_init_13, e_T_init_16, e_T_init_18, e_T_init_21, e_T_init_22, e_T_init_25, e_T_init_27, e_T_init_30, e_T_init_31, e_T_init_34, e_T_init_36, e_T_init_39, e_T_init_40, e_T_init_43, e_T_init_45, e_T_init_48, e_T_init_49, e_T_init_51, e_T_init_53, e_T_init_56, e_T_init_57, e_T_init_59, e_T_init_61, e_T_init_64, e_T_init_65, e_T_init_68, e_T_init_70, e_T_init_73, e_T_init_74, e_T_init_77, e_T_init_79, e_T_init_82, e_T_init_83, e_T_init_86, e_T_init_88, z_T_init_91, q_m3_1, q_c7, q_n7, q_s4_12, q_p1, q_m4_2, q_c256, q_n256, q_s5_12, q_p2, q_m5_3, q_c512, q_n512, q_s6_12, q_p3, q_m6_4, q_c672, q_n672, q_s7_12, q_p4, q_m7_5, q_c4608, q_n4608, q_s8_12, q_p5, q_m8_6, q_c32, q_n32, q_s9_12, q_p6, q_m9_7, q_c64, q_n64, q_s10_12, q_p7, q_m10_8, q_c8192, q_n8192, q_s11_12, q_p8, q_m11_9, q_c8192, q_n8192, q_s12_12, q_p9, q_m12_10, q_c8192, q_n8192, q_s13_12, q_p10, q_z]
  exact hK _ (ct_Wp.ret none rfl d_T_init_91 ⟨rfl, rfl⟩)
theorem q_m14_12 : ct_mk (14, q_sh 14, q_i, q_l, q_r12) 1 32 = (15, q_sh 15, q_i, q_l, q_r12) := q_mk rfl rfl
theorem q_s15_23 : q_sh 15 23 = (12, 9) := rfl
theorem q_m15_13 : ct_mk (15, q_sh 15, q_i, q_l, q_r13) 1 32 = (16, q_sh 16, q_i, q_l, q_r13) := q_mk rfl rfl
theorem q_s16_23 : q_sh 16 23 = (12, 9) := rfl
theorem q_m16_14 : ct_mk (16, q_sh 16, q_i, q_l, q_r14) 2 0 = (17, q_sh 17, q_i, q_l, q_r14) := q_mk rfl rfl
theorem q_c0 : (0 : Int32).toNatClampNeg = 0 := by decide +kernel
theorem q_n0 : ((0 : Int32) < 0) = False := by decide +kernel
theorem q_s17_23 : q_sh 17 23 = (12, 9) := rfl
set_option maxHeartbeats 800000 in
set_option maxRecDepth 100000 in
theorem sp_R_init (l : ct_Lx) : ct_Me l M_R_init 2 3 64 [.ref 23, .ref 12] (14, q_sh 14, q_i, q_l, q_r12) (fun v g => v = none ∧ g = (17, q_sh 17, q_i, q_l, q_r16)) := by
  refine ct_Me.of (by decide) (Nat.le_of_ble_eq_true rfl) (fun v g h => by rw [h.1]; rfl) ?_
  refine ct_Wp.go (A_R_init l) (by decide) [] 80 (fun K hK => ?_)
  simp only [ct_run_s, ct_nx_s, ct_hp, ct_lg, ct_s1, ct_d1, ct_s2, ct_d2, lv_args, Value.category, ct_u2_get, Option.toList, List.cons_append, List.nil_append, Nat.reduceAdd, Nat.reduceSub, Nat.reduceMul, Nat.reduceEqDiff, Nat.reduceLeDiff, Nat.reduceLT, true_and, and_true, and_self, if_true, if_false, reduceCtorEq, Prod.mk.injEq, List.length_cons, List.length_nil, false_and, and_false, not_false_eq_true, not_true_eq_false, true_implies, false_implies, implies_true, Bool.false_eq_true, ite_true, ite_false, reduceIte, or_true, true_or, or_false, false_or, o_aload, o_newa, o_oinit, o_push, o_putI, o_putR, o_putZ, e_R_init_0, e_R_init_1, e_R_init_4, e_R_init_5, e_R_init_7, e_R_init_9, e_R_init_12, e_R_init_13, e_R_init_15, e_R_init_17, e_R_init_20, e_R_init_21, e_R_init_22, e_R_init_24, e_R_init_27, e_R_init_28, e_R_init_29, e_R_init_32, e_R_init_33, e_R_init_34, e_R_init_37, e_R_init_38, e_R_init_39, e_R_init_42, e_R_init_43, e_R_init_44, e_R_init_47, e_R_init_48, e_R_init_49, e_R_init_52, e_R_init_53, e_R_init_54, z_R_init_57, q_m14_12, q_c32, q_n32, q_s15_23, q_p12, q_m15_13, q_c32, q_n32, q_s16_23, q_p13, q_m16_14, q_c0, q_n0, q_s17_23, q_p14, q_s17_23, q_p15, q_z]
  exact hK _ (ct_Wp.ret none rfl d_R_init_57 ⟨rfl, rfl⟩)
theorem q_m18_17 : ct_mk (18, q_sh 18, q_i, q_l, q_r17) 2 4096 = (19, q_sh 19, q_i, q_l, q_r17) := q_mk rfl rfl
theorem q_c4096 : (4096 : Int32).toNatClampNeg = 4096 := by decide +kernel
theorem q_n4096 : ((4096 : Int32) < 0) = False := by decide +kernel
theorem q_s19_27 : q_sh 19 27 = (13, 3) := rfl
set_option maxHeartbeats 800000 in
set_option maxRecDepth 100000 in
theorem sp_W_init (l : ct_Lx) : ct_Me l M_W_init 2 1 4096 [.ref 27, .ref 12] (18, q_sh 18, q_i, q_l, q_r17) (fun v g => v = none ∧ g = (19, q_sh 19, q_i, q_l, q_r19)) := by
  refine ct_Me.of (by decide) (Nat.le_of_ble_eq_true rfl) (fun v g h => by rw [h.1]; rfl) ?_
  refine ct_Wp.go (A_W_init l) (by decide) [] 80 (fun K hK => ?_)
  simp only [ct_run_s, ct_nx_s, ct_hp, ct_lg, ct_s1, ct_d1, ct_s2, ct_d2, lv_args, Value.category, ct_u2_get, Option.toList, List.cons_append, List.nil_append, Nat.reduceAdd, Nat.reduceSub, Nat.reduceMul, Nat.reduceEqDiff, Nat.reduceLeDiff, Nat.reduceLT, true_and, and_true, and_self, if_true, if_false, reduceCtorEq, Prod.mk.injEq, List.length_cons, List.length_nil, false_and, and_false, not_false_eq_true, not_true_eq_false, true_implies, false_implies, implies_true, Bool.false_eq_true, ite_true, ite_false, reduceIte, or_true, true_or, or_false, false_or, o_aload, o_newa, o_oinit, o_push, o_putI, o_putR, e_W_init_0, e_W_init_1, e_W_init_4, e_W_init_5, e_W_init_8, e_W_init_10, e_W_init_13, e_W_init_14, e_W_init_15, e_W_init_18, e_W_init_19, e_W_init_20, z_W_init_23, q_m18_17, q_c4096, q_n4096, q_s19_27, q_p17, q_s19_27, q_p18, q_z]
  exact hK _ (ct_Wp.ret none rfl d_W_init_23 ⟨rfl, rfl⟩)
theorem q_m20_20 : ct_mk (20, q_sh 20, q_i, q_l, q_r20) 2 65536 = (21, q_sh 21, q_i, q_l, q_r20) := q_mk rfl rfl
theorem q_c65536 : (65536 : Int32).toNatClampNeg = 65536 := by decide +kernel
theorem q_n65536 : ((65536 : Int32) < 0) = False := by decide +kernel
theorem q_s21_29 : q_sh 21 29 = (14, 24) := rfl
theorem q_m21_21 : ct_mk (21, q_sh 21, q_i, q_l, q_r21) 2 65536 = (22, q_sh 22, q_i, q_l, q_r21) := q_mk rfl rfl
theorem q_s22_29 : q_sh 22 29 = (14, 24) := rfl
theorem q_m22_22 : ct_mk (22, q_sh 22, q_i, q_l, q_r22) 1 64 = (23, q_sh 23, q_i, q_l, q_r22) := q_mk rfl rfl
theorem q_s23_29 : q_sh 23 29 = (14, 24) := rfl
theorem q_m23_23 : ct_mk (23, q_sh 23, q_i, q_l, q_r23) 1 32 = (24, q_sh 24, q_i, q_l, q_r23) := q_mk rfl rfl
theorem q_s24_29 : q_sh 24 29 = (14, 24) := rfl
theorem q_m24_24 : ct_mk (24, q_sh 24, q_i, q_l, q_r24) 1 32 = (25, q_sh 25, q_i, q_l, q_r24) := q_mk rfl rfl
theorem q_s25_29 : q_sh 25 29 = (14, 24) := rfl
theorem q_m25_25 : ct_mk (25, q_sh 25, q_i, q_l, q_r25) 1 64 = (26, q_sh 26, q_i, q_l, q_r25) := q_mk rfl rfl
theorem q_s26_29 : q_sh 26 29 = (14, 24) := rfl
theorem q_m26_26 : ct_mk (26, q_sh 26, q_i, q_l, q_r26) 1 65 = (27, q_sh 27, q_i, q_l, q_r26) := q_mk rfl rfl
theorem q_c65 : (65 : Int32).toNatClampNeg = 65 := by decide +kernel
theorem q_n65 : ((65 : Int32) < 0) = False := by decide +kernel
theorem q_s27_29 : q_sh 27 29 = (14, 24) := rfl
theorem q_m27_27 : ct_mk (27, q_sh 27, q_i, q_l, q_r27) 1 8193 = (28, q_sh 28, q_i, q_l, q_r27) := q_mk rfl rfl
theorem q_c8193 : (8193 : Int32).toNatClampNeg = 8193 := by decide +kernel
theorem q_n8193 : ((8193 : Int32) < 0) = False := by decide +kernel
theorem q_s28_29 : q_sh 28 29 = (14, 24) := rfl
theorem q_m28_28 : ct_mk (28, q_sh 28, q_i, q_l, q_r28) 2 65536 = (29, q_sh 29, q_i, q_l, q_r28) := q_mk rfl rfl
theorem q_s29_29 : q_sh 29 29 = (14, 24) := rfl
theorem q_m29_29 : ct_mk (29, q_sh 29, q_i, q_l, q_r29) 4 32 = (30, q_sh 30, q_i, q_l, q_r29) := q_mk rfl rfl
theorem q_s30_29 : q_sh 30 29 = (14, 24) := rfl
set_option maxHeartbeats 800000 in
set_option maxRecDepth 100000 in
theorem sp_M_init (l : ct_Lx) : ct_Me l M_M_init 2 10 205090 [.ref 29] (20, q_sh 20, q_i, q_l, q_r20) (fun v g => v = none ∧ g = (30, q_sh 30, q_i, q_l, q_r30)) := by
  refine ct_Me.of (by decide) (Nat.le_of_ble_eq_true rfl) (fun v g h => by rw [h.1]; rfl) ?_
  refine ct_Wp.go (A_M_init l) (by decide) [] 80 (fun K hK => ?_)
  simp only [ct_run_s, ct_nx_s, ct_hp, ct_lg, ct_s1, ct_d1, ct_s2, ct_d2, lv_args, Value.category, ct_u2_get, Option.toList, List.cons_append, List.nil_append, Nat.reduceAdd, Nat.reduceSub, Nat.reduceMul, Nat.reduceEqDiff, Nat.reduceLeDiff, Nat.reduceLT, true_and, and_true, and_self, if_true, if_false, reduceCtorEq, Prod.mk.injEq, List.length_cons, List.length_nil, false_and, and_false, not_false_eq_true, not_true_eq_false, true_implies, false_implies, implies_true, Bool.false_eq_true, ite_true, ite_false, reduceIte, or_true, true_or, or_false, false_or, o_aload, o_newa, o_oinit, o_push, o_putR, e_M_init_0, e_M_init_1, e_M_init_4, e_M_init_5, e_M_init_7, e_M_init_9, e_M_init_12, e_M_init_13, e_M_init_15, e_M_init_17, e_M_init_20, e_M_init_21, e_M_init_23, e_M_init_25, e_M_init_28, e_M_init_29, e_M_init_31, e_M_init_33, e_M_init_36, e_M_init_37, e_M_init_39, e_M_init_41, e_M_init_44, e_M_init_45, e_M_init_47, e_M_init_49, e_M_init_52, e_M_init_53, e_M_init_55, e_M_init_57, e_M_init_60, e_M_init_61, e_M_init_64, e_M_init_66, e_M_init_69, e_M_init_70, e_M_init_72, e_M_init_74, e_M_init_77, e_M_init_78, e_M_init_80, e_M_init_82, z_M_init_85, q_m20_20, q_c65536, q_n65536, q_s21_29, q_p20, q_m21_21, q_c65536, q_n65536, q_s22_29, q_p21, q_m22_22, q_c64, q_n64, q_s23_29, q_p22, q_m23_23, q_c32, q_n32, q_s24_29, q_p23, q_m24_24, q_c32, q_n32, q_s25_29, q_p24, q_m25_25, q_c64, q_n64, q_s26_29, q_p25, q_m26_26, q_c65, q_n65, q_s27_29, q_p26, q_m27_27, q_c8193, q_n8193, q_s28_29, q_p27, q_m28_28, q_c65536, q_n65536, q_s29_29, q_p28, q_m29_29, q_c32, q_n32, q_s30_29, q_p29, q_z]
  exact hK _ (ct_Wp.ret none rfl d_M_init_85 ⟨rfl, rfl⟩)
theorem q_m1_0 : ct_mk (1, q_sh 1, q_i, q_l, q_r0) 2 4096 = (2, q_sh 2, q_i, q_l, q_r0) := q_mk rfl rfl
theorem q_s2_10 : q_sh 2 10 = (10, 7) := rfl
theorem q_m2_1 : ct_mk (2, q_sh 2, q_i, q_l, q_r1) 11 10 = (3, q_sh 3, q_i, q_l, q_r1) := q_mk rfl rfl
theorem q_s3_10 : q_sh 3 10 = (10, 7) := rfl
theorem q_nar0 : vp_nar .boolean 0 = 0 := by decide
theorem q_s13_10 : q_sh 13 10 = (10, 7) := rfl
theorem q_m13_12 : ct_mk (13, q_sh 13, q_i, q_l, q_r12) 12 9 = (14, q_sh 14, q_i, q_l, q_r12) := q_mk rfl rfl
theorem q_g12_10_4 : q_r12 10 4 = some 12 := rfl
theorem q_s14_10 : q_sh 14 10 = (10, 7) := rfl
theorem q_s17_10 : q_sh 17 10 = (10, 7) := rfl
theorem q_m17_17 : ct_mk (17, q_sh 17, q_i, q_l, q_r17) 13 3 = (18, q_sh 18, q_i, q_l, q_r17) := q_mk rfl rfl
theorem q_g17_10_4 : q_r17 10 4 = some 12 := rfl
theorem q_s18_10 : q_sh 18 10 = (10, 7) := rfl
theorem q_s19_10 : q_sh 19 10 = (10, 7) := rfl
set_option maxHeartbeats 800000 in
set_option maxRecDepth 100000 in
theorem sp_X_init (l : ct_Lx) : ct_Me l M_X_init 3 18 39005 [.ref 10] (1, q_sh 1, q_i, q_l, q_r0) (fun v g => v = none ∧ g = (19, q_sh 19, q_i, q_l, q_r20)) := by
  refine ct_Me.of (by decide) (Nat.le_of_ble_eq_true rfl) (fun v g h => by rw [h.1]; rfl) ?_
  refine ct_Wp.go (A_X_init l) (by decide) [] 80 (fun K hK => ?_)
  simp only [ct_run_s, ct_nx_s, ct_hp, ct_lg, ct_s1, ct_d1, ct_s2, ct_d2, lv_args, Value.category, ct_u2_get, Option.toList, List.cons_append, List.nil_append, Nat.reduceAdd, Nat.reduceSub, Nat.reduceMul, Nat.reduceEqDiff, Nat.reduceLeDiff, Nat.reduceLT, true_and, and_true, and_self, if_true, if_false, reduceCtorEq, Prod.mk.injEq, List.length_cons, List.length_nil, false_and, and_false, not_false_eq_true, not_true_eq_false, true_implies, false_implies, implies_true, Bool.false_eq_true, ite_true, ite_false, reduceIte, or_true, true_or, or_false, false_or, o_aload, o_dup, o_getR, o_new, o_newa, o_oinit, o_push, o_putI, o_putR, o_putZ, e_X_init_0, e_X_init_1, e_X_init_4, e_X_init_5, e_X_init_8, e_X_init_10, e_X_init_13, e_X_init_14, e_X_init_15, e_X_init_18, e_X_init_19, e_X_init_20, e_X_init_23, e_X_init_24, e_X_init_25, e_X_init_28, e_X_init_29, e_X_init_32, e_X_init_36, e_X_init_39, e_X_init_40, e_X_init_43, e_X_init_44, e_X_init_45, e_X_init_51, e_X_init_54, e_X_init_55, e_X_init_58, e_X_init_59, e_X_init_60, e_X_init_66, z_X_init_33, z_X_init_48, z_X_init_63, z_X_init_69, q_m1_0, q_s2_10, q_p0, q_m2_1, q_s3_10, q_c4096, q_n4096, q_nar0, q_z]
  refine hK _ (cl_X_init_33 (sp_T_init l) (by decide) (Nat.le_of_ble_eq_true rfl) (by decide) (by decide) ?_)
  rintro w g ⟨rfl, rfl⟩
  refine ct_Wp.go (A_X_init l) (by decide) [] 80 (fun K hK => ?_)
  simp only [ct_run_s, ct_nx_s, ct_hp, ct_lg, ct_s1, ct_d1, ct_s2, ct_d2, lv_args, Value.category, ct_u2_get, Option.toList, List.cons_append, List.nil_append, Nat.reduceAdd, Nat.reduceSub, Nat.reduceMul, Nat.reduceEqDiff, Nat.reduceLeDiff, Nat.reduceLT, true_and, and_true, and_self, if_true, if_false, reduceCtorEq, Prod.mk.injEq, List.length_cons, List.length_nil, false_and, and_false, not_false_eq_true, not_true_eq_false, true_implies, false_implies, implies_true, Bool.false_eq_true, ite_true, ite_false, reduceIte, or_true, true_or, or_false, false_or, o_aload, o_dup, o_getR, o_new, o_newa, o_oinit, o_push, o_putI, o_putR, o_putZ, e_X_init_0, e_X_init_1, e_X_init_4, e_X_init_5, e_X_init_8, e_X_init_10, e_X_init_13, e_X_init_14, e_X_init_15, e_X_init_18, e_X_init_19, e_X_init_20, e_X_init_23, e_X_init_24, e_X_init_25, e_X_init_28, e_X_init_29, e_X_init_32, e_X_init_36, e_X_init_39, e_X_init_40, e_X_init_43, e_X_init_44, e_X_init_45, e_X_init_51, e_X_init_54, e_X_init_55, e_X_init_58, e_X_init_59, e_X_init_60, e_X_init_66, z_X_init_33, z_X_init_48, z_X_init_63, z_X_init_69, q_s13_10, q_p11, q_m13_12, q_g12_10_4, q_s14_10, q_z]
  refine hK _ (cl_X_init_48 (sp_R_init l) (by decide) (Nat.le_of_ble_eq_true rfl) (by decide) (by decide) ?_)
  rintro w g ⟨rfl, rfl⟩
  refine ct_Wp.go (A_X_init l) (by decide) [] 80 (fun K hK => ?_)
  simp only [ct_run_s, ct_nx_s, ct_hp, ct_lg, ct_s1, ct_d1, ct_s2, ct_d2, lv_args, Value.category, ct_u2_get, Option.toList, List.cons_append, List.nil_append, Nat.reduceAdd, Nat.reduceSub, Nat.reduceMul, Nat.reduceEqDiff, Nat.reduceLeDiff, Nat.reduceLT, true_and, and_true, and_self, if_true, if_false, reduceCtorEq, Prod.mk.injEq, List.length_cons, List.length_nil, false_and, and_false, not_false_eq_true, not_true_eq_false, true_implies, false_implies, implies_true, Bool.false_eq_true, ite_true, ite_false, reduceIte, or_true, true_or, or_false, false_or, o_aload, o_dup, o_getR, o_new, o_newa, o_oinit, o_push, o_putI, o_putR, o_putZ, e_X_init_0, e_X_init_1, e_X_init_4, e_X_init_5, e_X_init_8, e_X_init_10, e_X_init_13, e_X_init_14, e_X_init_15, e_X_init_18, e_X_init_19, e_X_init_20, e_X_init_23, e_X_init_24, e_X_init_25, e_X_init_28, e_X_init_29, e_X_init_32, e_X_init_36, e_X_init_39, e_X_init_40, e_X_init_43, e_X_init_44, e_X_init_45, e_X_init_51, e_X_init_54, e_X_init_55, e_X_init_58, e_X_init_59, e_X_init_60, e_X_init_66, z_X_init_33, z_X_init_48, z_X_init_63, z_X_init_69, q_s17_10, q_p16, q_m17_17, q_g17_10_4, q_s18_10, q_z]
  refine hK _ (cl_X_init_63 (sp_W_init l) (by decide) (Nat.le_of_ble_eq_true rfl) (by decide) (by decide) ?_)
  rintro w g ⟨rfl, rfl⟩
  refine ct_Wp.go (A_X_init l) (by decide) [] 80 (fun K hK => ?_)
  simp only [ct_run_s, ct_nx_s, ct_hp, ct_lg, ct_s1, ct_d1, ct_s2, ct_d2, lv_args, Value.category, ct_u2_get, Option.toList, List.cons_append, List.nil_append, Nat.reduceAdd, Nat.reduceSub, Nat.reduceMul, Nat.reduceEqDiff, Nat.reduceLeDiff, Nat.reduceLT, true_and, and_true, and_self, if_true, if_false, reduceCtorEq, Prod.mk.injEq, List.length_cons, List.length_nil, false_and, and_false, not_false_eq_true, not_true_eq_false, true_implies, false_implies, implies_true, Bool.false_eq_true, ite_true, ite_false, reduceIte, or_true, true_or, or_false, false_or, o_aload, o_dup, o_getR, o_new, o_newa, o_oinit, o_push, o_putI, o_putR, o_putZ, e_X_init_0, e_X_init_1, e_X_init_4, e_X_init_5, e_X_init_8, e_X_init_10, e_X_init_13, e_X_init_14, e_X_init_15, e_X_init_18, e_X_init_19, e_X_init_20, e_X_init_23, e_X_init_24, e_X_init_25, e_X_init_28, e_X_init_29, e_X_init_32, e_X_init_36, e_X_init_39, e_X_init_40, e_X_init_43, e_X_init_44, e_X_init_45, e_X_init_51, e_X_init_54, e_X_init_55, e_X_init_58, e_X_init_59, e_X_init_60, e_X_init_66, z_X_init_33, z_X_init_48, z_X_init_63, z_X_init_69, q_s19_10, q_p19, q_z]
  exact hK _ (ct_Wp.ret none rfl d_X_init_69 ⟨rfl, rfl⟩)
theorem q_sh_end : q_sh 30 = c_sh := by
  funext h
  unfold q_sh
  by_cases e : h < 40
  · rw [if_pos (by omega)]
  · rw [if_neg (by omega)]
    unfold c_sh
    repeat rw [if_neg (by omega)]
theorem q_r_end : q_r30 = c_R false := by
  funext h k
  by_cases e : h < 40 ∧ k < 24
  · have key : ∀ h, h < 40 → ∀ k, k < 24 → q_r30 h k = c_R false h k := by decide +kernel
    exact key h e.1 k e.2
  · unfold q_r30 q_r29 q_r28 q_r27 q_r26 q_r25 q_r24 q_r23 q_r22 q_r21 q_r20 q_r19 q_r18 q_r17 q_r16 q_r15 q_r14 q_r13 q_r12 q_r11 q_r10 q_r9 q_r8 q_r7 q_r6 q_r5 q_r4 q_r3 q_r2 q_r1 q_r0 c_R
    simp only [ct_u2_get]
    repeat rw [if_neg (by omega)]
theorem q_end : (30, q_sh 30, q_i, q_l, q_r30) = c_g q_i q_l false := by rw [q_sh_end, q_r_end]
