theorem ct_Wp.mono {l : ct_Lx} {M : ct_Mt} {d : Nat} {Post Post' : Option Value → ct_Sg → Prop} {cf : ct_Cf} (h : ct_Wp l M d Post cf) (hp : ∀ v g, Post v g → Post' v g) : ct_Wp l M d Post' cf :=
  fun p e R s m args below meth c G Q C hf hl hR => h p e R s m args below meth c G Q C hf hl (fun v g pc H locs ls cells slots hP => hR v g pc H locs ls cells slots (hp v g hP))
theorem m_nar_mod (x : Int32) : (vp_nar .byte x).toBitVec.toNat % 256 = x.toBitVec.toNat % 256 := by
  have h := bp_b x
  have h1 : (vp_nar .byte x) &&& 255 = x &&& 255 := h
  rw [pk_and (vp_nar .byte x) 8 rfl, pk_and x 8 rfl] at h1
  have h2 := congrArg (fun z : Int32 => z.toBitVec.toNat) h1
  have e : ∀ n : Nat, n < 256 → (nI n).toBitVec.toNat = n := fun n hn => pk_tn (by omega)
  rw [show (2 : Nat) ^ 8 = 256 from rfl] at h2
  rw [e _ (Nat.mod_lt _ (by decide)), e _ (Nat.mod_lt _ (by decide))] at h2
  exact h2
theorem m_sr (x : BitVec 64) {n : Nat} (hn : n ≤ 56) : (x.sshiftRight n).toNat % 256 = x.toNat / 2 ^ n % 256 := by
  have h : (x.sshiftRight n).setWidth 8 = (x >>> n).setWidth 8 := by
    apply BitVec.eq_of_getLsbD_eq
    intro i hi
    rw [BitVec.getLsbD_setWidth, BitVec.getLsbD_setWidth, BitVec.getLsbD_sshiftRight, BitVec.getLsbD_ushiftRight]
    have h1 : n + i < 64 := by omega
    have h2 : ¬ 64 ≤ i := by omega
    simp [h1, h2]
  have h3 := congrArg BitVec.toNat h
  rw [BitVec.toNat_setWidth, BitVec.toNat_setWidth, BitVec.toNat_ushiftRight, Nat.shiftRight_eq_div_pow] at h3
  exact h3
/-- a byte of a long, by the arithmetic shift -/
theorem m_sb : ∀ r, r ≤ 7 → ∀ X, X < 2 ^ 64 → (vp_nar .byte (lN X >>> ((8 * nI r).toInt64 &&& 63)).toInt32.toInt8.toInt32).toBitVec.toNat % 256 = X / 2 ^ (8 * r) % 256 := by
  intro r hr X hX
  have e1 : (8 : Int32) * nI r = nI (8 * r) := pk_mul 8 r
  rw [e1, wb_c (8 * r) (by omega)]
  obtain ⟨n, hn, e2⟩ := wb_of (lN X >>> lN (8 * r))
  have e3 : (lN X >>> lN (8 * r)).toBitVec.toNat = n := by rw [e2]; exact wb_tn hn
  have e4 : (lN X >>> lN (8 * r)).toBitVec = (lN X).toBitVec.sshiftRight (8 * r) := by
    show (lN X).toBitVec.sshiftRight' ((lN (8 * r)).toBitVec.smod 64) = _
    rw [wb_tb (8 * r), wb_sm (8 * r) (by omega)]
    show (lN X).toBitVec.sshiftRight (BitVec.ofNat 64 (8 * r)).toNat = _
    rw [BitVec.toNat_ofNat, Nat.mod_eq_of_lt (by omega)]
  rw [e2, lN_i]
  have e5 := c_by_mod n
  unfold c_by at e5
  rw [e5, ← e3, e4, m_sr _ (by omega), wb_tn hX]
theorem i32_dec (x : Int32) : x + (-1) = x - 1 := (Int32.sub_eq_add_neg ..).symm
def m_TR (I I' : Nat → Nat → Int32) (sz X r : Nat) : Prop := (∀ h, ¬ h = 30 → ¬ h = 29 → I' h = I h) ∧ (∀ k, ¬ k = 1 → I' 29 k = I 29 k) ∧ I' 29 1 = nI (sz + r) ∧ (∀ j, j < sz → I' 30 j = I 30 j) ∧ (∀ i, i < r → (I' 30 (sz + i)).toBitVec.toNat % 256 = X / 2 ^ (8 * (r - 1 - i)) % 256)
set_option maxHeartbeats 800000 in
set_option maxRecDepth 100000 in
theorem sp_M_type_loop (l : ct_Lx) (L : Nat → Nat → Int64) (b : Bool) {X : Nat} (hX : X < 2 ^ 64) (x : Int32) : ∀ (r sz : Nat) (I : Nat → Nat → Int32), r ≤ 8 → sz + r ≤ 4096 → I 29 1 = nI sz → ct_Wp l M_M_type 1 (fun v g => v = some (.int (nI (sz + r))) ∧ ∃ I', g = c_g I' L b ∧ m_TR I I' sz X r) (32, [(4, .int (nI r - 1)), (0, .ref 29), (1, .long (lN X)), (3, .int x)], [], c_g I L b, 0, 0) := by
  intro r
  induction r with
  | zero =>
    intro sz I hr hs h1
    have e1 : (nI 0 - 1 < 0) = True := by decide
    refine ct_Wp.go (A_M_type l) (by decide) [32] 80 (fun K hK => ?_)
    simp only [ct_run_s, ct_nx_s, ct_hp, ct_lg, ct_s1, ct_d1, ct_s2, ct_d2, lv_args, Value.category, ct_u2_get, Option.toList, List.cons_append, List.nil_append, Nat.reduceAdd, Nat.reduceSub, Nat.reduceMul, Nat.reduceEqDiff, Nat.reduceLeDiff, Nat.reduceLT, true_and, and_true, and_self, if_true, if_false, reduceCtorEq, Prod.mk.injEq, List.length_cons, List.length_nil, false_and, and_false, not_false_eq_true, not_true_eq_false, true_implies, false_implies, implies_true, Bool.false_eq_true, ite_true, ite_false, reduceIte, or_true, true_or, or_false, false_or, c_sh_10, c_sh_11, c_sh_12, c_sh_13, c_sh_14, c_sh_15, c_sh_16, c_sh_17, c_sh_18, c_sh_19, c_sh_20, c_sh_21, c_sh_22, c_sh_23, c_sh_24, c_sh_25, c_sh_26, c_sh_27, c_sh_28, c_sh_29, c_sh_30, c_sh_31, c_sh_32, c_sh_33, c_sh_34, c_sh_35, c_sh_36, c_sh_37, c_sh_38, c_sh_39, c_R_10_0, c_R_10_4, c_R_10_5, c_R_10_6, c_R_12_0, c_R_12_1, c_R_12_2, c_R_12_3, c_R_12_4, c_R_12_5, c_R_12_6, c_R_12_7, c_R_12_8, c_R_12_9, c_R_23_0, c_R_23_1, c_R_23_2, c_R_27_0, c_R_27_1, c_R_29_0, c_R_29_2, c_R_29_15, c_R_29_16, c_R_29_17, c_R_29_18, c_R_29_19, c_R_29_20, c_R_29_21, c_R_29_23, c_R_23_3, o_aload, o_bast, o_dup, o_getI, o_getR, o_goto, o_i1, o_ic, o_if, o_ii, o_iinc, o_iload, o_istore, o_l2i, o_li, o_lload, o_push, o_putI, e_M_type_0, e_M_type_1, e_M_type_2, e_M_type_5, e_M_type_6, e_M_type_8, e_M_type_11, e_M_type_13, e_M_type_14, e_M_type_17, e_M_type_18, e_M_type_19, e_M_type_21, e_M_type_24, e_M_type_27, e_M_type_28, e_M_type_29, e_M_type_30, e_M_type_32, e_M_type_34, e_M_type_37, e_M_type_38, e_M_type_41, e_M_type_42, e_M_type_45, e_M_type_46, e_M_type_48, e_M_type_50, e_M_type_51, e_M_type_52, e_M_type_53, e_M_type_54, e_M_type_55, e_M_type_56, e_M_type_57, e_M_type_60, e_M_type_61, e_M_type_62, e_M_type_65, e_M_type_68, e_M_type_71, e_M_type_72, z_M_type_12, z_M_type_26, z_M_type_75, d_sc_5, d_sc_6, d_sc_7, d_sc_1, d_sc_3, d_sc_4, d_sc_8, d_sc_9, d_sc_10, d_sc_11, d_sc_12, d_sc_13, d_sc_14, d_sc_22, d_sc_ne, m_gd_0, Decidable.not_not, e1, h1]
    refine hK _ (ct_Wp.ret (some (.int _)) rfl d_M_type_75 ⟨by rw [Nat.add_zero], I, rfl, ?_⟩)
    exact ⟨fun _ _ _ => rfl, fun _ _ => rfl, by rw [h1, Nat.add_zero], fun _ _ => rfl, fun i hi => absurd hi (Nat.not_lt_zero _)⟩
  | succ r ih =>
    intro sz I hr hs h1
    have e0 : nI (r + 1) - 1 = nI r := nI_pred r
    have e1 : (nI r < 0) = False := eq_false (nI_pos (by omega))
    have va : vp_in (nI sz) 65536 := vp_in_nI (by omega) (by decide)
    have qa : (nI sz).toNatClampNeg = sz := nI_clamp (by omega)
    rw [e0]
    refine ct_Wp.go (A_M_type l) (by decide) [32] 80 (fun K hK => ?_)
    simp only [ct_run_s, ct_nx_s, ct_hp, ct_lg, ct_s1, ct_d1, ct_s2, ct_d2, lv_args, Value.category, ct_u2_get, Option.toList, List.cons_append, List.nil_append, Nat.reduceAdd, Nat.reduceSub, Nat.reduceMul, Nat.reduceEqDiff, Nat.reduceLeDiff, Nat.reduceLT, true_and, and_true, and_self, if_true, if_false, reduceCtorEq, Prod.mk.injEq, List.length_cons, List.length_nil, false_and, and_false, not_false_eq_true, not_true_eq_false, true_implies, false_implies, implies_true, Bool.false_eq_true, ite_true, ite_false, reduceIte, or_true, true_or, or_false, false_or, c_sh_10, c_sh_11, c_sh_12, c_sh_13, c_sh_14, c_sh_15, c_sh_16, c_sh_17, c_sh_18, c_sh_19, c_sh_20, c_sh_21, c_sh_22, c_sh_23, c_sh_24, c_sh_25, c_sh_26, c_sh_27, c_sh_28, c_sh_29, c_sh_30, c_sh_31, c_sh_32, c_sh_33, c_sh_34, c_sh_35, c_sh_36, c_sh_37, c_sh_38, c_sh_39, c_R_10_0, c_R_10_4, c_R_10_5, c_R_10_6, c_R_12_0, c_R_12_1, c_R_12_2, c_R_12_3, c_R_12_4, c_R_12_5, c_R_12_6, c_R_12_7, c_R_12_8, c_R_12_9, c_R_23_0, c_R_23_1, c_R_23_2, c_R_27_0, c_R_27_1, c_R_29_0, c_R_29_2, c_R_29_15, c_R_29_16, c_R_29_17, c_R_29_18, c_R_29_19, c_R_29_20, c_R_29_21, c_R_29_23, c_R_23_3, o_aload, o_bast, o_dup, o_getI, o_getR, o_goto, o_i1, o_ic, o_if, o_ii, o_iinc, o_iload, o_istore, o_l2i, o_li, o_lload, o_push, o_putI, e_M_type_0, e_M_type_1, e_M_type_2, e_M_type_5, e_M_type_6, e_M_type_8, e_M_type_11, e_M_type_13, e_M_type_14, e_M_type_17, e_M_type_18, e_M_type_19, e_M_type_21, e_M_type_24, e_M_type_27, e_M_type_28, e_M_type_29, e_M_type_30, e_M_type_32, e_M_type_34, e_M_type_37, e_M_type_38, e_M_type_41, e_M_type_42, e_M_type_45, e_M_type_46, e_M_type_48, e_M_type_50, e_M_type_51, e_M_type_52, e_M_type_53, e_M_type_54, e_M_type_55, e_M_type_56, e_M_type_57, e_M_type_60, e_M_type_61, e_M_type_62, e_M_type_65, e_M_type_68, e_M_type_71, e_M_type_72, z_M_type_12, z_M_type_26, z_M_type_75, d_sc_5, d_sc_6, d_sc_7, d_sc_1, d_sc_3, d_sc_4, d_sc_8, d_sc_9, d_sc_10, d_sc_11, d_sc_12, d_sc_13, d_sc_14, d_sc_22, d_sc_ne, m_gd_0, Decidable.not_not, e1, h1, va, qa, nI_1, i32_dec]
    refine hK _ ((ih (sz + 1) _ (by omega) (by omega) rfl).mono ?_)
    rintro v g ⟨rfl, I', rfl, t1, t2, t3, t4, t5⟩
    refine ⟨by rw [show sz + 1 + r = sz + (r + 1) from by omega], I', rfl, ?_, ?_, ?_, ?_, ?_⟩
    · intro h q1 q2
      rw [t1 h q1 q2]
      funext k
      rw [ct_u2_get, if_neg (fun z => q2 z.1), ct_u2_get, if_neg (fun z => q1 z.1)]
    · intro k q
      rw [t2 k q, ct_u2_get, if_neg (fun z => q z.2), ct_u2_get, if_neg (fun z => absurd z.1 (by decide))]
    · rw [t3, show sz + 1 + r = sz + (r + 1) from by omega]
    · intro j hj
      rw [t4 j (by omega), ct_u2_get, if_neg (fun z => absurd z.1 (by decide)), ct_u2_get, if_neg (fun z => by omega)]
    · intro i hi
      by_cases z : i = 0
      · subst z
        rw [t4 (sz + 0) (by omega), ct_u2_get, if_neg (fun z => absurd z.1 (by decide)), ct_u2_get, if_pos ⟨rfl, rfl⟩, m_sb r (by omega) X hX]
        rfl
      · have t6 := t5 (i - 1) (by omega)
        rw [show sz + 1 + (i - 1) = sz + i from by omega, show r - 1 - (i - 1) = r + 1 - 1 - i from by omega] at t6
        exact t6
set_option maxHeartbeats 800000 in
set_option maxRecDepth 100000 in
theorem sp_M_type_bad (l : ct_Lx) (I : Nat → Nat → Int32) (L : Nat → Nat → Int64) (b : Bool) (x : Int64) (n : Int32) (hn : n < 1 ∨ ¬ n ≤ 8) : ct_Me l M_M_type 1 0 0 [.ref 29, .long x, .int n] (c_g I L b) (fun v g => v = some (.int (-1)) ∧ g = c_g I L b) := by
  refine ct_Me.of (by decide) (Nat.le_of_ble_eq_true rfl) (fun v g h => by rw [h.1]; first | rfl | exact Or.inl rfl) ?_
  refine ct_Wp.go (A_M_type l) (by decide) [13] 80 (fun K hK => ?_)
  simp only [ct_run_s, ct_nx_s, ct_hp, ct_lg, ct_s1, ct_d1, ct_s2, ct_d2, lv_args, Value.category, ct_u2_get, Option.toList, List.cons_append, List.nil_append, Nat.reduceAdd, Nat.reduceSub, Nat.reduceMul, Nat.reduceEqDiff, Nat.reduceLeDiff, Nat.reduceLT, true_and, and_true, and_self, if_true, if_false, reduceCtorEq, Prod.mk.injEq, List.length_cons, List.length_nil, false_and, and_false, not_false_eq_true, not_true_eq_false, true_implies, false_implies, implies_true, Bool.false_eq_true, ite_true, ite_false, reduceIte, or_true, true_or, or_false, false_or, c_sh_10, c_sh_11, c_sh_12, c_sh_13, c_sh_14, c_sh_15, c_sh_16, c_sh_17, c_sh_18, c_sh_19, c_sh_20, c_sh_21, c_sh_22, c_sh_23, c_sh_24, c_sh_25, c_sh_26, c_sh_27, c_sh_28, c_sh_29, c_sh_30, c_sh_31, c_sh_32, c_sh_33, c_sh_34, c_sh_35, c_sh_36, c_sh_37, c_sh_38, c_sh_39, c_R_10_0, c_R_10_4, c_R_10_5, c_R_10_6, c_R_12_0, c_R_12_1, c_R_12_2, c_R_12_3, c_R_12_4, c_R_12_5, c_R_12_6, c_R_12_7, c_R_12_8, c_R_12_9, c_R_23_0, c_R_23_1, c_R_23_2, c_R_27_0, c_R_27_1, c_R_29_0, c_R_29_2, c_R_29_15, c_R_29_16, c_R_29_17, c_R_29_18, c_R_29_19, c_R_29_20, c_R_29_21, c_R_29_23, c_R_23_3, o_aload, o_bast, o_dup, o_getI, o_getR, o_goto, o_i1, o_ic, o_if, o_ii, o_iinc, o_iload, o_istore, o_l2i, o_li, o_lload, o_push, o_putI, e_M_type_0, e_M_type_1, e_M_type_2, e_M_type_5, e_M_type_6, e_M_type_8, e_M_type_11, e_M_type_13, e_M_type_14, e_M_type_17, e_M_type_18, e_M_type_19, e_M_type_21, e_M_type_24, e_M_type_27, e_M_type_28, e_M_type_29, e_M_type_30, e_M_type_32, e_M_type_34, e_M_type_37, e_M_type_38, e_M_type_41, e_M_type_42, e_M_type_45, e_M_type_46, e_M_type_48, e_M_type_50, e_M_type_51, e_M_type_52, e_M_type_53, e_M_type_54, e_M_type_55, e_M_type_56, e_M_type_57, e_M_type_60, e_M_type_61, e_M_type_62, e_M_type_65, e_M_type_68, e_M_type_71, e_M_type_72, z_M_type_12, z_M_type_26, z_M_type_75, d_sc_5, d_sc_6, d_sc_7, d_sc_1, d_sc_3, d_sc_4, d_sc_8, d_sc_9, d_sc_10, d_sc_11, d_sc_12, d_sc_13, d_sc_14, d_sc_22, d_sc_ne, m_gd_0, Decidable.not_not]
  exact ⟨fun _ => hK _ (ct_Wp.ret (some (.int _)) rfl d_M_type_12 ⟨rfl, rfl⟩), fun q => ⟨fun z => absurd hn (fun t => t.elim q (fun t => t z)), fun _ => hK _ (ct_Wp.ret (some (.int _)) rfl d_M_type_12 ⟨rfl, rfl⟩)⟩⟩
set_option maxHeartbeats 800000 in
set_option maxRecDepth 100000 in
theorem sp_M_type (l : ct_Lx) (I : Nat → Nat → Int32) (L : Nat → Nat → Int64) (b : Bool) {X n sz : Nat} (hX : X < 2 ^ 64) (h1 : 1 ≤ n) (h8 : n ≤ 8) (hl : I 29 1 = nI sz) (hs : sz + n ≤ 4096) : ct_Me l M_M_type 1 0 0 [.ref 29, .long (lN X), .int (nI n)] (c_g I L b) (fun v g => v = some (.int (nI (sz + n))) ∧ ∃ I', g = c_g I' L b ∧ m_TR I I' sz X n) := by
  have e1 : (nI n < 1) = False := eq_false (nI_nlt (b := 1) h1 (by omega))
  have e2 : (nI n ≤ 8) = True := eq_true (nI_le (b := 8) h8 (by decide))
  have e3 : (nI (sz + n) ≤ 65536) = True := eq_true (nI_le (b := 65536) (by omega) (by decide))
  refine ct_Me.of (by decide) (Nat.le_of_ble_eq_true rfl) (fun v g h => by rw [h.1]; first | rfl | exact Or.inl rfl) ?_
  refine ct_Wp.go (A_M_type l) (by decide) [32] 80 (fun K hK => ?_)
  simp only [ct_run_s, ct_nx_s, ct_hp, ct_lg, ct_s1, ct_d1, ct_s2, ct_d2, lv_args, Value.category, ct_u2_get, Option.toList, List.cons_append, List.nil_append, Nat.reduceAdd, Nat.reduceSub, Nat.reduceMul, Nat.reduceEqDiff, Nat.reduceLeDiff, Nat.reduceLT, true_and, and_true, and_self, if_true, if_false, reduceCtorEq, Prod.mk.injEq, List.length_cons, List.length_nil, false_and, and_false, not_false_eq_true, not_true_eq_false, true_implies, false_implies, implies_true, Bool.false_eq_true, ite_true, ite_false, reduceIte, or_true, true_or, or_false, false_or, c_sh_10, c_sh_11, c_sh_12, c_sh_13, c_sh_14, c_sh_15, c_sh_16, c_sh_17, c_sh_18, c_sh_19, c_sh_20, c_sh_21, c_sh_22, c_sh_23, c_sh_24, c_sh_25, c_sh_26, c_sh_27, c_sh_28, c_sh_29, c_sh_30, c_sh_31, c_sh_32, c_sh_33, c_sh_34, c_sh_35, c_sh_36, c_sh_37, c_sh_38, c_sh_39, c_R_10_0, c_R_10_4, c_R_10_5, c_R_10_6, c_R_12_0, c_R_12_1, c_R_12_2, c_R_12_3, c_R_12_4, c_R_12_5, c_R_12_6, c_R_12_7, c_R_12_8, c_R_12_9, c_R_23_0, c_R_23_1, c_R_23_2, c_R_27_0, c_R_27_1, c_R_29_0, c_R_29_2, c_R_29_15, c_R_29_16, c_R_29_17, c_R_29_18, c_R_29_19, c_R_29_20, c_R_29_21, c_R_29_23, c_R_23_3, o_aload, o_bast, o_dup, o_getI, o_getR, o_goto, o_i1, o_ic, o_if, o_ii, o_iinc, o_iload, o_istore, o_l2i, o_li, o_lload, o_push, o_putI, e_M_type_0, e_M_type_1, e_M_type_2, e_M_type_5, e_M_type_6, e_M_type_8, e_M_type_11, e_M_type_13, e_M_type_14, e_M_type_17, e_M_type_18, e_M_type_19, e_M_type_21, e_M_type_24, e_M_type_27, e_M_type_28, e_M_type_29, e_M_type_30, e_M_type_32, e_M_type_34, e_M_type_37, e_M_type_38, e_M_type_41, e_M_type_42, e_M_type_45, e_M_type_46, e_M_type_48, e_M_type_50, e_M_type_51, e_M_type_52, e_M_type_53, e_M_type_54, e_M_type_55, e_M_type_56, e_M_type_57, e_M_type_60, e_M_type_61, e_M_type_62, e_M_type_65, e_M_type_68, e_M_type_71, e_M_type_72, z_M_type_12, z_M_type_26, z_M_type_75, d_sc_5, d_sc_6, d_sc_7, d_sc_1, d_sc_3, d_sc_4, d_sc_8, d_sc_9, d_sc_10, d_sc_11, d_sc_12, d_sc_13, d_sc_14, d_sc_22, d_sc_ne, m_gd_0, Decidable.not_not, e1, e2, e3, hl, nI_add]
  exact hK _ (sp_M_type_loop l L b hX _ n sz I h8 hs hl)
/-- n bytes copied from one row into another -/
def m_CP (to fr : Nat) (J I : Nat → Nat → Int32) (n : Nat) : Prop := (∀ h, ¬ h = to → I h = J h) ∧ ∀ j, j < n → I to j = vp_nar .byte (J fr j)
theorem m_CP.step {to fr : Nat} {J I : Nat → Nat → Int32} {n : Nat} (hne : ¬ fr = to) (h : m_CP to fr J I n) : m_CP to fr J (ct_u2 I to n (vp_nar .byte (I fr n))) (n + 1) := by
  refine ⟨fun a ha => ?_, fun j hj => ?_⟩
  · rw [← h.1 a ha]; funext k; rw [ct_u2_get, if_neg (fun z => ha z.1)]
  · by_cases z : j = n
    · subst z; rw [ct_u2_get, if_pos ⟨rfl, rfl⟩, h.1 fr hne]
    · rw [ct_u2_get, if_neg (fun y => z y.2)]; exact h.2 j (by omega)
set_option maxHeartbeats 800000 in
set_option maxRecDepth 100000 in
theorem sp_M_write_loop (l : ct_Lx) (J : Nat → Nat → Int32) (L : Nat → Nat → Int64) (b : Bool) {Post : Option Value → ct_Sg → Prop} {ln : Nat} (hln : ln ≤ 4096) (h3 : J 29 3 = nI ln) (kk : ∀ I, m_CP 38 31 J I ln → ct_Wp l M_M_write 1 Post (37, [(0, .ref 29)], [], c_g I L b, 0, 0)) : ∀ (n k : Nat) (I : Nat → Nat → Int32), k + n = ln → m_CP 38 31 J I k → ct_Wp l M_M_write 1 Post (11, [(1, .int (nI k)), (0, .ref 29)], [], c_g I L b, 0, 0) := by
  intro n
  induction n with
  | zero =>
    intro k I hi hC
    have e : k = ln := by omega
    subst e
    have h3' : I 29 3 = nI k := by rw [hC.1 29 (by decide)]; exact h3
    refine ct_Wp.go (A_M_write l) (by decide) [11, 37] 80 (fun K hK => ?_)
    simp only [ct_run_s, ct_nx_s, ct_hp, ct_lg, ct_s1, ct_d1, ct_s2, ct_d2, lv_args, Value.category, ct_u2_get, Option.toList, List.cons_append, List.nil_append, Nat.reduceAdd, Nat.reduceSub, Nat.reduceMul, Nat.reduceEqDiff, Nat.reduceLeDiff, Nat.reduceLT, true_and, and_true, and_self, if_true, if_false, reduceCtorEq, Prod.mk.injEq, List.length_cons, List.length_nil, false_and, and_false, not_false_eq_true, not_true_eq_false, true_implies, false_implies, implies_true, Bool.false_eq_true, ite_true, ite_false, reduceIte, or_true, true_or, or_false, false_or, c_sh_10, c_sh_11, c_sh_12, c_sh_13, c_sh_14, c_sh_15, c_sh_16, c_sh_17, c_sh_18, c_sh_19, c_sh_20, c_sh_21, c_sh_22, c_sh_23, c_sh_24, c_sh_25, c_sh_26, c_sh_27, c_sh_28, c_sh_29, c_sh_30, c_sh_31, c_sh_32, c_sh_33, c_sh_34, c_sh_35, c_sh_36, c_sh_37, c_sh_38, c_sh_39, c_R_10_0, c_R_10_4, c_R_10_5, c_R_10_6, c_R_12_0, c_R_12_1, c_R_12_2, c_R_12_3, c_R_12_4, c_R_12_5, c_R_12_6, c_R_12_7, c_R_12_8, c_R_12_9, c_R_23_0, c_R_23_1, c_R_23_2, c_R_27_0, c_R_27_1, c_R_29_0, c_R_29_2, c_R_29_15, c_R_29_16, c_R_29_17, c_R_29_18, c_R_29_19, c_R_29_20, c_R_29_21, c_R_29_23, c_R_23_3, o_aload, o_bald, o_bast, o_getI, o_getR, o_goto, o_ic, o_if, o_iinc, o_iload, o_istore, o_push, o_putI, e_M_write_0, e_M_write_1, e_M_write_4, e_M_write_7, e_M_write_9, e_M_write_10, e_M_write_11, e_M_write_12, e_M_write_13, e_M_write_16, e_M_write_19, e_M_write_20, e_M_write_23, e_M_write_24, e_M_write_25, e_M_write_28, e_M_write_29, e_M_write_30, e_M_write_31, e_M_write_34, e_M_write_37, e_M_write_38, e_M_write_39, e_M_write_42, e_M_write_45, e_M_write_46, z_M_write_8, z_M_write_49, d_sc_5, d_sc_6, d_sc_7, d_sc_1, d_sc_3, d_sc_4, d_sc_8, d_sc_9, d_sc_10, d_sc_11, d_sc_12, d_sc_13, d_sc_14, d_sc_22, d_sc_ne, m_gd_0, Decidable.not_not, h3']
    exact ⟨fun _ => hK _ (ct_Wp.pick [1] rfl (kk I hC)), fun h => absurd (nI_le (Nat.le_refl _) (by omega)) h⟩
  | succ n ih =>
    intro k I hi hC
    have h3' : I 29 3 = nI ln := by rw [hC.1 29 (by decide)]; exact h3
    have va : vp_in (nI k) 65536 := vp_in_nI (by omega) (by decide)
    have qa : (nI k).toNatClampNeg = k := nI_clamp (by omega)
    refine ct_Wp.go (A_M_write l) (by decide) [11, 37] 80 (fun K hK => ?_)
    simp only [ct_run_s, ct_nx_s, ct_hp, ct_lg, ct_s1, ct_d1, ct_s2, ct_d2, lv_args, Value.category, ct_u2_get, Option.toList, List.cons_append, List.nil_append, Nat.reduceAdd, Nat.reduceSub, Nat.reduceMul, Nat.reduceEqDiff, Nat.reduceLeDiff, Nat.reduceLT, true_and, and_true, and_self, if_true, if_false, reduceCtorEq, Prod.mk.injEq, List.length_cons, List.length_nil, false_and, and_false, not_false_eq_true, not_true_eq_false, true_implies, false_implies, implies_true, Bool.false_eq_true, ite_true, ite_false, reduceIte, or_true, true_or, or_false, false_or, c_sh_10, c_sh_11, c_sh_12, c_sh_13, c_sh_14, c_sh_15, c_sh_16, c_sh_17, c_sh_18, c_sh_19, c_sh_20, c_sh_21, c_sh_22, c_sh_23, c_sh_24, c_sh_25, c_sh_26, c_sh_27, c_sh_28, c_sh_29, c_sh_30, c_sh_31, c_sh_32, c_sh_33, c_sh_34, c_sh_35, c_sh_36, c_sh_37, c_sh_38, c_sh_39, c_R_10_0, c_R_10_4, c_R_10_5, c_R_10_6, c_R_12_0, c_R_12_1, c_R_12_2, c_R_12_3, c_R_12_4, c_R_12_5, c_R_12_6, c_R_12_7, c_R_12_8, c_R_12_9, c_R_23_0, c_R_23_1, c_R_23_2, c_R_27_0, c_R_27_1, c_R_29_0, c_R_29_2, c_R_29_15, c_R_29_16, c_R_29_17, c_R_29_18, c_R_29_19, c_R_29_20, c_R_29_21, c_R_29_23, c_R_23_3, o_aload, o_bald, o_bast, o_getI, o_getR, o_goto, o_ic, o_if, o_iinc, o_iload, o_istore, o_push, o_putI, e_M_write_0, e_M_write_1, e_M_write_4, e_M_write_7, e_M_write_9, e_M_write_10, e_M_write_11, e_M_write_12, e_M_write_13, e_M_write_16, e_M_write_19, e_M_write_20, e_M_write_23, e_M_write_24, e_M_write_25, e_M_write_28, e_M_write_29, e_M_write_30, e_M_write_31, e_M_write_34, e_M_write_37, e_M_write_38, e_M_write_39, e_M_write_42, e_M_write_45, e_M_write_46, z_M_write_8, z_M_write_49, d_sc_5, d_sc_6, d_sc_7, d_sc_1, d_sc_3, d_sc_4, d_sc_8, d_sc_9, d_sc_10, d_sc_11, d_sc_12, d_sc_13, d_sc_14, d_sc_22, d_sc_ne, m_gd_0, Decidable.not_not, h3', va, qa, nI_1]
    exact ⟨fun h => absurd h (nI_ge (by omega) (by omega)), fun _ => hK _ (ih (k + 1) _ (by omega) (hC.step (by decide)))⟩
set_option maxHeartbeats 800000 in
set_option maxRecDepth 100000 in
theorem sp_M_write_bad (l : ct_Lx) (I : Nat → Nat → Int32) (L : Nat → Nat → Int64) (b : Bool) (h : I 29 4 = 0) : ct_Me l M_M_write 1 0 0 [.ref 29] (c_g I L b) (fun v g => v = some (.int (-1)) ∧ g = c_g I L b) := by
  have e00 : ((0 : Int32) = 0) = True := by decide
  refine ct_Me.of (by decide) (Nat.le_of_ble_eq_true rfl) (fun v g h => by rw [h.1]; first | rfl | exact Or.inl rfl) ?_
  refine ct_Wp.go (A_M_write l) (by decide) [11] 80 (fun K hK => ?_)
  simp only [ct_run_s, ct_nx_s, ct_hp, ct_lg, ct_s1, ct_d1, ct_s2, ct_d2, lv_args, Value.category, ct_u2_get, Option.toList, List.cons_append, List.nil_append, Nat.reduceAdd, Nat.reduceSub, Nat.reduceMul, Nat.reduceEqDiff, Nat.reduceLeDiff, Nat.reduceLT, true_and, and_true, and_self, if_true, if_false, reduceCtorEq, Prod.mk.injEq, List.length_cons, List.length_nil, false_and, and_false, not_false_eq_true, not_true_eq_false, true_implies, false_implies, implies_true, Bool.false_eq_true, ite_true, ite_false, reduceIte, or_true, true_or, or_false, false_or, c_sh_10, c_sh_11, c_sh_12, c_sh_13, c_sh_14, c_sh_15, c_sh_16, c_sh_17, c_sh_18, c_sh_19, c_sh_20, c_sh_21, c_sh_22, c_sh_23, c_sh_24, c_sh_25, c_sh_26, c_sh_27, c_sh_28, c_sh_29, c_sh_30, c_sh_31, c_sh_32, c_sh_33, c_sh_34, c_sh_35, c_sh_36, c_sh_37, c_sh_38, c_sh_39, c_R_10_0, c_R_10_4, c_R_10_5, c_R_10_6, c_R_12_0, c_R_12_1, c_R_12_2, c_R_12_3, c_R_12_4, c_R_12_5, c_R_12_6, c_R_12_7, c_R_12_8, c_R_12_9, c_R_23_0, c_R_23_1, c_R_23_2, c_R_27_0, c_R_27_1, c_R_29_0, c_R_29_2, c_R_29_15, c_R_29_16, c_R_29_17, c_R_29_18, c_R_29_19, c_R_29_20, c_R_29_21, c_R_29_23, c_R_23_3, o_aload, o_bald, o_bast, o_getI, o_getR, o_goto, o_ic, o_if, o_iinc, o_iload, o_istore, o_push, o_putI, e_M_write_0, e_M_write_1, e_M_write_4, e_M_write_7, e_M_write_9, e_M_write_10, e_M_write_11, e_M_write_12, e_M_write_13, e_M_write_16, e_M_write_19, e_M_write_20, e_M_write_23, e_M_write_24, e_M_write_25, e_M_write_28, e_M_write_29, e_M_write_30, e_M_write_31, e_M_write_34, e_M_write_37, e_M_write_38, e_M_write_39, e_M_write_42, e_M_write_45, e_M_write_46, z_M_write_8, z_M_write_49, d_sc_5, d_sc_6, d_sc_7, d_sc_1, d_sc_3, d_sc_4, d_sc_8, d_sc_9, d_sc_10, d_sc_11, d_sc_12, d_sc_13, d_sc_14, d_sc_22, d_sc_ne, m_gd_0, Decidable.not_not, h, e00]
  exact hK _ (ct_Wp.ret (some (.int _)) rfl d_M_write_8 ⟨rfl, rfl⟩)
set_option maxHeartbeats 800000 in
set_option maxRecDepth 100000 in
theorem sp_M_write (l : ct_Lx) (I : Nat → Nat → Int32) (L : Nat → Nat → Int64) (b : Bool) {ln : Nat} (hln : ln ≤ 4096) (h3 : I 29 3 = nI ln) (hT : I 29 4 = 1) : ct_Me l M_M_write 1 0 0 [.ref 29] (c_g I L b) (fun v g => v = some (.int (nI ln)) ∧ ∃ I', g = c_g (ct_u2 I' 29 22 (nI ln)) L b ∧ m_CP 38 31 I I' ln) := by
  have e10 : ((1 : Int32) = 0) = False := by decide
  refine ct_Me.of (by decide) (Nat.le_of_ble_eq_true rfl) (fun v g h => by rw [h.1]; first | rfl | exact Or.inl rfl) ?_
  refine ct_Wp.go (A_M_write l) (by decide) [11] 80 (fun K hK => ?_)
  simp only [ct_run_s, ct_nx_s, ct_hp, ct_lg, ct_s1, ct_d1, ct_s2, ct_d2, lv_args, Value.category, ct_u2_get, Option.toList, List.cons_append, List.nil_append, Nat.reduceAdd, Nat.reduceSub, Nat.reduceMul, Nat.reduceEqDiff, Nat.reduceLeDiff, Nat.reduceLT, true_and, and_true, and_self, if_true, if_false, reduceCtorEq, Prod.mk.injEq, List.length_cons, List.length_nil, false_and, and_false, not_false_eq_true, not_true_eq_false, true_implies, false_implies, implies_true, Bool.false_eq_true, ite_true, ite_false, reduceIte, or_true, true_or, or_false, false_or, c_sh_10, c_sh_11, c_sh_12, c_sh_13, c_sh_14, c_sh_15, c_sh_16, c_sh_17, c_sh_18, c_sh_19, c_sh_20, c_sh_21, c_sh_22, c_sh_23, c_sh_24, c_sh_25, c_sh_26, c_sh_27, c_sh_28, c_sh_29, c_sh_30, c_sh_31, c_sh_32, c_sh_33, c_sh_34, c_sh_35, c_sh_36, c_sh_37, c_sh_38, c_sh_39, c_R_10_0, c_R_10_4, c_R_10_5, c_R_10_6, c_R_12_0, c_R_12_1, c_R_12_2, c_R_12_3, c_R_12_4, c_R_12_5, c_R_12_6, c_R_12_7, c_R_12_8, c_R_12_9, c_R_23_0, c_R_23_1, c_R_23_2, c_R_27_0, c_R_27_1, c_R_29_0, c_R_29_2, c_R_29_15, c_R_29_16, c_R_29_17, c_R_29_18, c_R_29_19, c_R_29_20, c_R_29_21, c_R_29_23, c_R_23_3, o_aload, o_bald, o_bast, o_getI, o_getR, o_goto, o_ic, o_if, o_iinc, o_iload, o_istore, o_push, o_putI, e_M_write_0, e_M_write_1, e_M_write_4, e_M_write_7, e_M_write_9, e_M_write_10, e_M_write_11, e_M_write_12, e_M_write_13, e_M_write_16, e_M_write_19, e_M_write_20, e_M_write_23, e_M_write_24, e_M_write_25, e_M_write_28, e_M_write_29, e_M_write_30, e_M_write_31, e_M_write_34, e_M_write_37, e_M_write_38, e_M_write_39, e_M_write_42, e_M_write_45, e_M_write_46, z_M_write_8, z_M_write_49, d_sc_5, d_sc_6, d_sc_7, d_sc_1, d_sc_3, d_sc_4, d_sc_8, d_sc_9, d_sc_10, d_sc_11, d_sc_12, d_sc_13, d_sc_14, d_sc_22, d_sc_ne, m_gd_0, Decidable.not_not, hT, e10]
  refine hK _ (sp_M_write_loop l I L b hln h3 ?_ ln 0 I (Nat.zero_add _) ⟨fun _ _ => rfl, fun j hj => absurd hj (Nat.not_lt_zero _)⟩)
  intro I' hC
  have h3' : I' 29 3 = nI ln := by rw [hC.1 29 (by decide)]; exact h3
  refine ct_Wp.go (A_M_write l) (by decide) [] 80 (fun K hK => ?_)
  simp only [ct_run_s, ct_nx_s, ct_hp, ct_lg, ct_s1, ct_d1, ct_s2, ct_d2, lv_args, Value.category, ct_u2_get, Option.toList, List.cons_append, List.nil_append, Nat.reduceAdd, Nat.reduceSub, Nat.reduceMul, Nat.reduceEqDiff, Nat.reduceLeDiff, Nat.reduceLT, true_and, and_true, and_self, if_true, if_false, reduceCtorEq, Prod.mk.injEq, List.length_cons, List.length_nil, false_and, and_false, not_false_eq_true, not_true_eq_false, true_implies, false_implies, implies_true, Bool.false_eq_true, ite_true, ite_false, reduceIte, or_true, true_or, or_false, false_or, c_sh_10, c_sh_11, c_sh_12, c_sh_13, c_sh_14, c_sh_15, c_sh_16, c_sh_17, c_sh_18, c_sh_19, c_sh_20, c_sh_21, c_sh_22, c_sh_23, c_sh_24, c_sh_25, c_sh_26, c_sh_27, c_sh_28, c_sh_29, c_sh_30, c_sh_31, c_sh_32, c_sh_33, c_sh_34, c_sh_35, c_sh_36, c_sh_37, c_sh_38, c_sh_39, c_R_10_0, c_R_10_4, c_R_10_5, c_R_10_6, c_R_12_0, c_R_12_1, c_R_12_2, c_R_12_3, c_R_12_4, c_R_12_5, c_R_12_6, c_R_12_7, c_R_12_8, c_R_12_9, c_R_23_0, c_R_23_1, c_R_23_2, c_R_27_0, c_R_27_1, c_R_29_0, c_R_29_2, c_R_29_15, c_R_29_16, c_R_29_17, c_R_29_18, c_R_29_19, c_R_29_20, c_R_29_21, c_R_29_23, c_R_23_3, o_aload, o_bald, o_bast, o_getI, o_getR, o_goto, o_ic, o_if, o_iinc, o_iload, o_istore, o_push, o_putI, e_M_write_0, e_M_write_1, e_M_write_4, e_M_write_7, e_M_write_9, e_M_write_10, e_M_write_11, e_M_write_12, e_M_write_13, e_M_write_16, e_M_write_19, e_M_write_20, e_M_write_23, e_M_write_24, e_M_write_25, e_M_write_28, e_M_write_29, e_M_write_30, e_M_write_31, e_M_write_34, e_M_write_37, e_M_write_38, e_M_write_39, e_M_write_42, e_M_write_45, e_M_write_46, z_M_write_8, z_M_write_49, d_sc_5, d_sc_6, d_sc_7, d_sc_1, d_sc_3, d_sc_4, d_sc_8, d_sc_9, d_sc_10, d_sc_11, d_sc_12, d_sc_13, d_sc_14, d_sc_22, d_sc_ne, m_gd_0, Decidable.not_not, h3']
  exact hK _ (ct_Wp.ret (some (.int _)) rfl d_M_write_49 ⟨rfl, I', rfl, hC⟩)
