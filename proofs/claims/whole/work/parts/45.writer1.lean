/-! THE WRITER: what it has written is a list of bytes -/
theorem c_by_mod (v : Nat) : (c_by v).toBitVec.toNat % 256 = v % 256 := by
  have e0 : c_by v = (nI v).toInt8.toInt32 := by unfold c_by; exact pk_vb _
  have e1 : c_by v &&& 255 = nI v &&& 255 := by rw [e0]; exact bp_b _
  rw [pk_and (c_by v) 8 rfl, pk_and (nI v) 8 rfl] at e1
  have e2 : (nI v).toBitVec.toNat % 2 ^ 8 = v % 256 := by
    show (BitVec.ofNat 32 v).toNat % 2 ^ 8 = v % 256
    rw [BitVec.toNat_ofNat]
    omega
  rw [e2, nI_eq (Nat.lt_of_lt_of_le (Nat.mod_lt _ (by decide)) (by decide)) (Nat.lt_of_lt_of_le (Nat.mod_lt _ (by decide)) (by decide))] at e1
  exact e1
def c_O (I : Nat → Nat → Int32) (j : Nat) : Nat := (I 28 j).toBitVec.toNat % 256
/-- sz bytes of X, the highest first -/
def c_be (X sz : Nat) : List Nat := (List.range sz).map fun i => X / 2 ^ (8 * (sz - 1 - i)) % 256
theorem c_be_len (X sz : Nat) : (c_be X sz).length = sz := by simp [c_be]
def c_WR (J I : Nat → Nat → Int32) (out : List Nat) : Prop := (∀ h, ¬ h = 27 → ¬ h = 28 → I h = J h) ∧ I 27 2 = nI out.length ∧ out.length ≤ 4096 ∧ ∀ j, j < out.length → c_O I j = out.getD j 0
theorem c_pb_at {r fr X n : Nat} : ∀ (k i : Nat) (I : Nat → Nat → Int32) (j : Nat), c_pb r fr X n k i I r j = if fr + i ≤ j ∧ j < fr + i + k then c_by (X / 2 ^ (8 * (n - 1 - (j - fr)))) else I r j
  | 0, i, I, j => by rw [c_pb, if_neg (by omega)]
  | k + 1, i, I, j => by
    rw [c_pb, c_pb_at k (i + 1)]
    by_cases h1 : fr + (i + 1) ≤ j ∧ j < fr + (i + 1) + k
    · rw [if_pos h1, if_pos (by omega)]
    · rw [if_neg h1, ct_u2_get]
      by_cases h2 : j = fr + i
      · rw [if_pos ⟨rfl, h2⟩, if_pos (by omega), h2, Nat.add_sub_cancel_left]
      · rw [if_neg (fun q => h2 q.2), if_neg (by omega)]
theorem c_WR.put {J I : Nat → Nat → Int32} {out : List Nat} {X sz : Nat} (h : c_WR J I out) (hs : out.length + sz ≤ 4096) : c_WR J (ct_u2 (c_pb 28 out.length X sz sz 0 I) 27 2 (nI (out.length + sz))) (out ++ c_be X sz) := by
  obtain ⟨h1, h2, h3, h4⟩ := h
  refine ⟨fun a ha hb => ?_, ?_, by rw [List.length_append, c_be_len]; exact hs, fun j hj => ?_⟩
  · funext k
    rw [ct_u2_get, if_neg (fun q => ha q.1), c_pb_ne hb, h1 a ha hb]
  · rw [ct_u2_get, if_pos ⟨rfl, rfl⟩, List.length_append, c_be_len]
  · rw [List.length_append, c_be_len] at hj
    unfold c_O
    rw [ct_u2_get, if_neg (by omega), c_pb_at]
    by_cases q : j < out.length
    · rw [if_neg (by omega)]
      rw [List.getD_eq_getElem?_getD, List.getElem?_append_left q, ← List.getD_eq_getElem?_getD]
      exact h4 j q
    · rw [if_pos (by omega), c_by_mod, List.getD_eq_getElem?_getD, List.getElem?_append_right (by omega)]
      rw [c_be, List.getElem?_map, List.getElem?_range (by omega)]
      rfl
set_option maxHeartbeats 800000 in
set_option maxRecDepth 100000 in
theorem sp_W_put (l : ct_Lx) (I : Nat → Nat → Int32) (L : Nat → Nat → Int64) (b : Bool) {J : Nat → Nat → Int32} {out : List Nat} {X sz : Nat} (hW : c_WR J I out) (hX : X < 2 ^ 64) (h8 : sz ≤ 8) (hs : out.length + sz ≤ 4096) : ct_Me l M_W_put 2 0 0 [.ref 27, .long (lN X), .int (nI sz)] (c_g I L b) (fun w0 g => w0 = none ∧ ∃ I', g = c_g I' L b ∧ c_WR J I' (out ++ c_be X sz)) := by
  refine ct_Me.of (by decide) (Nat.le_of_ble_eq_true rfl) (fun v g h => by rw [h.1]; rfl) ?_
  have hl := hW.2.1
  have e1 : nI out.length + nI sz = nI (out.length + sz) := nI_add _ _
  refine ct_Wp.go (A_W_put l) (by decide) [] 100 (fun K hK => ?_)
  simp only [ct_run_s, ct_nx_s, ct_hp, ct_lg, ct_s1, ct_d1, ct_s2, ct_d2, lv_args, Value.category, ct_u2_get, Option.toList, List.cons_append, List.nil_append, Nat.reduceAdd, Nat.reduceSub, Nat.reduceMul, Nat.reduceEqDiff, Nat.reduceLeDiff, Nat.reduceLT, true_and, and_true, and_self, if_true, if_false, reduceCtorEq, Prod.mk.injEq, List.length_cons, List.length_nil, false_and, and_false, not_false_eq_true, not_true_eq_false, true_implies, false_implies, implies_true, Bool.false_eq_true, ite_true, ite_false, reduceIte, or_true, true_or, or_false, false_or, c_sh_10, c_sh_11, c_sh_12, c_sh_13, c_sh_14, c_sh_15, c_sh_16, c_sh_17, c_sh_18, c_sh_19, c_sh_20, c_sh_21, c_sh_22, c_sh_23, c_sh_24, c_sh_25, c_sh_26, c_sh_27, c_sh_28, c_sh_29, c_sh_30, c_sh_31, c_sh_32, c_sh_33, c_sh_34, c_sh_35, c_sh_36, c_sh_37, c_sh_38, c_sh_39, c_R_10_0, c_R_10_4, c_R_10_5, c_R_10_6, c_R_12_0, c_R_12_1, c_R_12_2, c_R_12_3, c_R_12_4, c_R_12_5, c_R_12_6, c_R_12_7, c_R_12_8, c_R_12_9, c_R_23_0, c_R_23_1, c_R_23_2, c_R_27_0, c_R_27_1, c_R_29_0, c_R_29_2, c_R_29_15, c_R_29_16, c_R_29_17, c_R_29_18, c_R_29_19, c_R_29_20, c_R_29_21, c_R_29_23, c_R_23_3, o_aload, o_dup, o_getI, o_getR, o_ii, o_iload, o_lload, o_putI, o_putR, e_W_put_0, e_W_put_1, e_W_put_2, e_W_put_5, e_W_put_6, e_W_put_9, e_W_put_10, e_W_put_14, e_W_put_17, e_W_put_18, e_W_put_21, e_W_put_22, e_W_put_25, e_W_put_26, e_W_put_30, e_W_put_31, e_W_put_32, e_W_put_35, e_W_put_36, e_W_put_37, z_W_put_11, z_W_put_27, z_W_put_40, hl, e1, c_cl_0, c_cl_1, c_cl_2, c_cl_3, c_cl_4, c_cl_5, c_cl_6, c_cl_7, c_in7_0, c_in7_1, c_in7_2, c_in7_3, c_in7_4, c_in7_5, c_in7_6]
  refine hK _ (cl_W_put_11 (sp_X_withRoom l I L b (r := 28) rfl hs) (by decide) (Nat.le_of_ble_eq_true rfl) (Nat.le_refl _) (Nat.le_refl _) ?_)
  rintro w g ⟨rfl, rfl⟩
  refine ct_Wp.go (A_W_put l) (by decide) [] 100 (fun K hK => ?_)
  simp only [ct_run_s, ct_nx_s, ct_hp, ct_lg, ct_s1, ct_d1, ct_s2, ct_d2, lv_args, Value.category, ct_u2_get, Option.toList, List.cons_append, List.nil_append, Nat.reduceAdd, Nat.reduceSub, Nat.reduceMul, Nat.reduceEqDiff, Nat.reduceLeDiff, Nat.reduceLT, true_and, and_true, and_self, if_true, if_false, reduceCtorEq, Prod.mk.injEq, List.length_cons, List.length_nil, false_and, and_false, not_false_eq_true, not_true_eq_false, true_implies, false_implies, implies_true, Bool.false_eq_true, ite_true, ite_false, reduceIte, or_true, true_or, or_false, false_or, c_sh_10, c_sh_11, c_sh_12, c_sh_13, c_sh_14, c_sh_15, c_sh_16, c_sh_17, c_sh_18, c_sh_19, c_sh_20, c_sh_21, c_sh_22, c_sh_23, c_sh_24, c_sh_25, c_sh_26, c_sh_27, c_sh_28, c_sh_29, c_sh_30, c_sh_31, c_sh_32, c_sh_33, c_sh_34, c_sh_35, c_sh_36, c_sh_37, c_sh_38, c_sh_39, c_R_10_0, c_R_10_4, c_R_10_5, c_R_10_6, c_R_12_0, c_R_12_1, c_R_12_2, c_R_12_3, c_R_12_4, c_R_12_5, c_R_12_6, c_R_12_7, c_R_12_8, c_R_12_9, c_R_23_0, c_R_23_1, c_R_23_2, c_R_27_0, c_R_27_1, c_R_29_0, c_R_29_2, c_R_29_15, c_R_29_16, c_R_29_17, c_R_29_18, c_R_29_19, c_R_29_20, c_R_29_21, c_R_29_23, c_R_23_3, o_aload, o_dup, o_getI, o_getR, o_ii, o_iload, o_lload, o_putI, o_putR, e_W_put_0, e_W_put_1, e_W_put_2, e_W_put_5, e_W_put_6, e_W_put_9, e_W_put_10, e_W_put_14, e_W_put_17, e_W_put_18, e_W_put_21, e_W_put_22, e_W_put_25, e_W_put_26, e_W_put_30, e_W_put_31, e_W_put_32, e_W_put_35, e_W_put_36, e_W_put_37, z_W_put_11, z_W_put_27, z_W_put_40, hl, e1, c_R_row, c_cl_0, c_cl_1, c_cl_2, c_cl_3, c_cl_4, c_cl_5, c_cl_6, c_cl_7, c_in7_0, c_in7_1, c_in7_2, c_in7_3, c_in7_4, c_in7_5, c_in7_6]
  refine hK _ (cl_W_put_27 (sp_X_putBytes l I L b (r := 28) (fr := out.length) rfl hX h8 hs) (by decide) (Nat.le_of_ble_eq_true rfl) (Nat.le_refl _) (Nat.le_refl _) ?_)
  rintro w g ⟨rfl, rfl⟩
  have e2 : c_pb 28 out.length X sz sz 0 I 27 2 = nI out.length := by rw [c_pb_ne (by decide)]; exact hl
  refine ct_Wp.go (A_W_put l) (by decide) [] 100 (fun K hK => ?_)
  simp only [ct_run_s, ct_nx_s, ct_hp, ct_lg, ct_s1, ct_d1, ct_s2, ct_d2, lv_args, Value.category, ct_u2_get, Option.toList, List.cons_append, List.nil_append, Nat.reduceAdd, Nat.reduceSub, Nat.reduceMul, Nat.reduceEqDiff, Nat.reduceLeDiff, Nat.reduceLT, true_and, and_true, and_self, if_true, if_false, reduceCtorEq, Prod.mk.injEq, List.length_cons, List.length_nil, false_and, and_false, not_false_eq_true, not_true_eq_false, true_implies, false_implies, implies_true, Bool.false_eq_true, ite_true, ite_false, reduceIte, or_true, true_or, or_false, false_or, c_sh_10, c_sh_11, c_sh_12, c_sh_13, c_sh_14, c_sh_15, c_sh_16, c_sh_17, c_sh_18, c_sh_19, c_sh_20, c_sh_21, c_sh_22, c_sh_23, c_sh_24, c_sh_25, c_sh_26, c_sh_27, c_sh_28, c_sh_29, c_sh_30, c_sh_31, c_sh_32, c_sh_33, c_sh_34, c_sh_35, c_sh_36, c_sh_37, c_sh_38, c_sh_39, c_R_10_0, c_R_10_4, c_R_10_5, c_R_10_6, c_R_12_0, c_R_12_1, c_R_12_2, c_R_12_3, c_R_12_4, c_R_12_5, c_R_12_6, c_R_12_7, c_R_12_8, c_R_12_9, c_R_23_0, c_R_23_1, c_R_23_2, c_R_27_0, c_R_27_1, c_R_29_0, c_R_29_2, c_R_29_15, c_R_29_16, c_R_29_17, c_R_29_18, c_R_29_19, c_R_29_20, c_R_29_21, c_R_29_23, c_R_23_3, o_aload, o_dup, o_getI, o_getR, o_ii, o_iload, o_lload, o_putI, o_putR, e_W_put_0, e_W_put_1, e_W_put_2, e_W_put_5, e_W_put_6, e_W_put_9, e_W_put_10, e_W_put_14, e_W_put_17, e_W_put_18, e_W_put_21, e_W_put_22, e_W_put_25, e_W_put_26, e_W_put_30, e_W_put_31, e_W_put_32, e_W_put_35, e_W_put_36, e_W_put_37, z_W_put_11, z_W_put_27, z_W_put_40, e2, e1, c_R_row, c_cl_0, c_cl_1, c_cl_2, c_cl_3, c_cl_4, c_cl_5, c_cl_6, c_cl_7, c_in7_0, c_in7_1, c_in7_2, c_in7_3, c_in7_4, c_in7_5, c_in7_6]
  exact hK _ (ct_Wp.ret none rfl d_W_put_40 ⟨rfl, _, rfl, hW.put hs⟩)
/-- how many bytes a type has: s, and those behind that aren't zero -/
def c_tsz (X : Nat) : Nat → Nat → Nat
  | 0, s => s
  | n + 1, s => if X / 2 ^ (8 * s) = 0 then s else c_tsz X n (s + 1)
theorem c_tsz_le (X : Nat) : ∀ n s, c_tsz X n s ≤ s + n
  | 0, s => Nat.le_refl _
  | n + 1, s => by
    unfold c_tsz
    split
    · omega
    · have := c_tsz_le X n (s + 1); omega
abbrev c_tyb (X : Nat) : List Nat := c_be X (c_tsz X 7 1)
set_option maxHeartbeats 800000 in
set_option maxRecDepth 100000 in
theorem sp_W_putType_loop (l : ct_Lx) (I : Nat → Nat → Int32) (L : Nat → Nat → Int64) (b : Bool) {J : Nat → Nat → Int32} {out : List Nat} {X : Nat} (hW : c_WR J I out) (hX : X < 2 ^ 63) : ∀ (n s : Nat), s + n = 8 → 1 ≤ s → out.length + c_tsz X n s ≤ 4096 → ct_Wp l M_W_putType 3 (fun w0 g => w0 = none ∧ ∃ I', g = c_g I' L b ∧ c_WR J I' (out ++ c_be X (c_tsz X n s))) (2, [(3, .int (nI s)), (0, .ref 27), (1, .long (lN X))], [], c_g I L b, 0, 0) := by
  have put : ∀ s, s ≤ 8 → out.length + s ≤ 4096 → ct_Wp l M_W_putType 3 (fun w0 g => w0 = none ∧ ∃ I', g = c_g I' L b ∧ c_WR J I' (out ++ c_be X s)) (28, [(3, .int (nI s)), (0, .ref 27), (1, .long (lN X))], [.int (nI s), .long (lN X), .ref 27], c_g I L b, 0, 0) := by
    intro s h8 hs
    refine cl_W_putType_28 rfl (sp_W_put l I L b hW (by omega) h8 hs) (by decide) (Nat.le_of_ble_eq_true rfl) (Nat.le_refl _) (Nat.le_refl _) ?_
    rintro w g ⟨rfl, I2, rfl, h2⟩
    refine ct_Wp.go (A_W_putType l) (by decide) [] 100 (fun K hK => ?_)
    simp only [ct_run_s, ct_nx_s, ct_hp, ct_lg, ct_s1, ct_d1, ct_s2, ct_d2, lv_args, Value.category, ct_u2_get, Option.toList, List.cons_append, List.nil_append, Nat.reduceAdd, Nat.reduceSub, Nat.reduceMul, Nat.reduceEqDiff, Nat.reduceLeDiff, Nat.reduceLT, true_and, and_true, and_self, if_true, if_false, reduceCtorEq, Prod.mk.injEq, List.length_cons, List.length_nil, false_and, and_false, not_false_eq_true, not_true_eq_false, true_implies, false_implies, implies_true, Bool.false_eq_true, ite_true, ite_false, reduceIte, or_true, true_or, or_false, false_or, c_sh_10, c_sh_11, c_sh_12, c_sh_13, c_sh_14, c_sh_15, c_sh_16, c_sh_17, c_sh_18, c_sh_19, c_sh_20, c_sh_21, c_sh_22, c_sh_23, c_sh_24, c_sh_25, c_sh_26, c_sh_27, c_sh_28, c_sh_29, c_sh_30, c_sh_31, c_sh_32, c_sh_33, c_sh_34, c_sh_35, c_sh_36, c_sh_37, c_sh_38, c_sh_39, c_R_10_0, c_R_10_4, c_R_10_5, c_R_10_6, c_R_12_0, c_R_12_1, c_R_12_2, c_R_12_3, c_R_12_4, c_R_12_5, c_R_12_6, c_R_12_7, c_R_12_8, c_R_12_9, c_R_23_0, c_R_23_1, c_R_23_2, c_R_27_0, c_R_27_1, c_R_29_0, c_R_29_2, c_R_29_15, c_R_29_16, c_R_29_17, c_R_29_18, c_R_29_19, c_R_29_20, c_R_29_21, c_R_29_23, c_R_23_3, o_aload, o_goto, o_ic, o_if, o_ii, o_iinc, o_iload, o_istore, o_lcmp, o_li, o_lload, o_push, e_W_putType_0, e_W_putType_1, e_W_putType_2, e_W_putType_3, e_W_putType_5, e_W_putType_8, e_W_putType_9, e_W_putType_11, e_W_putType_12, e_W_putType_13, e_W_putType_14, e_W_putType_15, e_W_putType_16, e_W_putType_19, e_W_putType_22, e_W_putType_25, e_W_putType_26, e_W_putType_27, z_W_putType_28, z_W_putType_31, c_cl_0, c_cl_1, c_cl_2, c_cl_3, c_cl_4, c_cl_5, c_cl_6, c_cl_7, c_in7_0, c_in7_1, c_in7_2, c_in7_3, c_in7_4, c_in7_5, c_in7_6]
    exact hK _ (ct_Wp.ret none rfl d_W_putType_31 ⟨rfl, _, rfl, h2⟩)
  intro n
  induction n with
  | zero =>
    intro s hs h1 hl
    have e : s = 8 := by omega
    subst e
    refine ct_Wp.go (A_W_putType l) (by decide) [2] 100 (fun K hK => ?_)
    simp only [ct_run_s, ct_nx_s, ct_hp, ct_lg, ct_s1, ct_d1, ct_s2, ct_d2, lv_args, Value.category, ct_u2_get, Option.toList, List.cons_append, List.nil_append, Nat.reduceAdd, Nat.reduceSub, Nat.reduceMul, Nat.reduceEqDiff, Nat.reduceLeDiff, Nat.reduceLT, true_and, and_true, and_self, if_true, if_false, reduceCtorEq, Prod.mk.injEq, List.length_cons, List.length_nil, false_and, and_false, not_false_eq_true, not_true_eq_false, true_implies, false_implies, implies_true, Bool.false_eq_true, ite_true, ite_false, reduceIte, or_true, true_or, or_false, false_or, c_sh_10, c_sh_11, c_sh_12, c_sh_13, c_sh_14, c_sh_15, c_sh_16, c_sh_17, c_sh_18, c_sh_19, c_sh_20, c_sh_21, c_sh_22, c_sh_23, c_sh_24, c_sh_25, c_sh_26, c_sh_27, c_sh_28, c_sh_29, c_sh_30, c_sh_31, c_sh_32, c_sh_33, c_sh_34, c_sh_35, c_sh_36, c_sh_37, c_sh_38, c_sh_39, c_R_10_0, c_R_10_4, c_R_10_5, c_R_10_6, c_R_12_0, c_R_12_1, c_R_12_2, c_R_12_3, c_R_12_4, c_R_12_5, c_R_12_6, c_R_12_7, c_R_12_8, c_R_12_9, c_R_23_0, c_R_23_1, c_R_23_2, c_R_27_0, c_R_27_1, c_R_29_0, c_R_29_2, c_R_29_15, c_R_29_16, c_R_29_17, c_R_29_18, c_R_29_19, c_R_29_20, c_R_29_21, c_R_29_23, c_R_23_3, o_aload, o_goto, o_ic, o_if, o_ii, o_iinc, o_iload, o_istore, o_lcmp, o_li, o_lload, o_push, e_W_putType_0, e_W_putType_1, e_W_putType_2, e_W_putType_3, e_W_putType_5, e_W_putType_8, e_W_putType_9, e_W_putType_11, e_W_putType_12, e_W_putType_13, e_W_putType_14, e_W_putType_15, e_W_putType_16, e_W_putType_19, e_W_putType_22, e_W_putType_25, e_W_putType_26, e_W_putType_27, z_W_putType_28, z_W_putType_31, c_cl_0, c_cl_1, c_cl_2, c_cl_3, c_cl_4, c_cl_5, c_cl_6, c_cl_7, c_in7_0, c_in7_1, c_in7_2, c_in7_3, c_in7_4, c_in7_5, c_in7_6]
    exact ⟨fun _ => hK _ (put 8 (by decide) hl), fun h => absurd (nI_le (a := 8) (Nat.le_refl _) (by decide)) h⟩
  | succ n ih =>
    intro s hs h1 hl
    have e1 : 8 * nI s = nI (8 * s) := pk_mul 8 _
    have e2 := wb_shr (n := X) (k := 8 * s) (by omega) (by omega)
    have hlt : X / 2 ^ (8 * s) < 2 ^ 63 := Nat.lt_of_le_of_lt (Nat.div_le_self _ _) hX
    refine ct_Wp.go (A_W_putType l) (by decide) [2] 100 (fun K hK => ?_)
    simp only [ct_run_s, ct_nx_s, ct_hp, ct_lg, ct_s1, ct_d1, ct_s2, ct_d2, lv_args, Value.category, ct_u2_get, Option.toList, List.cons_append, List.nil_append, Nat.reduceAdd, Nat.reduceSub, Nat.reduceMul, Nat.reduceEqDiff, Nat.reduceLeDiff, Nat.reduceLT, true_and, and_true, and_self, if_true, if_false, reduceCtorEq, Prod.mk.injEq, List.length_cons, List.length_nil, false_and, and_false, not_false_eq_true, not_true_eq_false, true_implies, false_implies, implies_true, Bool.false_eq_true, ite_true, ite_false, reduceIte, or_true, true_or, or_false, false_or, c_sh_10, c_sh_11, c_sh_12, c_sh_13, c_sh_14, c_sh_15, c_sh_16, c_sh_17, c_sh_18, c_sh_19, c_sh_20, c_sh_21, c_sh_22, c_sh_23, c_sh_24, c_sh_25, c_sh_26, c_sh_27, c_sh_28, c_sh_29, c_sh_30, c_sh_31, c_sh_32, c_sh_33, c_sh_34, c_sh_35, c_sh_36, c_sh_37, c_sh_38, c_sh_39, c_R_10_0, c_R_10_4, c_R_10_5, c_R_10_6, c_R_12_0, c_R_12_1, c_R_12_2, c_R_12_3, c_R_12_4, c_R_12_5, c_R_12_6, c_R_12_7, c_R_12_8, c_R_12_9, c_R_23_0, c_R_23_1, c_R_23_2, c_R_27_0, c_R_27_1, c_R_29_0, c_R_29_2, c_R_29_15, c_R_29_16, c_R_29_17, c_R_29_18, c_R_29_19, c_R_29_20, c_R_29_21, c_R_29_23, c_R_23_3, o_aload, o_goto, o_ic, o_if, o_ii, o_iinc, o_iload, o_istore, o_lcmp, o_li, o_lload, o_push, e_W_putType_0, e_W_putType_1, e_W_putType_2, e_W_putType_3, e_W_putType_5, e_W_putType_8, e_W_putType_9, e_W_putType_11, e_W_putType_12, e_W_putType_13, e_W_putType_14, e_W_putType_15, e_W_putType_16, e_W_putType_19, e_W_putType_22, e_W_putType_25, e_W_putType_26, e_W_putType_27, z_W_putType_28, z_W_putType_31, e1, e2, nI_1, c_cl_0, c_cl_1, c_cl_2, c_cl_3, c_cl_4, c_cl_5, c_cl_6, c_cl_7, c_in7_0, c_in7_1, c_in7_2, c_in7_3, c_in7_4, c_in7_5, c_in7_6]
    rw [show (0 : Int64) = lN 0 from rfl, c_lc_eq hlt (by decide)]
    refine ⟨fun h => absurd h (nI_ge (b := 8) (by omega) (by decide)), fun _ => ⟨fun q => hK _ ?_, fun q => hK _ ?_⟩⟩
    · rw [c_tsz, if_pos q] at hl ⊢
      exact put s (by omega) hl
    · rw [c_tsz, if_neg q] at hl ⊢
      exact ih (s + 1) (by omega) (by omega) hl
set_option maxHeartbeats 800000 in
set_option maxRecDepth 100000 in
theorem sp_W_putType (l : ct_Lx) (I : Nat → Nat → Int32) (L : Nat → Nat → Int64) (b : Bool) {J : Nat → Nat → Int32} {out : List Nat} {X : Nat} (hW : c_WR J I out) (hX : X < 2 ^ 63) (hs : out.length + (c_tyb X).length ≤ 4096) : ct_Me l M_W_putType 3 0 0 [.ref 27, .long (lN X)] (c_g I L b) (fun w0 g => w0 = none ∧ ∃ I', g = c_g I' L b ∧ c_WR J I' (out ++ c_tyb X)) := by
  refine ct_Me.of (by decide) (Nat.le_of_ble_eq_true rfl) (fun v g h => by rw [h.1]; rfl) ?_
  rw [c_be_len] at hs
  refine ct_Wp.go (A_W_putType l) (by decide) [2] 100 (fun K hK => ?_)
  simp only [ct_run_s, ct_nx_s, ct_hp, ct_lg, ct_s1, ct_d1, ct_s2, ct_d2, lv_args, Value.category, ct_u2_get, Option.toList, List.cons_append, List.nil_append, Nat.reduceAdd, Nat.reduceSub, Nat.reduceMul, Nat.reduceEqDiff, Nat.reduceLeDiff, Nat.reduceLT, true_and, and_true, and_self, if_true, if_false, reduceCtorEq, Prod.mk.injEq, List.length_cons, List.length_nil, false_and, and_false, not_false_eq_true, not_true_eq_false, true_implies, false_implies, implies_true, Bool.false_eq_true, ite_true, ite_false, reduceIte, or_true, true_or, or_false, false_or, c_sh_10, c_sh_11, c_sh_12, c_sh_13, c_sh_14, c_sh_15, c_sh_16, c_sh_17, c_sh_18, c_sh_19, c_sh_20, c_sh_21, c_sh_22, c_sh_23, c_sh_24, c_sh_25, c_sh_26, c_sh_27, c_sh_28, c_sh_29, c_sh_30, c_sh_31, c_sh_32, c_sh_33, c_sh_34, c_sh_35, c_sh_36, c_sh_37, c_sh_38, c_sh_39, c_R_10_0, c_R_10_4, c_R_10_5, c_R_10_6, c_R_12_0, c_R_12_1, c_R_12_2, c_R_12_3, c_R_12_4, c_R_12_5, c_R_12_6, c_R_12_7, c_R_12_8, c_R_12_9, c_R_23_0, c_R_23_1, c_R_23_2, c_R_27_0, c_R_27_1, c_R_29_0, c_R_29_2, c_R_29_15, c_R_29_16, c_R_29_17, c_R_29_18, c_R_29_19, c_R_29_20, c_R_29_21, c_R_29_23, c_R_23_3, o_aload, o_goto, o_ic, o_if, o_ii, o_iinc, o_iload, o_istore, o_lcmp, o_li, o_lload, o_push, e_W_putType_0, e_W_putType_1, e_W_putType_2, e_W_putType_3, e_W_putType_5, e_W_putType_8, e_W_putType_9, e_W_putType_11, e_W_putType_12, e_W_putType_13, e_W_putType_14, e_W_putType_15, e_W_putType_16, e_W_putType_19, e_W_putType_22, e_W_putType_25, e_W_putType_26, e_W_putType_27, z_W_putType_28, z_W_putType_31, c_cl_0, c_cl_1, c_cl_2, c_cl_3, c_cl_4, c_cl_5, c_cl_6, c_cl_7, c_in7_0, c_in7_1, c_in7_2, c_in7_3, c_in7_4, c_in7_5, c_in7_6]
  exact hK _ (sp_W_putType_loop l I L b hW hX 7 1 rfl (Nat.le_refl _) hs)
