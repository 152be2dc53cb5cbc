/-! PURE: which cells a walk leaves alone, whatever it finds -/
def fr_h (h : Nat) : Prop := ¬ h = 13 ∧ ¬ h = 14 ∧ ¬ h = 16 ∧ ¬ h = 19 ∧ ¬ h = 20 ∧ ¬ h = 24
theorem fr_u2 {I : Nat → Nat → Int32} {a k : Nat} {x : Int32} {h : Nat} (hh : ¬ h = a) : ct_u2 I a k x h = I h := by
  funext j; rw [ct_u2_get, if_neg (fun z => hh z.1)]
theorem fr_lp {f : Nat → c_S → c_S} {h : Nat} (hf : ∀ k S, (f k S).2.1 h = S.2.1 h) : ∀ n k S, (c_lp f n k S).2.1 h = S.2.1 h
  | 0, _, _ => rfl
  | n + 1, k, S => by
    unfold c_lp; split
    · rw [fr_lp hf n (k + 1), hf]
    · rfl
theorem fr_rS {B : Nat → Nat} {ln : Nat} {lu : Bool} {S : c_S} {h : Nat} (hh : fr_h h) : (c_rS B ln lu S).2.1 h = S.2.1 h := by
  obtain ⟨h13, h14, h16, h19, h20, h24⟩ := hh
  unfold c_rS
  rw [fr_lp (fun k S => by unfold c_rs1; dsimp only; rw [fr_u2 h14, fr_u2 h14, fr_u2 h14, fr_u2 h14, fr_u2 h24])]
  exact fr_u2 h13
theorem fr_rF {B : Nat → Nat} {ln : Nat} {S : c_S} {h : Nat} (hh : fr_h h) : (c_rF B ln S).2.1 h = S.2.1 h := by
  obtain ⟨h13, h14, h16, h19, h20, h24⟩ := hh
  unfold c_rF
  rw [fr_lp (fun k S => by unfold c_rf1; dsimp only; rw [fr_u2 h14, fr_u2 h14, fr_u2 h14, fr_u2 h14])]
  exact fr_u2 h13
theorem fr_rg1 {B : Nat → Nat} {ln : Nat} {lu : Bool} {s : Nat} {S : c_S} {h : Nat} (hh : fr_h h) : (c_rg1 B ln lu s S).2.1 h = S.2.1 h := by
  obtain ⟨h13, h14, h16, h19, h20, h24⟩ := hh
  unfold c_rg1; dsimp only; rw [fr_u2 h16, fr_u2 h16, fr_u2 h16]
theorem fr_rH {B : Nat → Nat} {ln : Nat} {lu : Bool} {S : c_S} {h : Nat} (hh : fr_h h) : (c_rH B ln lu S).2.1 h = S.2.1 h := by
  have hh' := hh
  obtain ⟨h13, h14, h16, h19, h20, h24⟩ := hh
  unfold c_rH
  rw [fr_lp (fun k S => by unfold c_rh1; dsimp only; rw [fr_u2 h16, fr_u2 h16, fr_rg1 hh']; unfold c_rh0; dsimp only; rw [fr_u2 h16, fr_u2 h16])]
  exact fr_u2 h13
theorem fr_rE {B : Nat → Nat} {ln : Nat} {lu : Bool} {S : c_S} {h : Nat} (hh : fr_h h) : (c_rE B ln lu S).2.1 h = S.2.1 h := by
  unfold c_rE; exact fr_u2 hh.1
theorem fr_rN {B : Nat → Nat} {ln : Nat} {lu : Bool} {S : c_S} {h : Nat} (hh : fr_h h) : (c_rN B ln lu S).2.1 h = S.2.1 h := by
  have hh' := hh
  obtain ⟨h13, h14, h16, h19, h20, h24⟩ := hh
  unfold c_rN
  rw [fr_lp (fun k S => by
    unfold c_rn1 c_rc
    rw [fr_lp (fun k S => by unfold c_ri1; dsimp only; rw [fr_u2 h20])]
    unfold c_rc0; dsimp only
    rw [fr_u2 h13, fr_u2 h19, fr_u2 h16]
    unfold c_rn2; dsimp only
    rw [fr_u2 h16]
    unfold c_rn0
    rw [fr_rg1 hh']; dsimp only
    rw [fr_u2 h16, fr_u2 h16])]
  dsimp only
  rw [fr_u2 h13, fr_u2 h13]
theorem fr_w6 {ln : Nat} (S : c_S) : (c_w6 ln S).2.1 = S.2.1 := by unfold c_w6; split <;> rfl
theorem fr_wn {B : Nat → Nat} {ln : Nat} {S : c_S} {h : Nat} (hh : fr_h h) : (c_wn B ln S).2.1 h = S.2.1 h := by unfold c_wn; exact fr_u2 hh.1
theorem fr_wf {B : Nat → Nat} {ln : Nat} {lu : Bool} {c : c_Cu} {I : Nat → Nat → Int32} {L : Nat → Nat → Int64} {h : Nat} (hh : fr_h h) : (c_wf B ln lu c I L).2.1 h = I h := by
  unfold c_wf
  rw [fr_w6]
  unfold c_wt
  rw [fr_rN hh, fr_rE hh, fr_rH hh, fr_rF hh, fr_rS hh, fr_wn hh]
/-! the reference -/
def fm_h (h : Nat) : Prop := ¬ h = 29 ∧ ¬ h = 32 ∧ ¬ h = 33 ∧ ¬ h = 34 ∧ ¬ h = 35 ∧ ¬ h = 36 ∧ ¬ h = 37
theorem fm_lp {f : Nat → m_S → m_S} {h k : Nat} (hf : ∀ j Z, (f j Z).2 h k = Z.2 h k) : ∀ n j Z, (m_lp f n j Z).2 h k = Z.2 h k
  | 0, _, _ => rfl
  | n + 1, j, Z => by
    unfold m_lp; split
    · rw [fm_lp hf n (j + 1), hf]
    · rfl
theorem fm_u2 {I : Nat → Nat → Int32} {a c : Nat} {x : Int32} {h k : Nat} (hh : ¬ (h = a ∧ k = c)) : ct_u2 I a c x h k = I h k := by
  rw [ct_u2_get, if_neg hh]
def fm_k (h k : Nat) : Prop := fm_h h ∨ (h = 29 ∧ (k < 9 ∨ 14 < k))
theorem fm_d {h k : Nat} (hh : fm_k h k) : ∀ a c, (a = 29 ∧ 9 ≤ c ∧ c ≤ 14) ∨ (32 ≤ a ∧ a ≤ 37) → ¬ (h = a ∧ k = c) := by
  intro a c q z
  unfold fm_k fm_h at hh
  omega
theorem fm_pN {B : Nat → Nat} {ln : Nat} {Z : m_S} {h k : Nat} (hh : fm_k h k) : (m_pN B ln Z).2 h k = Z.2 h k := by
  have d35 : ¬ h = 35 := by unfold fm_k fm_h at hh; omega
  have d36 : ¬ h = 36 := by unfold fm_k fm_h at hh; omega
  have d37 : ¬ h = 37 := by unfold fm_k fm_h at hh; omega
  have d14 : ¬ h = 29 ∨ ¬ k = 14 := by unfold fm_k fm_h at hh; omega
  unfold m_pN
  rw [fm_lp (fun j Z => m_of_at d35 d36 d37 d14)]
  exact fm_u2 (fm_d hh 29 13 (by omega))
theorem fm_pE {B : Nat → Nat} {ln : Nat} {Z : m_S} {h k : Nat} (hh : fm_k h k) : (m_pE B ln Z).2 h k = Z.2 h k := by
  unfold m_pE
  rw [fm_lp (fun j Z => by unfold m_e1o; exact fm_u2 (fm_d hh 34 j (by omega)))]
  exact fm_u2 (fm_d hh 29 12 (by omega))
theorem fm_pC {B : Nat → Nat} {ln : Nat} {Z : m_S} {h k : Nat} (hh : fm_k h k) : (m_pC B ln Z).2 h k = Z.2 h k := by
  unfold m_pC
  rw [fm_lp (fun j Z => by unfold m_c1o; exact fm_u2 (fm_d hh 33 j (by omega)))]
  exact fm_u2 (fm_d hh 29 11 (by omega))
theorem fm_pF {B : Nat → Nat} {ln : Nat} {Z : m_S} {h k : Nat} (hh : fm_k h k) : (m_pF B ln Z).2 h k = Z.2 h k := by
  unfold m_pF
  rw [fm_lp (fun j Z => by unfold m_f1o; exact fm_u2 (fm_d hh 32 _ (by omega)))]
  exact fm_u2 (fm_d hh 29 10 (by omega))
theorem fm_pS {B : Nat → Nat} {ln : Nat} {Z : m_S} {h k : Nat} (hh : fm_k h k) : (m_pS B ln Z).2 h k = Z.2 h k := by
  unfold m_pS
  rw [fm_lp (fun j Z => by unfold m_s1; exact fm_u2 (fm_d hh 32 j (by omega)))]
  exact fm_u2 (fm_d hh 29 9 (by omega))
theorem fm_p6 {ln : Nat} (Y : m_S) : (m_p6 ln Y).2 = Y.2 := by unfold m_p6; split <;> rfl
theorem fm_oA {B : Nat → Nat} {ln : Nat} {Z : m_S} {h k : Nat} (hh : fm_k h k) : (m_oA B ln Z).2 h k = Z.2 h k := by
  unfold m_oA
  rw [fm_p6, fm_pN hh, fm_pE hh, fm_pC hh, fm_pF hh, fm_pS hh]
/-! what holds of both objects between two calls -/
theorem T_F_same {B : Nat → Nat} {m : Nat} {I I' : Nat → Nat → Int32} {L : Nat → Nat → Int64} (h : T_F B m I L) (h13 : I' 13 = I 13) (h14 : I' 14 = I 14) (h16 : I' 16 = I 16) (h19 : I' 19 = I 19) (h20 : I' 20 = I 20) (h24 : I' 24 = I 24) : T_F B m I' L := by
  simp only [T_F, f_S, f_F, f_H, f_G, f_N, f_C, h13, h14, h16, h19, h20, h24] at h ⊢
  exact h
theorem w_M_same {B : Nat → Nat} {m : Nat} {I I' : Nat → Nat → Int32} (h : w_M B m I) (h29 : ∀ k, 9 ≤ k → k ≤ 14 → I' 29 k = I 29 k) (ho : ∀ a, 32 ≤ a → a ≤ 37 → I' a = I a) : w_M B m I' := by
  obtain ⟨w1, w2, w3, w4, w5, w6, w7, w8⟩ := h
  have eIA : v_IA I' = v_IA I := by funext i; unfold v_IA; rw [ho 37 (by decide) (by decide)]
  refine ⟨⟨fun k a b => ?_, w1.2⟩, fun k a => ?_, fun k a => ?_, fun k a => ?_, fun k a => ?_, fun f a => ?_, ?_, ?_⟩
  · rw [h29 k a (by omega)]; exact w1.1 k a b
  · rw [ho 32 (by decide) (by decide)]; exact w2 k a
  · rw [ho 33 (by decide) (by decide)]; exact w3 k a
  · rw [ho 34 (by decide) (by decide)]; exact w4 k a
  · rw [ho 35 (by decide) (by decide)]; exact w5 k a
  · rw [ho 36 (by decide) (by decide), ho 37 (by decide) (by decide), eIA]; exact w6 f a
  · rw [h29 14 (by decide) (by decide)]; exact w7
  · rw [eIA]; exact w8
theorem m_E_same {B : Nat → Nat} {m : Nat} {I I' : Nat → Nat → Int32} (h : m_E B m I) (h31 : I' 31 = I 31) (h3 : I' 29 3 = I 29 3) : m_E B m I' := by
  refine ⟨?_, by rw [h3]; exact h.2⟩
  rw [← h.1]; funext p; unfold m_B; rw [h31]
def n_I (ln wl : Nat) (I : Nat → Nat → Int32) (L : Nat → Nat → Int64) : Prop := (I 10 1 = nI ln ∧ I 29 1 = nI ln ∧ ∀ j, j < ln → (I 11 j).toBitVec.toNat % 256 = (I 30 j).toBitVec.toNat % 256) ∧ I 10 2 = I 29 8 ∧ ((∃ lu : Bool, I 23 6 = if lu = true then 1 else 0) ∧ c_W I) ∧ (I 27 2 = nI wl ∧ I 29 22 = nI wl ∧ wl ≤ 4096 ∧ ∀ j, j < wl → (I 28 j).toBitVec.toNat % 256 = (I 38 j).toBitVec.toNat % 256) ∧ ((∃ B m, n_Q B m I L) ∨ n_0 I)
theorem n_Q.same {B : Nat → Nat} {m : Nat} {I I' : Nat → Nat → Int32} {L : Nat → Nat → Int64} (h : n_Q B m I L) (ho : ∀ a, ¬ a = 10 → ¬ a = 11 → ¬ a = 27 → ¬ a = 28 → ¬ a = 29 → ¬ a = 30 → ¬ a = 38 → I' a = I a) (h10 : I' 10 3 = I 10 3) (h29 : ∀ k, ¬ k = 1 → ¬ k = 22 → I' 29 k = I 29 k) : n_Q B m I' L := by
  obtain ⟨hB, hm, hM, hT, hE, hW, h3, h4⟩ := h
  refine ⟨hB, hm, hM, T_F_same hT ?_ ?_ ?_ ?_ ?_ ?_, m_E_same hE ?_ (h29 3 (by decide) (by decide)), w_M_same hW (fun k a b => h29 k (by omega) (by omega)) (fun a b c => ho a (by omega) (by omega) (by omega) (by omega) (by omega) (by omega) (by omega)), by rw [h10]; exact h3, by rw [h29 4 (by decide) (by decide)]; exact h4⟩ <;> exact ho _ (by decide) (by decide) (by decide) (by decide) (by decide) (by decide) (by decide)
theorem n_keep {I I' : Nat → Nat → Int32} {L : Nat → Nat → Int64} (h : (∃ B m, n_Q B m I L) ∨ n_0 I) (ho : ∀ a, ¬ a = 10 → ¬ a = 11 → ¬ a = 27 → ¬ a = 28 → ¬ a = 29 → ¬ a = 30 → ¬ a = 38 → I' a = I a) (h10 : I' 10 3 = I 10 3) (h29 : ∀ k, ¬ k = 1 → ¬ k = 22 → I' 29 k = I 29 k) : (∃ B m, n_Q B m I' L) ∨ n_0 I' := by
  rcases h with ⟨B, m, h⟩ | ⟨h3, h4⟩
  · exact Or.inl ⟨B, m, h.same ho h10 h29⟩
  · exact Or.inr ⟨by rw [h10]; exact h3, by rw [h29 4 (by decide) (by decide)]; exact h4⟩
theorem c_W_same {I I' : Nat → Nat → Int32} (h : c_W I) (e : I' 13 = I 13) : c_W I' := by
  have eN : c_N I' = c_N I := by funext k; unfold c_N; rw [e]
  unfold c_W; rw [eN, e]; exact h
/-- after type -/
theorem n_I.type {ln wl X n : Nat} {I I' : Nat → Nat → Int32} {L : Nat → Nat → Int64} (h : n_I ln wl I L) (h1 : 1 ≤ n) (hT : m_TR (ct_u2 (c_pb 11 ln X n n 0 I) 10 1 (nI (ln + n))) I' ln X n) : n_I (ln + n) wl I' L := by
  obtain ⟨⟨a1, a2, a3⟩, b1, ⟨c1, c2⟩, ⟨d1, d2, d3, d4⟩, e1⟩ := h
  obtain ⟨t1, t2, t3, t4, t5⟩ := hT
  have hp : ∀ a, ¬ a = 11 → ¬ a = 10 → ct_u2 (c_pb 11 ln X n n 0 I) 10 1 (nI (ln + n)) a = I a := fun a q1 q2 => by
    funext k; rw [ct_u2_get, if_neg (fun z => q2 z.1), c_pb_ne q1]
  have ho : ∀ a, ¬ a = 10 → ¬ a = 11 → ¬ a = 29 → ¬ a = 30 → I' a = I a := fun a q1 q2 q3 q4 => by rw [t1 a q4 q3, hp a q2 q1]
  have h29 : ∀ k, ¬ k = 1 → I' 29 k = I 29 k := fun k q => by rw [t2 k q, hp 29 (by decide) (by decide)]
  have h10 : ∀ k, I' 10 k = if k = 1 then nI (ln + n) else I 10 k := fun k => by
    rw [t1 10 (by decide) (by decide), ct_u2_get]
    by_cases q : k = 1
    · rw [if_pos ⟨rfl, q⟩, if_pos q]
    · rw [if_neg (fun z => q z.2), if_neg q, c_pb_ne (by decide)]
  have h11 : ∀ j, I' 11 j = c_pb 11 ln X n n 0 I 11 j := fun j => by rw [t1 11 (by decide) (by decide), ct_u2_get, if_neg (by omega)]
  refine ⟨⟨by rw [h10 1]; rfl, t3, fun j hj => ?_⟩, ?_, ⟨?_, ?_⟩, ⟨?_, ?_, d3, fun j hj => ?_⟩, n_keep e1 (fun a q1 q2 _ _ q3 q4 _ => ho a q1 q2 q3 q4) (by rw [h10 3]; rfl) (fun k q _ => h29 k q)⟩
  · rw [h11 j, c_pb_at]
    by_cases q : j < ln
    · rw [if_neg (by omega), t4 j q, hp 30 (by decide) (by decide)]; exact a3 j q
    · rw [if_pos (by omega), c_by_mod]
      have := t5 (j - ln) (by omega)
      rw [show ln + (j - ln) = j from by omega] at this
      exact this.symm
  · rw [h10 2, h29 8 (by decide)]; exact b1
  · obtain ⟨lu, e⟩ := c1
    exact ⟨lu, by rw [ho 23 (by decide) (by decide) (by decide) (by decide)]; exact e⟩
  · exact c_W_same c2 (ho 13 (by decide) (by decide) (by decide) (by decide))
  · rw [ho 27 (by decide) (by decide) (by decide) (by decide)]; exact d1
  · rw [h29 22 (by decide)]; exact d2
  · rw [ho 28 (by decide) (by decide) (by decide) (by decide), ho 38 (by decide) (by decide) (by decide) (by decide)]; exact d4 j hj
/-- after write -/
theorem n_I.write {ln wl m : Nat} {B : Nat → Nat} {I I1 I2 : Nat → Nat → Int32} {L : Nat → Nat → Int64} (h : n_I ln wl I L) (hQ : n_Q B m I L) (hR : c_WR I I1 (sg B 0 m)) (hC : m_CP 38 31 I1 I2 m) : n_I ln m (ct_u2 I2 29 22 (nI m)) L := by
  obtain ⟨⟨a1, a2, a3⟩, b1, ⟨c1, c2⟩, -, -⟩ := h
  have hm := hQ.2.1
  have hE := hQ.2.2.2.2.1
  have hR1 := hR.1
  have ho : ∀ a, ¬ a = 27 → ¬ a = 28 → ¬ a = 29 → ¬ a = 38 → ct_u2 I2 29 22 (nI m) a = I a := fun a q1 q2 q3 q4 => by
    funext k; rw [ct_u2_get, if_neg (fun z => q3 z.1), hC.1 a q4, hR.1 a q1 q2]
  have h29 : ∀ k, ¬ k = 22 → ct_u2 I2 29 22 (nI m) 29 k = I 29 k := fun k q => by
    rw [ct_u2_get, if_neg (fun z => q z.2), hC.1 29 (by decide), hR.1 29 (by decide) (by decide)]
  have hlen : (sg B 0 m).length = m := by rw [sg_len]; rfl
  obtain ⟨-, r2, r3, r4⟩ := hR
  rw [hlen] at r2 r3 r4
  refine ⟨⟨?_, ?_, fun j hj => ?_⟩, ?_, ⟨?_, ?_⟩, ⟨?_, ?_, hm, fun j hj => ?_⟩, Or.inl ⟨B, m, hQ.same (fun a q1 q2 q3 q4 q5 q6 q7 => ho a q3 q4 q5 q7) ?_ (fun k _ q => h29 k q)⟩⟩
  · rw [ho 10 (by decide) (by decide) (by decide) (by decide)]; exact a1
  · rw [h29 1 (by decide)]; exact a2
  · rw [ho 11 (by decide) (by decide) (by decide) (by decide), ho 30 (by decide) (by decide) (by decide) (by decide)]; exact a3 j hj
  · rw [ho 10 (by decide) (by decide) (by decide) (by decide), h29 8 (by decide)]; exact b1
  · obtain ⟨lu, e⟩ := c1
    exact ⟨lu, by rw [ho 23 (by decide) (by decide) (by decide) (by decide)]; exact e⟩
  · exact c_W_same c2 (ho 13 (by decide) (by decide) (by decide) (by decide))
  · rw [ct_u2_get, if_neg (by omega), hC.1 27 (by decide)]; exact r2
  · rw [ct_u2_get, if_pos ⟨rfl, rfl⟩]
  · have e1 : ct_u2 I2 29 22 (nI m) 28 j = I1 28 j := by rw [ct_u2_get, if_neg (by omega), hC.1 28 (by decide)]
    have e2 : ct_u2 I2 29 22 (nI m) 38 j = I2 38 j := by rw [ct_u2_get, if_neg (by omega)]
    rw [e1, e2, hC.2 j hj, m_nar_mod]
    have e3 : (I1 28 j).toBitVec.toNat % 256 = (sg B 0 m).getD j 0 := r4 j hj
    have e4 : (sg B 0 m).getD j 0 = B j := by
      unfold sg
      rw [List.getD_eq_getElem?_getD, List.getElem?_map, List.getElem?_range (by omega)]
      show B (0 + j) = B j
      rw [Nat.zero_add]
    have e5 : I1 31 j = I 31 j := by rw [hR1 31 (by decide) (by decide)]
    rw [e3, e4, e5, ← hE.1]
    unfold m_B
    rw [if_pos hj]
  · rw [ho 10 (by decide) (by decide) (by decide) (by decide)]
