/-! BOTH SIDES: write -/
theorem c_ft_in {I : Nat → Nat → Int32} {L : Nat → Nat → Int64} {n k i c : Nat} (hk : k < n) (hn : n < 2 ^ 31) (hc : I 14 (k * 4 + 1) = nI c) (hi : i < c) (hc2 : c < 2 ^ 31) : c_ft I L n (nI k) (nI i) = L 15 (k * 16 + i) := by
  have e : c_sf I n (nI k) 1 = nI c := by rw [← hc]; exact c_sf_in (w := 1) hk hn (by decide)
  unfold c_ft
  rw [e, if_neg (fun z => by
    rcases z with z | z
    · exact nI_pos (by omega) z
    · exact nI_ge hi hc2 z), nI_clamp (by omega), nI_clamp (by omega)]
theorem c_lt_in {I : Nat → Nat → Int32} {L : Nat → Nat → Int64} {n5 n3 f k i c : Nat} (hf : f < n5 + n3) (hn : n5 + n3 < 2 ^ 31) (hk : k < 3) (hc : I 16 (c_slot n5 f * 7 + (1 + k)) = nI c) (hi : i < c) (hc2 : c < 2 ^ 31) : c_lt I L n5 n3 (nI f) (nI k) (nI i) = L 17 (c_slot n5 f * 48 + k * 8 + i) := by
  have e1 : (1 : Int32) + nI k = nI (1 + k) := nI_add 1 k
  unfold c_lt
  rw [e1, c_ffN hf hn (by omega), hc, if_neg (fun y => by
    rcases y with y | y | y | y
    · exact nI_pos (by omega) y
    · exact nI_ge (b := 3) hk (by decide) y
    · exact nI_pos (by omega) y
    · exact y (nI_lt hi hc2)), nI_clamp (by omega), nI_clamp (by omega), nI_clamp (by omega)]
theorem num2_lt {B : Nat → Nat} (hB : ∀ j, B j < 256) (p : Nat) : c_num B p 2 < 65536 := c_num_lt hB p 2
theorem n_put (l : ct_Lx) {B : Nat → Nat} {m : Nat} {I : Nat → Nat → Int32} {L : Nat → Nat → Int64} (b : Bool) (hQ : n_Q B m I L) : ct_Me l M_W_putModule 6 0 0 [.ref 27] (c_g I L b) (fun w0 g => w0 = none ∧ ∃ I', g = c_g I' L b ∧ c_WR I I' (sg B 0 m)) := by
  have hf := hQ.hf
  have hg := hQ.hg
  have hle := hQ.le
  obtain ⟨hB, hm, hM, hT, hE, hW, h3, h4⟩ := hQ
  obtain ⟨⟨t0, t1, t2, t3, t4, t5, t6⟩, tS, tF, tH, tE, tN⟩ := hT
  obtain ⟨z0, z1, z2, z3, z4, z5, z6⟩ := hM
  have b6 := z1.2.1
  have bF := z2.2.1
  have bC := z3.2.1
  have bE : B (v_qE B m) ≤ 32 := z4.2.2.1
  have bN := z5.2.1
  have big : ∀ {rf p}, v_T B m rf p → v_v B m p < 2 ^ 63 := fun h => Nat.lt_of_lt_of_le (v_v_lt hB h) (by decide)
  have eM : c_eM (m_fn B 4) (c_eS (fun k => B (v_pS B m 7 k)) (fun k => B (v_pS B m 7 k + 1)) (fun k i => v_v B m (m_tn B m i (v_pS B m 7 k + 2))) (B 6)) (c_eF (fun k => c_num B (v_qF B m + 1 + 4 * k) 2) (fun k => B (v_qF B m + 1 + 4 * k + 2)) (fun k => B (v_qF B m + 1 + 4 * k + 3)) (B (v_qF B m))) (c_eH (fun k => c_num B (v_CA B m k) 2) (fun k => B (v_CA B m k + 2)) (fun k => B (v_CA B m k + 3)) (fun k => B (v_CA B m k + 3 + 1)) (fun k => B (m_le B m (v_CA B m k + 3 + 1))) (fun k j => v_v B m (m_tn B m j (v_CA B m k + 3 + 1 + 1))) (fun k j => v_v B m (m_tn B m j (m_le B m (v_CA B m k + 3 + 1) + 1))) (B (v_qC B m))) (c_ePE (fun k => v_v B m (m_tn B m k (v_qE B m + 1))) (B (v_qE B m))) (c_eN (fun f => B (v_FA B m f)) (fun f k => B (m_ln B m k (v_FA B m f + 1))) (fun f k j => v_v B m (m_tn B m j (m_ln B m k (v_FA B m f + 1) + 1))) (fun f => v_ct B m (v_FA B m f)) (fun f i => B (v_ip B (v_fa B m (v_FA B m f) + 2) i)) (fun f i => v_o1 B (v_ip B (v_fa B m (v_FA B m f) + 2) i)) (fun f i => v_o2 B (v_ip B (v_fa B m (v_FA B m f) + 2) i)) (B (v_qN B m))) = sg B 0 m := by
    obtain ⟨s1, s2⟩ := sg_S hB z1
    have s3 := sg_F hB z2
    obtain ⟨s4, s5⟩ := sg_H hB z3
    obtain ⟨s6, s7⟩ := sg_list hB z4
    have s8 := sg_N hB z5
    have lN := v_pN_le (B := B) (ln := m) (p := v_qN B m + 1) z5.1 (B (v_qN B m)) z5.2.2
    have e1 : c_eS (fun k => B (v_pS B m 7 k)) (fun k => B (v_pS B m 7 k + 1)) (fun k i => v_v B m (m_tn B m i (v_pS B m 7 k + 2))) (B 6) = sg B 6 (v_qF B m) := s1
    have e2 : 6 ≤ v_qF B m := s2
    have e3 : c_eF (fun k => c_num B (v_qF B m + 1 + 4 * k) 2) (fun k => B (v_qF B m + 1 + 4 * k + 2)) (fun k => B (v_qF B m + 1 + 4 * k + 3)) (B (v_qF B m)) = sg B (v_qF B m) (v_qC B m) := s3
    have e4 : v_qF B m ≤ v_qC B m := by unfold v_qC; omega
    have e5 : c_eH (fun k => c_num B (v_CA B m k) 2) (fun k => B (v_CA B m k + 2)) (fun k => B (v_CA B m k + 3)) (fun k => B (v_CA B m k + 3 + 1)) (fun k => B (m_le B m (v_CA B m k + 3 + 1))) (fun k j => v_v B m (m_tn B m j (v_CA B m k + 3 + 1 + 1))) (fun k j => v_v B m (m_tn B m j (m_le B m (v_CA B m k + 3 + 1) + 1))) (B (v_qC B m)) = sg B (v_qC B m) (v_qE B m) := s4
    have e6 : v_qC B m ≤ v_qE B m := s5
    have e7 : c_ePE (fun k => v_v B m (m_tn B m k (v_qE B m + 1))) (B (v_qE B m)) = sg B (v_qE B m) (v_qN B m) := s6
    have e8 : v_qE B m ≤ v_qN B m := s7
    have e9 : c_eN (fun f => B (v_FA B m f)) (fun f k => B (m_ln B m k (v_FA B m f + 1))) (fun f k j => v_v B m (m_tn B m j (m_ln B m k (v_FA B m f + 1) + 1))) (fun f => v_ct B m (v_FA B m f)) (fun f i => B (v_ip B (v_fa B m (v_FA B m f) + 2) i)) (fun f i => v_o1 B (v_ip B (v_fa B m (v_FA B m f) + 2) i)) (fun f i => v_o2 B (v_ip B (v_fa B m (v_FA B m f) + 2) i)) (B (v_qN B m)) = sg B (v_qN B m) (v_end B m) := s8
    have e10 : v_qN B m ≤ v_end B m := by
      rw [z6]; exact Nat.le_of_lt z5.1
    unfold c_eM
    rw [e1, e3, e5, e7, e9, sg_mk hB z0, sg_app B (by omega) e2, sg_app B (by omega) e4, sg_app B (by omega) e6, sg_app B (by omega) e8, sg_app B (by omega) e10, z6]
  rw [← eM]
  refine sp_W_putModule l L b t0 (by have u1 := hB.1 4; have u2 := hB.1 (4 + 1); unfold m_fn; omega) t1 t2 b6 bF hf (fun k hk => ?_) (fun i hi => ?_) t5 t3 bN bC hg (fun i hi => ?_) t4 bE (fun k hk => ⟨tE k hk, big (v_Ts_at _ _ k z4.2.2.2 hk)⟩) (fun f hf' => ?_) (by rw [eM, sg_len]; omega)
  · obtain ⟨g0, g1, g2, g3, g4, g5, g6⟩ := tS k hk
    have hv := z1.2.2 k hk
    refine ⟨(c_sf_in (w := 0) (by omega) (by omega) (by decide)).trans g1, hB.1 _, (c_sf_in (w := 1) (by omega) (by omega) (by decide)).trans g2, g0.2.2, fun i hi => ⟨(c_ft_in (by omega) (by omega) g2 hi (by omega)).trans (g6 i hi), big (v_Ts_at _ _ i hv.2.2.2.2.2 hi)⟩⟩
  · obtain ⟨g0, g2, g3, g1, g4⟩ := tF i hi
    exact ⟨(c_sf_in (w := 2) (by omega) (by omega) (by decide)).trans g2, (c_sf_in (w := 3) (by omega) (by omega) (by decide)).trans g3, (c_sf_in (w := 0) (by omega) (by omega) (by decide)).trans g1, num2_lt hB.1 _, hB.1 _, hB.1 _⟩
  · obtain ⟨g1, g2, g3, g4, g5⟩ := tH i hi
    have hv := z3.2.2 i hi
    have hff : ∀ w x, w < 7 → I 16 ((64 + i) * 7 + w) = nI x → c_ff I (B (v_qN B m)) (B (v_qC B m)) (nI (B (v_qN B m) + i)) (nI w) = nI x := fun w x hw e => by rw [c_ffN (by omega) (by omega) hw, c_slot_f]; exact e
    refine ⟨⟨hff 5 _ (by decide) g2, num2_lt hB.1 _⟩, ⟨hff 6 _ (by decide) g3, hB.1 _⟩, ⟨hff 0 _ (by decide) g1.2.1, hB.1 _⟩, ⟨hff 1 _ (by decide) g1.2.2.1, Nat.le_trans g1.1.2.1 (by decide), fun j hj => ⟨?_, big (v_Ts_at _ _ j hv.1.2.2.2.2 hj)⟩⟩, ⟨hff 2 _ (by decide) g1.2.2.2.1, Nat.le_trans g1.1.2.2 (by decide), fun j hj => ⟨?_, big (v_Ts_at _ _ j hv.2.2.2.2 hj)⟩⟩⟩
    · rw [c_lt_in (c := B (v_pC B m (v_qC B m + 1) i + 3 + 1)) (by omega) (by omega) (by decide) (by rw [c_slot_f]; exact g1.2.2.1) hj (by have := g1.1.2.1; omega), c_slot_f]
      exact g1.2.2.2.2.1 j hj
    · rw [c_lt_in (c := B (m_le B m (v_pC B m (v_qC B m + 1) i + 3 + 1))) (by omega) (by omega) (by decide) (by rw [c_slot_f]; exact g1.2.2.2.1) hj (by have := g1.1.2.2; omega), c_slot_f]
      exact g1.2.2.2.2.2 j hj
  · obtain ⟨g1, ⟨g2, g3⟩, g4, g5, g6, g7, g8, g9⟩ := tN f hf'
    have hv := z5.2.2 f hf'
    have hff : ∀ w x, w < 7 → I 16 (f * 7 + w) = nI x → c_ff I (B (v_qN B m)) (B (v_qC B m)) (nI f) (nI w) = nI x := fun w x hw e => by rw [c_ffN (by omega) (by omega) hw, c_slot_o hf']; exact e
    have hst : v_FF B m (f + 1) = v_FF B m f + v_ct B m (v_FA B m f) := rfl
    have hle2 : v_FF B m (f + 1) ≤ 8192 := Nat.le_trans (v_FI_le B m (v_qN B m + 1) (show f + 1 ≤ B (v_qN B m) by omega)) hle
    refine ⟨⟨hff 0 _ (by decide) g1.2.1, hB.1 _⟩, fun k hk => ?_, v_FF B m f, g8, by omega, hff 4 _ (by decide) g7, fun i hi => ?_⟩
    · have hk3 : k = 0 ∨ k = 1 ∨ k = 2 := by omega
      rcases hk3 with e | e | e <;> subst e
      · refine ⟨hff 1 _ (by decide) g1.2.2.1, Nat.le_trans g1.1.2.1 (by decide), fun j hj => ⟨?_, big (v_Ts_at _ _ j hv.1.1.1.2.2.2.2 hj)⟩⟩
        rw [c_lt_in (c := B (v_pN B m (v_qN B m + 1) f + 1)) (by omega) (by omega) (by decide) (by rw [c_slot_o hf']; exact g1.2.2.1) hj (by have := g1.1.2.1; omega), c_slot_o hf']
        exact g1.2.2.2.2.1 j hj
      · refine ⟨hff 2 _ (by decide) g1.2.2.2.1, Nat.le_trans g1.1.2.2 (by decide), fun j hj => ⟨?_, big (v_Ts_at _ _ j hv.1.1.2.2.2.2 hj)⟩⟩
        rw [c_lt_in (c := B (m_le B m (v_pN B m (v_qN B m + 1) f + 1))) (by omega) (by omega) (by decide) (by rw [c_slot_o hf']; exact g1.2.2.2.1) hj (by have := g1.1.2.2; omega), c_slot_o hf']
        exact g1.2.2.2.2.2 j hj
      · refine ⟨hff 3 _ (by decide) g3, g2, fun j hj => ⟨?_, big (v_Ts_at _ _ j hv.1.2.2.2.2 hj)⟩⟩
        rw [c_lt_in (c := B (m_le B m (m_le B m (v_pN B m (v_qN B m + 1) f + 1)))) (by omega) (by omega) (by decide) (by rw [c_slot_o hf']; exact g3) hj (by omega), c_slot_o hf']
        exact g4 j hj
    · obtain ⟨k1, k2, k3⟩ := g9 i hi
      have hI := hv.2.2 i hi
      have q8 : ∀ p s, s ≤ 8 → c_num B p s < 2 ^ 64 := fun p s hs => Nat.lt_of_lt_of_le (c_num_lt hB.1 p s) (c_p256 s hs)
      exact ⟨k1, by have : B (v_ip B (v_fa B m (v_FA B m f) + 2) i) ≤ 59 := hI.2.1; show B (v_ip B (v_fa B m (v_FA B m f) + 2) i) < 60; omega, k2, q8 _ _ (c_fs_le _), k3, q8 _ _ (c_ss_le _)⟩
/-- write, on both sides -/
theorem n_write (l : ct_Lx) {ln wl : Nat} {I : Nat → Nat → Int32} {L : Nat → Nat → Int64} (b : Bool) (h : n_I ln wl I L) : ∃ P1 : Option Value → ct_Sg → Prop, ct_Me l M_X_write 7 0 0 [.ref 10] (c_g I L b) P1 ∧ ∀ v g, P1 v g → ∃ r I1, v = some (.int r) ∧ g = c_g I1 L b ∧ ∃ P2 : Option Value → ct_Sg → Prop, ct_Me l M_M_write 1 0 0 [.ref 29] (c_g I1 L b) P2 ∧ ∀ v' g', P2 v' g' → v' = some (.int r) ∧ ∃ I2 wl', g' = c_g I2 L b ∧ n_I ln wl' I2 L := by
  have hh := h
  obtain ⟨-, -, -, -, e⟩ := h
  rcases e with ⟨B, m, hQ⟩ | ⟨h3, h4⟩
  · have hlen : (sg B 0 m).length = m := by rw [sg_len]; rfl
    refine ⟨_, sp_X_write l I L b hQ.2.2.2.2.2.2.1 (n_put l b hQ), ?_⟩
    rintro v g ⟨rfl, I1, rfl, hR⟩
    have e29 : I1 29 = I 29 := hR.1 29 (by decide) (by decide)
    refine ⟨_, I1, rfl, rfl, _, sp_M_write l I1 L b (ln := m) hQ.2.1 (by rw [e29]; exact hQ.2.2.2.2.1.2) (by rw [e29]; exact hQ.2.2.2.2.2.2.2), ?_⟩
    rintro v' g' ⟨rfl, I2, rfl, hC⟩
    exact ⟨by rw [hlen], _, m, rfl, hh.write hQ hR hC⟩
  · refine ⟨_, sp_X_write_bad l I L b h3, ?_⟩
    rintro v g ⟨rfl, rfl⟩
    refine ⟨_, I, rfl, rfl, _, sp_M_write_bad l I L b h4, ?_⟩
    rintro v' g' ⟨rfl, rfl⟩
    exact ⟨rfl, I, wl, rfl, hh⟩
/-- type, on both sides -/
theorem n_type (l : ct_Lx) {ln wl : Nat} {I : Nat → Nat → Int32} {L : Nat → Nat → Int64} (b : Bool) (h : n_I ln wl I L) (hln : ln + 8 ≤ 4096) (x : Int64) (n : Int32) : ∃ P1 : Option Value → ct_Sg → Prop, ct_Me l M_X_type 2 0 0 [.ref 10, .long x, .int n] (c_g I L b) P1 ∧ ∀ v g, P1 v g → ∃ r I1, v = some (.int r) ∧ g = c_g I1 L b ∧ ∃ P2 : Option Value → ct_Sg → Prop, ct_Me l M_M_type 1 0 0 [.ref 29, .long x, .int n] (c_g I1 L b) P2 ∧ ∀ v' g', P2 v' g' → v' = some (.int r) ∧ ∃ I2 ln', g' = c_g I2 L b ∧ ln' ≤ ln + 8 ∧ n_I ln' wl I2 L := by
  have hh := h
  obtain ⟨⟨a1, a2, -⟩, -⟩ := h
  have bad : (n < 1 ∨ ¬ n ≤ 8) → ∃ P1 : Option Value → ct_Sg → Prop, ct_Me l M_X_type 2 0 0 [.ref 10, .long x, .int n] (c_g I L b) P1 ∧ ∀ v g, P1 v g → ∃ r I1, v = some (.int r) ∧ g = c_g I1 L b ∧ ∃ P2 : Option Value → ct_Sg → Prop, ct_Me l M_M_type 1 0 0 [.ref 29, .long x, .int n] (c_g I1 L b) P2 ∧ ∀ v' g', P2 v' g' → v' = some (.int r) ∧ ∃ I2 ln', g' = c_g I2 L b ∧ ln' ≤ ln + 8 ∧ n_I ln' wl I2 L := by
    intro q
    refine ⟨_, sp_X_type_bad l I L b x n q, ?_⟩
    rintro v g ⟨rfl, rfl⟩
    refine ⟨_, I, rfl, rfl, _, sp_M_type_bad l I L b x n q, ?_⟩
    rintro v' g' ⟨rfl, rfl⟩
    exact ⟨rfl, I, ln, rfl, by omega, hh⟩
  rcases pk_ix n (n := 9) (by decide) with q | q | ⟨k, hk, rfl⟩
  · exact bad (Or.inl (by
      have h1 : n.toInt < (0 : Int32).toInt := Int32.lt_iff_toInt_lt.mp q
      refine Int32.lt_iff_toInt_lt.mpr ?_
      have h2 : (0 : Int32).toInt = 0 := by decide
      have h3 : (1 : Int32).toInt = 1 := by decide
      omega))
  · exact bad (Or.inr (i32_ge (b := 8) q (by decide) (by decide)))
  · by_cases k0 : k = 0
    · subst k0; exact bad (Or.inl (by decide))
    · obtain ⟨X, hX, rfl⟩ := wb_of x
      have hp : ∀ a, ¬ a = 11 → ¬ a = 10 → ct_u2 (c_pb 11 ln X k k 0 I) 10 1 (nI (ln + k)) a = I a := fun a q1 q2 => by
        funext j; rw [ct_u2_get, if_neg (fun z => q2 z.1), c_pb_ne q1]
      refine ⟨_, sp_X_type l I L b hX (n := k) (ln := ln) (by omega) (by omega) a1 (by omega), ?_⟩
      rintro v g ⟨rfl, rfl⟩
      refine ⟨_, _, rfl, rfl, _, sp_M_type l _ L b hX (n := k) (sz := ln) (by omega) (by omega) (by rw [hp 29 (by decide) (by decide)]; exact a2) (by omega), ?_⟩
      rintro v' g' ⟨rfl, I', rfl, hT⟩
      exact ⟨rfl, I', ln + k, rfl, by omega, hh.type (by omega) hT⟩
