/-! BOTH SIDES: read and write -/
theorem n_fin {ln wl w : Nat} {I Ia J : Nat → Nat → Int32} {L L1 : Nat → Nat → Int64} {c d : c_Cu} {f : Nat → Int32} (hln : ln ≤ 4096) (h : n_I ln wl I L) (ha : ∀ x, fr_h x → ¬ x = 23 → ¬ x = 25 → Ia x = I x) (hW : c_W Ia) (hlu : ∃ lu : Bool, Ia 23 6 = if lu = true then 1 else 0) (hJ : z_J ln (x_fin Ia c) J) (hc1 : c.2.1 = d.2.1) (hc2 : nI c.2.2 = if d.2.1 = 0 then nI ln else nI d.2.2) (hg : d.2.1 = 0 → v_Mod (z_B ln I) ln ∧ T_F (z_B ln I) ln Ia L1 ∧ w_M (z_B ln I) ln (m_oA (z_B ln I) ln ((0, 0, w), J)).2) (hzB : z_B ln (x_fin Ia c) = z_B ln I) :
    n_I 0 wl (z_fin (m_oA (z_B ln I) ln ((0, 0, w), J)).2 f ln d) L1 := by
  obtain ⟨⟨a1, a2, a3⟩, b1, -, ⟨d1, d2, d3, d4⟩, -⟩ := h
  obtain ⟨j1, j2, j3, j4, j5⟩ := hJ
  rw [hzB] at j5
  have fmo : ∀ x k, fm_k x k → (m_oA (z_B ln I) ln ((0, 0, w), J)).2 x k = J x k := fun x k q => fm_oA q
  generalize (m_oA (z_B ln I) ln ((0, 0, w), J)).2 = Zm at hg fmo ⊢
  -- the reference's cells
  have r1 : ∀ x, ¬ x = 29 → ¬ x = 39 → z_fin Zm f ln d x = Zm x := fun x q1 q2 => by
    funext k
    unfold z_fin
    rw [ct_u2_get, if_neg (fun z => q1 z.1), ct_u2_get, if_neg (fun z => q1 z.1), m_r39_ne _ _ _ q2, d_sc_ne _ _ _ q1]
  have r29 : ∀ k, ¬ k = 4 → ¬ k = 5 → ¬ k = 6 → ¬ k = 7 → ¬ k = 8 → z_fin Zm f ln d 29 k = Zm 29 k := fun k q4 q5 q6 q7 q8 => by
    unfold z_fin
    rw [ct_u2_get, if_neg (fun z => q8 z.2), ct_u2_get, if_neg (fun z => q4 z.2), m_r39_ne _ _ _ (by decide), d_sc_get, if_neg (fun z => q7 z.2), if_neg (fun z => q6 z.2), if_neg (fun z => q5 z.2)]
  have r4 : z_fin Zm f ln d 29 4 = m_gd d := by unfold z_fin; rw [ct_u2_get, if_neg (by decide), ct_u2_get, if_pos ⟨rfl, rfl⟩]
  have r8 : z_fin Zm f ln d 29 8 = if d.2.1 = 0 then nI ln else nI d.2.2 := by unfold z_fin; rw [ct_u2_get, if_pos ⟨rfl, rfl⟩]
  -- the class's cells
  have s1 : ∀ x, ¬ x = 10 → ¬ x = 23 → x_fin Ia c x = Ia x := fun x q1 q2 => by
    funext k
    unfold x_fin
    rw [ct_u2_get, if_neg (fun z => q1 z.1), ct_u2_get, if_neg (fun z => q1 z.1), ct_u2_get, if_neg (fun z => q1 z.1), c_sc_ne _ _ _ q2]
  have t1 : ∀ x, ¬ x = 29 → ¬ x = 31 → ¬ x = 39 → fm_h x → z_fin Zm f ln d x = x_fin Ia c x := fun x q1 q2 q3 q4 => by
    rw [r1 x q1 q3]
    funext k
    rw [fmo x k (Or.inl q4), j1 x q1 q2]
  have fh : ∀ x, x < 29 ∨ x = 30 ∨ x = 38 → z_fin Zm f ln d x = x_fin Ia c x := fun x q => t1 x (by omega) (by omega) (by omega) (by unfold fm_h; omega)
  have t13 : ∀ x, x < 29 ∨ x = 30 ∨ x = 38 → ¬ x = 10 → ¬ x = 23 → z_fin Zm f ln d x = Ia x := fun x q1 q2 q3 => by rw [fh x q1, s1 x q2 q3]
  refine ⟨⟨?_, ?_, fun j hj => absurd hj (Nat.not_lt_zero _)⟩, ?_, ⟨?_, ?_⟩, ⟨?_, ?_, d3, fun j hj => ?_⟩, ?_⟩
  · rw [fh 10 (by omega)]; unfold x_fin; rw [ct_u2_get, if_pos ⟨rfl, rfl⟩]; rfl
  · rw [r29 1 (by decide) (by decide) (by decide) (by decide) (by decide), fmo 29 1 (Or.inr ⟨rfl, by omega⟩), j3]; rfl
  · rw [fh 10 (by omega), r8, ← hc2]; unfold x_fin; rw [ct_u2_get, if_neg (by decide), ct_u2_get, if_neg (by decide), ct_u2_get, if_pos ⟨rfl, rfl⟩]
  · obtain ⟨lu, e⟩ := hlu
    refine ⟨lu, ?_⟩
    rw [fh 23 (by omega), ← e]; unfold x_fin; rw [ct_u2_get, if_neg (by decide), ct_u2_get, if_neg (by decide), ct_u2_get, if_neg (by decide)]; rfl
  · exact c_W_same hW (t13 13 (by omega) (by decide) (by decide))
  · rw [t13 27 (by omega) (by decide) (by decide), ha 27 (by unfold fr_h; omega) (by decide) (by decide)]; exact d1
  · rw [r29 22 (by decide) (by decide) (by decide) (by decide) (by decide), fmo 29 22 (Or.inr ⟨rfl, by omega⟩), j2 22 (by decide) (by decide) (by decide) (by decide) (by decide), s1 29 (by decide) (by decide), ha 29 (by unfold fr_h; omega) (by decide) (by decide)]; exact d2
  · rw [t13 28 (by omega) (by decide) (by decide), ha 28 (by unfold fr_h; omega) (by decide) (by decide), t13 38 (by omega) (by decide) (by decide), ha 38 (by unfold fr_h; omega) (by decide) (by decide)]; exact d4 j hj
  · have e103 : z_fin Zm f ln d 10 3 = m_gd c := by rw [fh 10 (by omega)]; unfold x_fin; rw [ct_u2_get, if_neg (by decide), ct_u2_get, if_pos ⟨rfl, rfl⟩]
    by_cases q : d.2.1 = 0
    · obtain ⟨g1, g2, g3⟩ := hg q
      refine Or.inl ⟨z_B ln I, ln, z_B_ok ln I, hln, g1, T_F_same g2 (t13 13 (by omega) (by decide) (by decide)) (t13 14 (by omega) (by decide) (by decide)) (t13 16 (by omega) (by decide) (by decide)) (t13 19 (by omega) (by decide) (by decide)) (t13 20 (by omega) (by decide) (by decide)) (t13 24 (by omega) (by decide) (by decide)), m_E_same j5 ?_ ?_, w_M_same g3 (fun k u1 u2 => r29 k (by omega) (by omega) (by omega) (by omega) (by omega)) (fun a u1 u2 => r1 a (by omega) (by omega)), ?_, ?_⟩
      · rw [r1 31 (by decide) (by decide)]; funext k; exact fmo 31 k (Or.inl (by unfold fm_h; omega))
      · rw [r29 3 (by decide) (by decide) (by decide) (by decide) (by decide)]; exact fmo 29 3 (Or.inr ⟨rfl, by omega⟩)
      · rw [e103, m_gd, if_pos (by rw [hc1]; exact q)]
      · rw [r4, m_gd, if_pos q]
    · refine Or.inr ⟨?_, ?_⟩
      · rw [e103, m_gd, if_neg (by rw [hc1]; exact q)]
      · rw [r4, m_gd, if_neg q]
theorem z_B_fin {ln : Nat} {I Ia : Nat → Nat → Int32} {c : c_Cu} (ha : ∀ x, fr_h x → ¬ x = 23 → ¬ x = 25 → Ia x = I x) : z_B ln (x_fin Ia c) = z_B ln I := by
  funext p
  unfold z_B
  have : x_fin Ia c 30 p = I 30 p := by
    unfold x_fin
    rw [ct_u2_get, if_neg (by omega), ct_u2_get, if_neg (by omega), ct_u2_get, if_neg (by omega), c_sc_ne _ _ _ (by decide), ha 30 (by unfold fr_h; omega) (by decide) (by decide)]
  rw [this]
theorem x_fin_29 {I Ia : Nat → Nat → Int32} {c : c_Cu} (ha : ∀ x, fr_h x → ¬ x = 23 → ¬ x = 25 → Ia x = I x) (k : Nat) : x_fin Ia c 29 k = I 29 k := by
  unfold x_fin
  rw [ct_u2_get, if_neg (by omega), ct_u2_get, if_neg (by omega), ct_u2_get, if_neg (by omega), c_sc_ne _ _ _ (by decide), ha 29 (by unfold fr_h; omega) (by decide) (by decide)]
/-- the last look keeps step -/
theorem ci_si {B : Nat → Nat} {ln n1 : Nat} {SA : Nat → Nat} : ∀ (n k : Nat) (c d : c_Cu), c.2.1 = d.2.1 → (¬ c.2.1 = 0 → c.2.2 = d.2.2) → (m_cl (z_ci B ln n1 SA) n k c).2.1 = (m_cl (z_ci B ln n1 SA) n k d).2.1 ∧ (¬ (m_cl (z_ci B ln n1 SA) n k c).2.1 = 0 → (m_cl (z_ci B ln n1 SA) n k c).2.2 = (m_cl (z_ci B ln n1 SA) n k d).2.2) ∧ ((m_cl (z_ci B ln n1 SA) n k c).2.1 = 0 → m_cl (z_ci B ln n1 SA) n k c = c) := by
  intro n
  induction n with
  | zero => intro k c d h1 h2; exact ⟨h1, h2, fun _ => rfl⟩
  | succ n ih =>
    intro k c d h1 h2
    by_cases z : c.2.1 = 0
    · have z' : d.2.1 = 0 := by rw [← h1]; exact z
      rw [m_cl, if_pos z, m_cl, if_pos z']
      unfold z_ci
      by_cases y : m_rd B ln n1 SA k = true
      · rw [if_pos y, if_pos y]
        have e1 : c_fl 14 (SA k) c = (c.1, 14, SA k) := by unfold c_fl; rw [if_pos z]
        have e2 : c_fl 14 (SA k) d = (d.1, 14, SA k) := by unfold c_fl; rw [if_pos z']
        have n14 : ¬ (14 : Nat) = 0 := by decide
        rw [e1, e2]
        have b1 := m_cl_bad (f := fun k c => if m_rd B ln n1 SA k = true then c_fl 14 (SA k) c else c) (n := n) (k := k + 1) (c := (c.1, 14, SA k)) n14
        have b2 := m_cl_bad (f := fun k c => if m_rd B ln n1 SA k = true then c_fl 14 (SA k) c else c) (n := n) (k := k + 1) (c := (d.1, 14, SA k)) n14
        have c1 : m_cl (z_ci B ln n1 SA) n (k + 1) (c.1, 14, SA k) = (c.1, 14, SA k) := b1
        have c2 : m_cl (z_ci B ln n1 SA) n (k + 1) (d.1, 14, SA k) = (d.1, 14, SA k) := b2
        show (m_cl (z_ci B ln n1 SA) n (k + 1) (c.1, 14, SA k)).2.1 = (m_cl (z_ci B ln n1 SA) n (k + 1) (d.1, 14, SA k)).2.1 ∧ (¬ (m_cl (z_ci B ln n1 SA) n (k + 1) (c.1, 14, SA k)).2.1 = 0 → (m_cl (z_ci B ln n1 SA) n (k + 1) (c.1, 14, SA k)).2.2 = (m_cl (z_ci B ln n1 SA) n (k + 1) (d.1, 14, SA k)).2.2) ∧ ((m_cl (z_ci B ln n1 SA) n (k + 1) (c.1, 14, SA k)).2.1 = 0 → _ = c)
        rw [c1, c2]
        exact ⟨rfl, fun _ => rfl, fun q => absurd q n14⟩
      · rw [if_neg y, if_neg y]
        exact ih (k + 1) c d h1 h2
    · have z' : ¬ d.2.1 = 0 := by rw [← h1]; exact z
      rw [m_cl_bad z, m_cl_bad z']
      exact ⟨h1, h2, fun q => absurd q z⟩
/-- read, on both sides -/
theorem n_read (l : ct_Lx) {ln wl : Nat} {I : Nat → Nat → Int32} {L : Nat → Nat → Int64} (b : Bool) (hln : ln ≤ 4096) (h : n_I ln wl I L) : ∃ P1 : Option Value → ct_Sg → Prop, ct_Me l M_X_read 7 0 0 [.ref 10] (c_g I L b) P1 ∧ ∀ v g, P1 v g → ∃ r I1 L1, v = some (.int r) ∧ g = c_g I1 L1 true ∧ ∃ P2 : Option Value → ct_Sg → Prop, ct_Me l M_M_read 8 0 0 [.ref 29] (c_g I1 L1 true) P2 ∧ ∀ v' g', P2 v' g' → v' = some (.int r) ∧ ∃ I2, g' = c_g I2 L1 true ∧ n_I 0 wl I2 L1 := by
  have hh := h
  obtain ⟨⟨a1, a2, a3⟩, b1, ⟨⟨lu, hlu⟩, hW⟩, -, -⟩ := h
  have hB := z_B_ok ln I
  have ag : ∀ j, j < ln → c_B I j = z_B ln I j := fun j hj => by unfold c_B z_B; rw [if_pos hj]; exact a3 j hj
  have e1 : x_S1 I L ln = c_wf (z_B ln I) ln false (0, 0, ln) (ct_u2 (x_J I ln) 23 6 0) L := by unfold x_S1; rw [cg_wf ag]
  have e2 : x_S2 I L ln = c_wk (z_B ln I) ln true (x_S1 I L ln) := by unfold x_S2; rw [cg_wk ag]
  have hJx : ∀ x, ¬ x = 23 → ct_u2 (x_J I ln) 23 6 0 x = I x := fun x q => by
    unfold x_J
    rw [fr_u2 q, fr_u2 q, fr_u2 q, fr_u2 q]
  have f1 : ∀ x, fr_h x → ¬ x = 23 → (x_S1 I L ln).2.1 x = I x := fun x q1 q2 => by rw [e1, fr_wf q1, hJx x q2]
  obtain ⟨lu2, hG2⟩ := x_S2_G (L := L) (ln := ln) hlu hW
  have hG1 := x_S1_G (L := L) (ln := ln) hlu hW
  by_cases hM : v_Mod (z_B ln I) ln
  · -- a module, as far as the first walk goes
    have w1 := w_ok hB false (w := ln) hM (ct_u2 (x_J I ln) 23 6 0) L (fun q => absurd q (by decide)) (0, 0, 0) rfl
    rw [← e1] at w1
    have s1 : (x_S1 I L ln).1 = (ln, 0, ln) := w1.1.2.2 rfl
    obtain ⟨tf1, -⟩ := w1.2 (by rw [s1])
    have e3 : x_S2 I L ln = c_wf (z_B ln I) ln true (0, 0, ln) (ct_u2 (x_S1 I L ln).2.1 23 6 1) (x_S1 I L ln).2.2 := by
      rw [e2, c_wk, if_pos (by rw [s1]), s1]; rfl
    have h2 : c_N (ct_u2 (x_S1 I L ln).2.1 23 6 1) 2 = z_B ln I (v_qF (z_B ln I) ln) := by
      unfold c_N
      rw [ct_u2_get, if_neg (by omega), tf1.1.2.2.1]
      exact nI_clamp (by have := hM.2.2.1.2.1; omega)
    have f2 : ∀ x, fr_h x → ¬ x = 23 → (x_S2 I L ln).2.1 x = I x := fun x q1 q2 => by rw [e3, fr_wf q1, fr_u2 q2, f1 x q1 q2]
    have wk : ∀ d : c_Cu, d.2.1 = 0 → v_R (x_S2 I L ln).1 ln ln (v_lA (z_B ln I) ln d) ∧ ((x_S2 I L ln).1.2.1 = 0 → T_F (z_B ln I) ln (x_S2 I L ln).2.1 (x_S2 I L ln).2.2) := by
      intro d hd
      have w2 := w_ok hB true (w := ln) hM (ct_u2 (x_S1 I L ln).2.1 23 6 1) (x_S1 I L ln).2.2 (fun _ => h2) d hd
      rw [← e3] at w2
      have ev : v_lk true (v_lA (z_B ln I) ln) d = v_lA (z_B ln I) ln d := by unfold v_lk; rw [if_pos rfl]
      rw [ev] at w2
      exact ⟨w2.1, fun q => (w2.2 q).1⟩
    generalize hS : x_S2 I L ln = S at hG2 f2 wk
    by_cases hb : S.1.2.1 = 0
    · -- good: the last look
      have tf2 := (wk (0, 0, 0) rfl).2 hb
      have b6 : z_B ln I 6 ≤ 32 := hM.2.1.2.1
      have bF : z_B ln I (v_qF (z_B ln I) ln) ≤ 32 := hM.2.2.1.2.1
      have hSA : ∀ k, k < z_B ln I 6 → v_SA (z_B ln I) ln k = v_pS (z_B ln I) ln 7 k := fun k hk => by unfold v_SA; rw [if_pos hk]
      have hfS : ∀ j, j < z_B ln I 6 + z_B ln I (v_qF (z_B ln I) ln) → ∃ x, S.2.1 14 (j * 4 + 1) = nI x ∧ x ≤ 16 ∧ (z_B ln I 6 ≤ j → x = 0) := by
        intro j hj
        by_cases q : j < z_B ln I 6
        · obtain ⟨g0, -, g2, -⟩ := tf2.2.1 j q
          exact ⟨_, g2, g0.2.2, fun z => absurd q (by omega)⟩
        · obtain ⟨-, -, -, -, g4⟩ := tf2.2.2.1 (j - z_B ln I 6) (by omega)
          rw [show z_B ln I 6 + (j - z_B ln I 6) = j from by omega] at g4
          exact ⟨0, g4, by decide, fun _ => rfl⟩
      have hTT : ∀ k, k < z_B ln I 6 → z_B ln I (v_SA (z_B ln I) ln k + 1) ≤ 16 ∧ c_sf S.2.1 (z_B ln I 6 + z_B ln I (v_qF (z_B ln I) ln)) (nI k) 1 = nI (z_B ln I (v_SA (z_B ln I) ln k + 1)) ∧ ∀ i, i < z_B ln I (v_SA (z_B ln I) ln k + 1) → c_ft S.2.1 S.2.2 (z_B ln I 6 + z_B ln I (v_qF (z_B ln I) ln)) (nI k) (nI i) = lN (v_v (z_B ln I) ln (m_tn (z_B ln I) ln i (v_SA (z_B ln I) ln k + 2))) ∧ v_v (z_B ln I) ln (m_tn (z_B ln I) ln i (v_SA (z_B ln I) ln k + 2)) < 2 ^ 62 := by
        intro k hk
        rw [hSA k hk]
        obtain ⟨g0, g1, g2, g3, g4, g5, g6⟩ := tf2.2.1 k hk
        have hv := hM.2.1.2.2 k hk
        have e : c_sf S.2.1 (z_B ln I 6 + z_B ln I (v_qF (z_B ln I) ln)) (nI k) 1 = nI (z_B ln I (v_pS (z_B ln I) ln 7 k + 1)) := by rw [← g2]; exact c_sf_in (w := 1) (by omega) (by omega) (by decide)
        refine ⟨g0.2.2, e, fun i hi => ⟨?_, ?_⟩⟩
        · unfold c_ft
          rw [e, if_neg (fun z => by
            rcases z with z | z
            · exact nI_pos (by omega) z
            · exact nI_ge hi (by omega) z), nI_clamp (by omega), nI_clamp (by omega)]
          exact g6 i hi
        · have := v_v_lt hB (v_Ts_at _ _ i hv.2.2.2.2.2 hi)
          exact Nat.lt_of_lt_of_le this (by decide)
      refine ⟨_, sp_X_read_good l I L b hln a1 hlu hW hS hb tf2.1.2.1 tf2.1.2.2.1 b6 bF hfS (m := fun k => z_B ln I (v_SA (z_B ln I) ln k + 1)) (T := fun k i => v_v (z_B ln I) ln (m_tn (z_B ln I) ln i (v_SA (z_B ln I) ln k + 2))) hTT (ab := v_SA (z_B ln I) ln) (fun k hk => by rw [hSA k hk]; obtain ⟨-, -, -, -, -, g5, -⟩ := tf2.2.1 k hk; exact g5), ?_⟩
      rintro v g ⟨f, c, hf, hcc, rfl, rfl⟩
      have hcc2 : m_cl (z_ci (z_B ln I) ln (z_B ln I 6) (v_SA (z_B ln I) ln)) (z_B ln I 6) 0 S.1 = c := by
        rw [← hcc]
        exact (g_cc hB b6 (fun k hk => by rw [hSA k hk]; exact hM.2.1.2.2 k hk) hf (z_B ln I 6) 0 S.1 (Nat.zero_add _)).symm
      have hia : ∀ x, fr_h x → ¬ x = 23 → ¬ x = 25 → c_25 S.2.1 (c_vO (z_B ln I 6) (z_B ln I 6) 0 f) x = I x := fun x q1 q2 q3 => by
        funext k; rw [c_25_ne _ _ _ q3, f2 x q1 q2]
      have hzB := z_B_fin (ln := ln) (c := c) hia
      refine ⟨_, _, _, rfl, rfl, _, sp_M_read_ok l _ S.2.2 true hln (by rw [x_fin_29 hia]; exact a2) (by rw [hzB]; exact hM), ?_⟩
      rintro v' g' ⟨J, w, d, fm, hJ, hd, rfl, rfl⟩
      rw [hzB] at hd ⊢
      have wd := (wk (ln, 0, w) rfl).1
      have hS0 : S.1 = (ln, 0, ln) := wd.2.2 (by rw [← wd.1]; exact hb)
      have hlA : (v_lA (z_B ln I) ln (ln, 0, w)).2.1 = 0 := by rw [← wd.1]; exact hb
      obtain ⟨c1, c2, c3⟩ := ci_si (B := z_B ln I) (ln := ln) (n1 := z_B ln I 6) (SA := v_SA (z_B ln I) ln) (z_B ln I 6) 0 S.1 (v_lA (z_B ln I) ln (ln, 0, w)) wd.1 (fun q => absurd hb q)
      rw [hcc2, ← hd] at c1 c2
      rw [hcc2] at c3
      refine ⟨by rw [c1], _, rfl, ?_⟩
      refine n_fin hln hh hia (c_W_same hG2.2.1 (by funext k; exact c_25_ne _ _ _ (by decide))) ⟨lu2, by rw [c_25_ne _ _ _ (by decide)]; exact hG2.1.2.2⟩ hJ c1 ?_ ?_ hzB
      · by_cases q : d.2.1 = 0
        · rw [if_pos q, c3 (by rw [c1]; exact q), hS0]
        · rw [if_neg q, c2 (by rw [c1]; exact q)]
      · intro q
        refine ⟨hM, T_F_same tf2 ?_ ?_ ?_ ?_ ?_ ?_, (z_oA_ok hB hln (w := w) hM J hJ.2.2.2.1).2.1⟩ <;> (funext k; exact c_25_ne _ _ _ (by decide))
    · refine ⟨_, sp_X_read_bad l I L b hln a1 hlu hW hS hb, ?_⟩
      rintro v g ⟨rfl, rfl⟩
      have hia : ∀ x, fr_h x → ¬ x = 23 → ¬ x = 25 → S.2.1 x = I x := fun x q1 q2 _ => f2 x q1 q2
      have hzB := z_B_fin (ln := ln) (c := S.1) hia
      refine ⟨_, _, _, rfl, rfl, _, sp_M_read_ok l _ S.2.2 true hln (by rw [x_fin_29 hia]; exact a2) (by rw [hzB]; exact hM), ?_⟩
      rintro v' g' ⟨J, w, d, fm, hJ, hd, rfl, rfl⟩
      rw [hzB] at hd ⊢
      have wd := (wk (ln, 0, w) rfl).1
      have hlA : ¬ (v_lA (z_B ln I) ln (ln, 0, w)).2.1 = 0 := by rw [← wd.1]; exact hb
      rw [m_cl_bad hlA] at hd
      have c1 : S.1.2.1 = d.2.1 := by rw [hd]; exact wd.1
      have c2 : S.1.2.2 = d.2.2 := by rw [hd]; exact wd.2.1 hlA
      have hdb : ¬ d.2.1 = 0 := by rw [← c1]; exact hb
      refine ⟨by rw [c1], _, rfl, ?_⟩
      exact n_fin hln hh hia hG2.2.1 ⟨lu2, hG2.1.2.2⟩ hJ c1 (by rw [if_neg hdb, c2]) (fun q => absurd q hdb) hzB
  · -- no module
    have key : ∀ w' J, J 29 14 = nI 0 → v_sb (x_S1 I L ln).1 (m_oA (z_B ln I) ln ((0, 0, w'), J)).1 := fun w' J hJ => by
      rw [e1]; exact w1_bad hB hM _ L J hJ
    have hb1 : ¬ (x_S1 I L ln).1.2.1 = 0 := (key 0 (fun _ _ => 0) rfl).2
    have e3 : x_S2 I L ln = x_S1 I L ln := by rw [e2, c_wk, if_neg hb1]
    generalize hS : x_S1 I L ln = S at hG1 f1 key hb1 e3
    refine ⟨_, sp_X_read_bad l I L b hln a1 hlu hW e3 hb1, ?_⟩
    rintro v g ⟨rfl, rfl⟩
    have hia : ∀ x, fr_h x → ¬ x = 23 → ¬ x = 25 → S.2.1 x = I x := fun x q1 q2 _ => f1 x q1 q2
    have hzB := z_B_fin (ln := ln) (c := S.1) hia
    refine ⟨_, _, _, rfl, rfl, _, sp_M_read_bad l _ S.2.2 true hln (by rw [x_fin_29 hia]; exact a2) (by rw [hzB]; exact hM), ?_⟩
    rintro v' g' ⟨J, w, d, fm, hJ, hd, rfl, rfl⟩
    rw [hzB] at hd ⊢
    obtain ⟨⟨c1, -, c2⟩, -⟩ := key w J hJ.2.2.2.1
    rw [← hd] at c1 c2
    have hdb : ¬ d.2.1 = 0 := by rw [← c1]; exact hb1
    refine ⟨by rw [c1], _, rfl, ?_⟩
    exact n_fin hln hh hia hG1.2.1 ⟨false, hG1.1.2.2⟩ hJ c1 (by rw [if_neg hdb, c2 hb1]) (fun q => absurd q hdb) hzB
