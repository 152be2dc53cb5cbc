/-! PURE: a walk over a module, in either mode -/
def v_SA (B : Nat → Nat) (ln k : Nat) : Nat := if k < B 6 then v_pS B ln 7 k else v_qF B ln + 1 + 4 * (k - B 6)
def v_FA (B : Nat → Nat) (ln : Nat) : Nat → Nat := v_pN B ln (v_qN B ln + 1)
def v_FF (B : Nat → Nat) (ln : Nat) : Nat → Nat := v_FI B ln (v_qN B ln + 1)
def v_CA (B : Nat → Nat) (ln : Nat) : Nat → Nat := v_pC B ln (v_qC B ln + 1)
def v_EA (B : Nat → Nat) (ln : Nat) : Nat → Nat := fun k => m_tn B ln k (v_qE B ln + 1)
/-- the look over all, with positions of the tape -/
def v_lA (B : Nat → Nat) (ln : Nat) (d : c_Cu) : c_Cu := m_cl (fun k => v_lkN B ln (B 6 + B (v_qF B ln)) (v_n B ln) (v_SA B ln) (v_FA B ln k)) (B (v_qN B ln)) 0 (m_cl (m_l3 B ln (B 6 + B (v_qF B ln)) (v_EA B ln)) (B (v_qE B ln)) 0 (m_cl (m_l2 B ln (B 6 + B (v_qF B ln)) (v_CA B ln)) (B (v_qC B ln)) 0 (m_cl (m_l1 B ln (B 6 + B (v_qF B ln)) (v_pS B ln 7)) (B 6) 0 d)))
theorem k_bad4 {B : Nat → Nat} {ln : Nat} {lu : Bool} {S : c_S} (h : ¬ S.1.2.1 = 0) : (c_w6 ln (c_rN B ln lu S)).1 = S.1 := by
  have h1 := c_rN_bad (B := B) (ln := ln) (lu := lu) h
  rw [c_w6_bad (by rw [h1]; exact h), h1]
theorem k_bad3 {B : Nat → Nat} {ln : Nat} {lu : Bool} {S : c_S} (h : ¬ S.1.2.1 = 0) : (c_w6 ln (c_rN B ln lu (c_rE B ln lu S))).1 = S.1 := by
  have h1 := c_rE_bad (B := B) (ln := ln) (lu := lu) h
  rw [k_bad4 (by rw [h1]; exact h), h1]
theorem k_bad2 {B : Nat → Nat} {ln : Nat} {lu : Bool} {S : c_S} (h : ¬ S.1.2.1 = 0) : (c_w6 ln (c_rN B ln lu (c_rE B ln lu (c_rH B ln lu S)))).1 = S.1 := by
  have h1 := c_rH_bad (B := B) (ln := ln) (lu := lu) h
  rw [k_bad3 (by rw [h1]; exact h), h1]
theorem k_bad1 {B : Nat → Nat} {ln : Nat} {lu : Bool} {S : c_S} (h : ¬ S.1.2.1 = 0) : (c_w6 ln (c_rN B ln lu (c_rE B ln lu (c_rH B ln lu (c_rF B ln S))))).1 = S.1 := by
  have h1 := c_rF_bad (B := B) (ln := ln) h
  rw [k_bad2 (by rw [h1]; exact h), h1]
theorem k_N {B : Nat → Nat} {ln : Nat} (hB : v_B B ln) (lu : Bool) {N SA : Nat → Nat} {q w : Nat} (h : t_N B ln q) (bN : N 9 ≤ 32 ∧ N 10 ≤ 32 ∧ N 13 + N 11 < 2 ^ 31 ∧ N 12 < 2 ^ 31) (I : Nat → Nat → Int32) (L : Nat → Nat → Int64) (hT : lu = true → v_tb B N SA (v_I5 I (B q))) (hb : c_N I 3 ≤ 32 ∧ c_N I 4 ≤ 32) (d : c_Cu) (hd : d.2.1 = 0) :
    v_R (c_w6 ln (c_rN B ln lu ((q, 0, w), I, L))).1 ln w (v_lk lu (m_cl (fun k => v_lkN B ln (c_na I) N SA (v_pN B ln (q + 1) k)) (B q) 0) d) ∧ ((c_w6 ln (c_rN B ln lu ((q, 0, w), I, L))).1.2.1 = 0 → iv_N B ln (q + 1) (v_I5 I (B q)) L (B q) (c_w6 ln (c_rN B ln lu ((q, 0, w), I, L)))) := by
  obtain ⟨a1, a2⟩ := y_rN_ok hB lu (w := w) h.1 bN I L hT hb d hd
  rw [h.2] at a1
  generalize v_lk lu (m_cl (fun k => v_lkN B ln (c_na I) N SA (v_pN B ln (q + 1) k)) (B q) 0) d = d' at a1 ⊢
  generalize c_rN B ln lu ((q, 0, w), I, L) = S at a1 a2 ⊢
  by_cases z : d'.2.1 = 0
  · have e := a1.2.2 z
    have e6 : c_w6 ln S = S := by unfold c_w6; rw [e, if_neg (show ¬ ln < ln by omega)]
    rw [e6]
    exact ⟨a1, a2⟩
  · have hb' : ¬ S.1.2.1 = 0 := by rw [a1.1]; exact z
    have e := c_w6_bad (ln := ln) hb'
    rw [e]
    exact ⟨a1, fun y => absurd y hb'⟩
theorem c_na_of {I : Nat → Nat → Int32} {a b : Nat} (h1 : I 13 1 = nI a) (h2 : I 13 2 = nI b) (ha : a < 2 ^ 31) (hb : b < 2 ^ 31) : c_na I = a + b := by
  show c_N I 1 + c_N I 2 = _; unfold c_N; rw [h1, h2, nI_clamp ha, nI_clamp hb]
theorem w_ok {B : Nat → Nat} {ln : Nat} (hB : v_B B ln) (lu : Bool) {w : Nat} (hM : v_Mod B ln) (I : Nat → Nat → Int32) (L : Nat → Nat → Int64) (h2 : lu = true → c_N I 2 = B (v_qF B ln)) (d : c_Cu) (hd : d.2.1 = 0) :
    v_R (c_wf B ln lu (0, 0, w) I L).1 ln w (v_lk lu (v_lA B ln) d) ∧ ((c_wf B ln lu (0, 0, w) I L).1.2.1 = 0 → T_F B ln (c_wf B ln lu (0, 0, w) I L).2.1 (c_wf B ln lu (0, 0, w) I L).2.2 ∧ ∀ h, ¬ h = 13 → ¬ h = 14 → ¬ h = 16 → ¬ h = 19 → ¬ h = 20 → ¬ h = 24 → (c_wf B ln lu (0, 0, w) I L).2.1 h = I h) := by
  obtain ⟨z0, z1, z2, z3, z4, z5, z6⟩ := hM
  have b6 := z1.2.1
  have bF := z2.2.1
  have bC := z3.2.1
  have bE : B (v_qE B ln) ≤ 32 := z4.2.2.1
  have bNN := z5.2.1
  obtain ⟨g1, -⟩ := v_G_hd (B := B) (ln := ln)
  obtain ⟨a1, -⟩ := g1 w z0
  have hnum : (c_tk B ln 2 (c_rM B ln (0, 0, w))).1 = m_fn B 4 := by
    have e4 : c_rM B ln (0, 0, w) = (4, 0, w) := by
      unfold c_rM
      rw [((v_G_mk (B := B) (i := 0)).1 0 w (Nat.zero_le _) z0.1.1.1.1).1, ((v_G_mk (B := B) (i := 1)).1 1 w (Nat.le_of_lt z0.1.1.1.2.1) z0.1.1.1.2).1, ((v_G_mk (B := B) (i := 2)).1 2 w (Nat.le_of_lt z0.1.1.2.1) z0.1.1.2).1, ((v_G_mk (B := B) (i := 3)).1 3 w (Nat.le_of_lt z0.1.2.1) z0.1.2).1]
    rw [e4, y_tk z0.2, c_num_2]
  have e1 : c_wf B ln lu (0, 0, w) I L = c_w6 ln (c_rN B ln lu (c_rE B ln lu (c_rH B ln lu (c_rF B ln (c_rS B ln lu ((6, 0, w), ct_u2 I 13 0 (nI (m_fn B 4)), L)))))) := by
    have e : c_wf B ln lu (0, 0, w) I L = c_w6 ln (c_rN B ln lu (c_rE B ln lu (c_rH B ln lu (c_rF B ln (c_rS B ln lu ((c_tk B ln 2 (c_rM B ln (0, 0, w))).2, ct_u2 I 13 0 (nI (c_tk B ln 2 (c_rM B ln (0, 0, w))).1), L)))))) := rfl
    rw [e, a1, hnum]
  rw [e1]
  have hI1 : ∀ k, ¬ k = 0 → (ct_u2 I 13 0 (nI (m_fn B 4))) 13 k = I 13 k := fun k hk => by rw [ct_u2_get, if_neg (by omega)]
  have hI0 : (ct_u2 I 13 0 (nI (m_fn B 4))) 13 0 = nI (m_fn B 4) := by rw [ct_u2_get, if_pos ⟨rfl, rfl⟩]
  have hIo : ∀ h, ¬ h = 13 → (ct_u2 I 13 0 (nI (m_fn B 4))) h = I h := fun h hh => by funext x; rw [ct_u2_get, if_neg (fun z => hh z.1)]
  generalize ct_u2 I 13 0 (nI (m_fn B 4)) = I1 at hI1 hI0 hIo ⊢
  -- own structures
  have h2' : lu = true → c_N I1 2 = B (v_qF B ln) := fun y => by rw [← h2 y]; unfold c_N; rw [hI1 2 (by decide)]
  obtain ⟨p1, p2⟩ := y_rS_ok hB lu (w := w) z1 I1 L d hd
  have ed : v_lk lu (v_lA B ln) d = v_lk lu (m_cl (fun k => v_lkN B ln (B 6 + B (v_qF B ln)) (v_n B ln) (v_SA B ln) (v_FA B ln k)) (B (v_qN B ln)) 0) (v_lk lu (m_cl (m_l3 B ln (B 6 + B (v_qF B ln)) (v_EA B ln)) (B (v_qE B ln)) 0) (v_lk lu (m_cl (m_l2 B ln (B 6 + B (v_qF B ln)) (v_CA B ln)) (B (v_qC B ln)) 0) (v_lk lu (m_cl (m_l1 B ln (B 6 + B (v_qF B ln)) (v_pS B ln 7)) (B 6) 0) d))) := by
    unfold v_lk v_lA; split <;> rfl
  have ed1 : v_lk lu (m_cl (m_l1 B ln (B 6 + B (v_qF B ln)) (v_pS B ln 7)) (B 6) 0) d = v_lk lu (m_cl (m_l1 B ln (B 6 + c_N I1 2) (v_pS B ln (6 + 1))) (B 6) 0) d := by
    by_cases y : lu = true
    · rw [h2' y]
    · unfold v_lk; rw [if_neg y, if_neg y]
  rw [ed, ed1]
  generalize v_lk lu (m_cl (m_l1 B ln (B 6 + c_N I1 2) (v_pS B ln (6 + 1))) (B 6) 0) d = d1 at p1 ⊢
  generalize c_rS B ln lu ((6, 0, w), I1, L) = S1 at p1 p2 ⊢
  by_cases y1 : d1.2.1 = 0
  · have p3 : S1.1 = (v_qF B ln, 0, w) := p1.2.2 y1
    obtain ⟨iS1, iS2, iS3⟩ := p2 (by rw [p3])
    -- foreign structures
    rw [S_eta p3]
    obtain ⟨q1, q2⟩ := y_rF_ok (w := w) z2 S1.2.1 S1.2.2
    have eN1 : c_N S1.2.1 1 = B 6 := by unfold c_N; rw [iS1 13 (by decide) (by decide), ct_u2_get, if_pos ⟨rfl, rfl⟩]; exact nI_clamp (by omega)
    rw [eN1] at q2
    obtain ⟨iF1, iF2, iF3, iF4⟩ := q2
    generalize c_rF B ln ((v_qF B ln, 0, w), S1.2.1, S1.2.2) = S2 at q1 iF1 iF2 iF3 iF4 ⊢
    have q3 : S2.1 = (v_qC B ln, 0, w) := q1
    rw [S_eta q3]
    have t13 : ∀ k, S2.2.1 13 k = if k = 2 then nI (B (v_qF B ln)) else if k = 1 then nI (B 6) else I1 13 k := by
      intro k
      rw [iF1 13 (by decide), ct_u2_get]
      by_cases u : k = 2
      · rw [if_pos ⟨rfl, u⟩, if_pos u]
      · rw [if_neg (fun z => u z.2), if_neg u, iS1 13 (by decide) (by decide), ct_u2_get]
        by_cases v : k = 1
        · rw [if_pos ⟨rfl, v⟩, if_pos v]
        · rw [if_neg (fun z => v z.2), if_neg v]
    have ena2 : c_na S2.2.1 = B 6 + B (v_qF B ln) := c_na_of (by rw [t13 1]; rfl) (by rw [t13 2]; rfl) (by omega) (by omega)
    -- foreign functions
    obtain ⟨r1, r2⟩ := y_rH_ok hB lu (w := w) z3 S2.2.1 S2.2.2 d1 y1
    rw [ena2] at r1
    have er : v_lk lu (m_cl (m_l2 B ln (B 6 + B (v_qF B ln)) (v_CA B ln)) (B (v_qC B ln)) 0) d1 = v_lk lu (m_cl (m_l2 B ln (B 6 + B (v_qF B ln)) (v_pC B ln (v_qC B ln + 1))) (B (v_qC B ln)) 0) d1 := rfl
    rw [er]
    generalize v_lk lu (m_cl (m_l2 B ln (B 6 + B (v_qF B ln)) (v_pC B ln (v_qC B ln + 1))) (B (v_qC B ln)) 0) d1 = d2 at r1 ⊢
    generalize c_rH B ln lu ((v_qC B ln, 0, w), S2.2.1, S2.2.2) = S3 at r1 r2 ⊢
    by_cases y2 : d2.2.1 = 0
    · have r3 : S3.1 = (v_qE B ln, 0, w) := r1.2.2 y2
      obtain ⟨iH1, iH2, iH3⟩ := r2 (by rw [r3])
      rw [S_eta r3]
      have u13 : ∀ k, S3.2.1 13 k = if k = 3 then nI (B (v_qC B ln)) else S2.2.1 13 k := by
        intro k
        rw [iH1 13 (by decide), ct_u2_get]
        by_cases u : k = 3
        · rw [if_pos ⟨rfl, u⟩, if_pos u]
        · rw [if_neg (fun z => u z.2), if_neg u]
      have ena3 : c_na S3.2.1 = B 6 + B (v_qF B ln) := c_na_of (by rw [u13 1, t13 1]; rfl) (by rw [u13 2, t13 2]; rfl) (by omega) (by omega)
      -- element types
      obtain ⟨s1, s2, s3⟩ := y_rE_ok hB lu (w := w) z4 S3.2.1 S3.2.2 d2 y2
      rw [ena3] at s1
      have es : v_lk lu (m_cl (m_l3 B ln (B 6 + B (v_qF B ln)) (v_EA B ln)) (B (v_qE B ln)) 0) d2 = v_lk lu (m_cl (m_l3 B ln (B 6 + B (v_qF B ln)) (fun k => m_tn B ln k (v_qE B ln + 1))) (B (v_qE B ln)) 0) d2 := rfl
      rw [es]
      generalize v_lk lu (m_cl (m_l3 B ln (B 6 + B (v_qF B ln)) (fun k => m_tn B ln k (v_qE B ln + 1))) (B (v_qE B ln)) 0) d2 = d3 at s1 ⊢
      generalize c_rE B ln lu ((v_qE B ln, 0, w), S3.2.1, S3.2.2) = S4 at s1 s2 s3 ⊢
      by_cases y3 : d3.2.1 = 0
      · have s4 : S4.1 = (v_qN B ln, 0, w) := s1.2.2 y3
        obtain ⟨iE1, iE2⟩ := s3 (by rw [s4])
        rw [S_eta s4]
        have x13 : ∀ k, S4.2.1 13 k = if k = 4 then nI (B (v_qE B ln)) else S3.2.1 13 k := by
          intro k
          rw [s2, ct_u2_get]
          by_cases u : k = 4
          · rw [if_pos ⟨rfl, u⟩, if_pos u]
          · rw [if_neg (fun z => u z.2), if_neg u]
        have xo : ∀ h, ¬ h = 13 → S4.2.1 h = S3.2.1 h := fun h hh => by funext x; rw [s2, ct_u2_get, if_neg (fun z => hh z.1)]
        have k0 : S4.2.1 13 0 = nI (m_fn B 4) := by rw [x13, u13, t13]; exact hI0
        have k1 : S4.2.1 13 1 = nI (B 6) := by rw [x13, u13, t13]; rfl
        have k2 : S4.2.1 13 2 = nI (B (v_qF B ln)) := by rw [x13, u13, t13]; rfl
        have k3 : S4.2.1 13 3 = nI (B (v_qC B ln)) := by rw [x13, u13]; rfl
        have k4 : S4.2.1 13 4 = nI (B (v_qE B ln)) := by rw [x13]; rfl
        have ena4 : c_na S4.2.1 = B 6 + B (v_qF B ln) := c_na_of k1 k2 (by omega) (by omega)
        have c3 : c_N S4.2.1 3 = B (v_qC B ln) := by unfold c_N; rw [k3]; exact nI_clamp (by omega)
        have c4 : c_N S4.2.1 4 = B (v_qE B ln) := by unfold c_N; rw [k4]; exact nI_clamp (by omega)
        have eI5 : ∀ k, k < 5 → v_I5 S4.2.1 (B (v_qN B ln)) 13 k = S4.2.1 13 k := fun k hk => by unfold v_I5; rw [ct_u2_get, if_neg (by omega), ct_u2_get, if_neg (by omega)]
        have eI55 : v_I5 S4.2.1 (B (v_qN B ln)) 13 5 = nI (B (v_qN B ln)) := by unfold v_I5; rw [ct_u2_get, if_neg (by omega), ct_u2_get, if_pos ⟨rfl, rfl⟩]
        have eI5o : ∀ h, ¬ h = 13 → v_I5 S4.2.1 (B (v_qN B ln)) h = S4.2.1 h := fun h hh => by funext x; unfold v_I5; rw [ct_u2_get, if_neg (fun z => hh z.1), ct_u2_get, if_neg (fun z => hh z.1)]
        -- the structures' facts so far
        have fS : ∀ j, j < B 6 → f_S B ln (v_pS B ln 7 j) j S4.2.1 S4.2.2 := by
          intro j hj
          refine f_S_same (iS3 j hj) (fun x hx => ?_) ?_ ?_
          · rw [xo 14 (by decide), iH1 14 (by decide), ct_u2_get, if_neg (by omega), iF3 _ (by omega), ct_u2_get, if_neg (by omega)]
          · rw [xo 24 (by decide), iH1 24 (by decide)]; funext x; rw [ct_u2_get, if_neg (by omega), iF1 24 (by decide), ct_u2_get, if_neg (by omega)]
          · rw [iE1 15 (by decide), iH2 15 (by decide), iF2]
        have tb : v_tb B (v_n B ln) (v_SA B ln) (v_I5 S4.2.1 (B (v_qN B ln))) := by
          have cN : ∀ k m, v_I5 S4.2.1 (B (v_qN B ln)) 13 k = nI m → m < 2 ^ 31 → c_N (v_I5 S4.2.1 (B (v_qN B ln))) k = m := fun k m h1 h2 => by unfold c_N; rw [h1]; exact nI_clamp h2
          refine ⟨cN 1 (B 6) ((eI5 1 (by decide)).trans k1) (by omega), cN 2 (B (v_qF B ln)) ((eI5 2 (by decide)).trans k2) (by omega), ?_, cN 4 (B (v_qE B ln)) ((eI5 4 (by decide)).trans k4) (by omega), fun f hf => ?_⟩
          · rw [cN 5 _ eI55 (by omega), cN 3 _ ((eI5 3 (by decide)).trans k3) (by omega)]; rfl
          · have hf' : f < B 6 := hf
            obtain ⟨-, -, g2, -⟩ := fS f hf'
            unfold c_sf
            have hna : v_n B ln 9 + v_n B ln 10 = B 6 + B (v_qF B ln) := rfl
            rw [hna, if_neg (fun z => by
              rcases z with z | z | z | z
              · exact nI_pos (by omega) z
              · exact nI_ge (by omega) (by omega) z
              · exact absurd z (by decide)
              · exact absurd z (by decide)), nI_clamp (by omega), eI5o 14 (by decide)]
            have : (1 : Int32).toNatClampNeg = 1 := by decide
            rw [this, g2]
            unfold v_SA; rw [if_pos hf']
        obtain ⟨m1, m2⟩ := k_N hB lu (N := v_n B ln) (SA := v_SA B ln) (w := w) (q := v_qN B ln) ⟨z5, z6⟩ ⟨show B 6 ≤ 32 from b6, show B (v_qF B ln) ≤ 32 from bF, show B (v_qN B ln) + B (v_qC B ln) < 2 ^ 31 by omega, show B (v_qE B ln) < 2 ^ 31 by omega⟩ S4.2.1 S4.2.2 (fun _ => tb) ⟨by rw [c3]; exact bC, by rw [c4]; exact bE⟩ d3 y3
        rw [ena4] at m1
        refine ⟨m1, fun q => ?_⟩
        obtain ⟨⟨n1, n1'⟩, n2, n3, n4⟩ := m2 q
        generalize c_w6 ln (c_rN B ln lu ((v_qN B ln, 0, w), S4.2.1, S4.2.2)) = S5 at n1 n2 n3 n4 ⊢
        have y13 : ∀ k, k < 6 → S5.2.1 13 k = v_I5 S4.2.1 (B (v_qN B ln)) 13 k := fun k hk => n2 13 k (by omega) (by omega) (by omega) (by omega)
        have yo : ∀ h, ¬ h = 13 → ¬ h = 16 → ¬ h = 19 → ¬ h = 20 → S5.2.1 h = S4.2.1 h := fun h u1 u2 u3 u4 => by
          funext x
          rw [n2 h x (by omega) u3 (by omega) u4, eI5o h u1]
        have zo : ∀ h, ¬ h = 17 → ¬ (h = 21 ∨ h = 22) → S5.2.2 h = S4.2.2 h := fun h u1 u2 => by funext x; exact n3 h x (by omega) u2
        refine ⟨⟨⟨?_, ?_, ?_, ?_, ?_, ?_, n1⟩, fun j hj => ?_, fun j hj => ?_, fun j hj => ?_, fun j hj => ?_, n4⟩, fun h u13 u14 u16 u19 u20 u24 => ?_⟩
        · rw [y13 0 (by decide), eI5 0 (by decide)]; exact k0
        · rw [y13 1 (by decide), eI5 1 (by decide)]; exact k1
        · rw [y13 2 (by decide), eI5 2 (by decide)]; exact k2
        · rw [y13 3 (by decide), eI5 3 (by decide)]; exact k3
        · rw [y13 4 (by decide), eI5 4 (by decide)]; exact k4
        · rw [y13 5 (by decide)]; exact eI55
        · exact f_S_same (fS j hj) (fun x hx => by rw [yo 14 (by decide) (by decide) (by decide) (by decide)]) (yo 24 (by decide) (by decide) (by decide) (by decide)) (zo 15 (by decide) (by decide))
        · refine f_F_same (iF4 j hj) ?_
          rw [yo 14 (by decide) (by decide) (by decide) (by decide), xo 14 (by decide), iH1 14 (by decide)]; funext x; rw [ct_u2_get, if_neg (by omega)]
        · refine f_H_same (iH3 j hj) (fun x hx => ?_) (fun x hx => ?_)
          · rw [n2 16 _ (by omega) (by omega) (by omega) (by omega), eI5o 16 (by decide), xo 16 (by decide)]
          · rw [n3 17 _ (by omega) (by omega), iE1 17 (by decide)]
        · rw [zo 18 (by decide) (by decide)]; exact iE2 j hj
        · rw [yo h u13 u16 u19 u20, xo h u13, iH1 h u16]
          funext x
          rw [ct_u2_get, if_neg (by omega), iF1 h u14, ct_u2_get, if_neg (by omega), iS1 h u14 u24, ct_u2_get, if_neg (by omega), hIo h u13]
      · have hb : ¬ S4.1.2.1 = 0 := by rw [s1.1]; exact y3
        rw [k_bad4 hb, v_lk_bad (m_cl_bad y3)]
        exact ⟨s1.bad y3, fun q => absurd q hb⟩
    · have hb : ¬ S3.1.2.1 = 0 := by rw [r1.1]; exact y2
      rw [k_bad3 hb, v_lk_bad (m_cl_bad y2), v_lk_bad (m_cl_bad y2)]
      exact ⟨r1.bad y2, fun q => absurd q hb⟩
  · have hb : ¬ S1.1.2.1 = 0 := by rw [p1.1]; exact y1
    rw [k_bad1 hb, v_lk_bad (m_cl_bad y1), v_lk_bad (m_cl_bad y1), v_lk_bad (m_cl_bad y1)]
    exact ⟨p1.bad y1, fun q => absurd q hb⟩
