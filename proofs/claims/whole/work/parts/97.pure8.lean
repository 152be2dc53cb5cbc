/-! PURE: functions -/
def v_fa (B : Nat → Nat) (ln p : Nat) : Nat := m_le B ln (m_le B ln (m_le B ln (p + 1)))
def v_Nf (B : Nat → Nat) (ln p : Nat) : Prop := (((p < ln ∧ 0 ≤ B p ∧ B p ≤ 7) ∧ v_L B ln 0 8 true (p + 1)) ∧ v_L B ln 0 8 true (m_le B ln (p + 1))) ∧ v_L B ln 0 32 true (m_le B ln (m_le B ln (p + 1)))
def v_N (B : Nat → Nat) (ln n6 p : Nat) : Prop := v_Nf B ln p ∧ v_C B ln n6 (v_fa B ln p)
def v_ct (B : Nat → Nat) (ln p : Nat) : Nat := m_fn B (v_fa B ln p)
def v_pN (B : Nat → Nat) (ln p : Nat) : Nat → Nat
  | 0 => p
  | f + 1 => v_ip B (v_fa B ln (v_pN B ln p f) + 2) (v_ct B ln (v_pN B ln p f))
def v_FI (B : Nat → Nat) (ln p : Nat) : Nat → Nat
  | 0 => 0
  | f + 1 => v_FI B ln p f + v_ct B ln (v_pN B ln p f)
def f_N (B : Nat → Nat) (ln p fi f : Nat) (I : Nat → Nat → Int32) (L : Nat → Nat → Int64) : Prop := f_G B ln p f I L ∧ (B (m_le B ln (m_le B ln (p + 1))) ≤ 32 ∧ I 16 (f * 7 + 3) = nI (B (m_le B ln (m_le B ln (p + 1))))) ∧ (∀ j, j < B (m_le B ln (m_le B ln (p + 1))) → L 17 (f * 48 + 2 * 8 + j) = lN (v_v B ln (m_tn B ln j (m_le B ln (m_le B ln (p + 1)) + 1)))) ∧ I 16 (f * 7 + 5) = -1 ∧ I 16 (f * 7 + 6) = -1 ∧ f_C B (v_fa B ln p) fi f I L
theorem c_rc_bad {B : Nat → Nat} {ln f : Nat} {lu : Bool} {S : c_S} (h : ¬ S.1.2.1 = 0) : (c_rc B ln lu f S).1 = S.1 := by
  unfold c_rc c_rc0
  rw [c_tw_bad h]; rfl
theorem c_rn2_bad {B : Nat → Nat} {ln f : Nat} {lu : Bool} {S : c_S} (h : ¬ S.1.2.1 = 0) : (c_rn2 B ln lu f S).1 = S.1 := by
  unfold c_rn2; dsimp only; rw [c_tys_bad h]
theorem m_cl_bad' {f : Nat → c_Cu → c_Cu} {n k : Nat} {c : c_Cu} (h : ¬ c.2.1 = 0) : m_cl f n k c = c := m_cl_bad h
theorem v_lk_comp (lu : Bool) (f g : c_Cu → c_Cu) (d : c_Cu) : v_lk lu (fun d => g (f d)) d = v_lk lu g (v_lk lu f d) := by
  unfold v_lk; split <;> rfl
theorem v_lk_bad {lu : Bool} {f : c_Cu → c_Cu} {d : c_Cu} (h : f d = d) : v_lk lu f d = d := by unfold v_lk; split; exact h; rfl
def v_lkN (B : Nat → Nat) (ln na : Nat) (N SA : Nat → Nat) (q : Nat) (d : c_Cu) : c_Cu := m_cl (fun i => m_ins B N SA (m_lcs B ln (q + 1)) (v_ct B ln q) (v_ip B (v_fa B ln q + 2) i)) (v_ct B ln q) 0 (m_l4a B ln na (q + 1) d)
theorem y_rn1_q {B : Nat → Nat} {ln : Nat} (hB : v_B B ln) (lu : Bool) {N SA : Nat → Nat} {q w f n6 : Nat} (hv : v_N B ln n6 q) (bN : N 9 ≤ 32 ∧ N 10 ≤ 32 ∧ N 13 + N 11 < 2 ^ 31 ∧ N 12 < 2 ^ 31) (I : Nat → Nat → Int32) (L : Nat → Nat → Int64) (h6 : c_N I 6 = n6) (hT : lu = true → v_tb B N SA I) (hb : c_N I 5 + c_N I 3 < 2 ^ 31 ∧ c_N I 4 < 2 ^ 31) (d : c_Cu) (hd : d.2.1 = 0) :
    v_R (c_rn1 B ln lu f ((q, 0, w), I, L)).1 (v_ip B (v_fa B ln q + 2) (v_ct B ln q)) w (v_lk lu (v_lkN B ln (c_na I) N SA q) d) ∧ ((c_rn1 B ln lu f ((q, 0, w), I, L)).1.2.1 = 0 → (∀ h x, ¬ (h = 16 ∧ f * 7 ≤ x ∧ x < f * 7 + 7) → ¬ (h = 19 ∧ x = f) → ¬ (h = 13 ∧ x = 6) → ¬ (h = 20 ∧ n6 ≤ x) → (c_rn1 B ln lu f ((q, 0, w), I, L)).2.1 h x = I h x) ∧ (c_rn1 B ln lu f ((q, 0, w), I, L)).2.1 13 6 = nI (n6 + v_ct B ln q) ∧ (∀ h x, ¬ (h = 17 ∧ f * 48 ≤ x ∧ x < f * 48 + 48) → ¬ ((h = 21 ∨ h = 22) ∧ n6 ≤ x) → (c_rn1 B ln lu f ((q, 0, w), I, L)).2.2 h x = L h x) ∧ f_N B ln q n6 f (c_rn1 B ln lu f ((q, 0, w), I, L)).2.1 (c_rn1 B ln lu f ((q, 0, w), I, L)).2.2) := by
  obtain ⟨⟨⟨⟨hv0, hv1⟩, hv2⟩, hv3⟩, hvC⟩ := hv
  have hc3 : B (m_le B ln (m_le B ln (q + 1))) ≤ 32 := hv3.2.2.1
  have hc1 := hB.1 (q + 1)
  -- the first part
  generalize hJ : ct_u2 (ct_u2 I 16 (f * 7 + 5) (-1)) 16 (f * 7 + 6) (-1) = J
  have J13 : J 13 = I 13 := by funext x; rw [← hJ, ct_u2_get, if_neg (by omega), ct_u2_get, if_neg (by omega)]
  have enJ : c_na J = c_na I := c_na_eq J13
  obtain ⟨a1, a2⟩ := y_rg1_ok hB lu (s := f) (w := w) hv0 hv1 hv2 J L d hd
  rw [enJ] at a1
  have e1 : c_rn1 B ln lu f ((q, 0, w), I, L) = c_rc B ln lu f (c_rn2 B ln lu f (c_rg1 B ln lu f ((q, 0, w), J, L))) := by unfold c_rn1 c_rn0; rw [hJ]
  have ed : v_lk lu (v_lkN B ln (c_na I) N SA q) d = v_lk lu (m_cl (fun i => m_ins B N SA (m_lcs B ln (q + 1)) (v_ct B ln q) (v_ip B (v_fa B ln q + 2) i)) (v_ct B ln q) 0) (v_lk lu (m_llc B ln (c_na I) (m_le B ln (m_le B ln (q + 1)))) (v_lk lu (fun d => m_llc B ln (c_na I) (m_le B ln (q + 1)) (m_llc B ln (c_na I) (q + 1) d)) d)) := by
    unfold v_lk; split <;> rfl
  rw [e1, ed]
  generalize c_rg1 B ln lu f ((q, 0, w), J, L) = S1 at a1 a2 ⊢
  generalize v_lk lu (fun d => m_llc B ln (c_na I) (m_le B ln (q + 1)) (m_llc B ln (c_na I) (q + 1) d)) d = d1 at a1 ⊢
  by_cases z1 : d1.2.1 = 0
  · have t1 := a1.2.2 z1
    obtain ⟨a3, a4, a5⟩ := a2 (by rw [t1])
    have S13 : S1.2.1 13 = I 13 := by funext x; rw [a3, ct_u2_get, if_neg (by omega), ct_u2_get, if_neg (by omega), ct_u2_get, if_neg (by omega), J13]
    have enS : c_na S1.2.1 = c_na I := c_na_eq S13
    have eS : S1 = ((m_le B ln (m_le B ln (q + 1)), 0, w), S1.2.1, S1.2.2) := by rw [← t1]
    rw [eS]
    obtain ⟨b1, b2⟩ := y_tys_ok hB lu (c_na S1.2.1) 17 (f * 48 + 2 * 8) w S1.2.2 d1 hv3 z1
    rw [enS] at b1
    have e2 : c_rn2 B ln lu f ((m_le B ln (m_le B ln (q + 1)), 0, w), S1.2.1, S1.2.2) = ((c_tys B ln lu (c_na S1.2.1) true 17 (f * 48 + 2 * 8) 0 32 (m_le B ln (m_le B ln (q + 1)), 0, w) S1.2.2).1, ct_u2 S1.2.1 16 (f * 7 + 3) (nI (B (m_le B ln (m_le B ln (q + 1))))), (c_tys B ln lu (c_na S1.2.1) true 17 (f * 48 + 2 * 8) 0 32 (m_le B ln (m_le B ln (q + 1)), 0, w) S1.2.2).2) := by
      unfold c_rn2; dsimp only; rw [y_tw_ok hv3.1 hv3.2.1 hv3.2.2.1]
    rw [e2]
    rw [enS] at b2 ⊢
    generalize c_tys B ln lu (c_na I) true 17 (f * 48 + 2 * 8) 0 32 (m_le B ln (m_le B ln (q + 1)), 0, w) S1.2.2 = T2 at b1 b2 ⊢
    generalize v_lk lu (m_llc B ln (c_na I) (m_le B ln (m_le B ln (q + 1)))) d1 = d2 at b1 ⊢
    by_cases z2 : d2.2.1 = 0
    · have t2 := b1.2.2 z2
      obtain ⟨b3, b4⟩ := b2 (by rw [t2])
      rw [t2]
      generalize hK : ct_u2 S1.2.1 16 (f * 7 + 3) (nI (B (m_le B ln (m_le B ln (q + 1))))) = K
      have K13 : K 13 = I 13 := by funext x; rw [← hK, ct_u2_get, if_neg (by omega), S13]
      have K14 : K 14 = I 14 := by funext x; rw [← hK, ct_u2_get, if_neg (by omega), a3, ct_u2_get, if_neg (by omega), ct_u2_get, if_neg (by omega), ct_u2_get, if_neg (by omega), ← hJ, ct_u2_get, if_neg (by omega), ct_u2_get, if_neg (by omega)]
      have KN : ∀ k, c_N K k = c_N I k := fun k => by unfold c_N; rw [K13]
      have elc : c_lc K f = m_lcs B ln (q + 1) := by
        have k1 : K 16 (f * 7 + 1) = nI (B (q + 1)) := by rw [← hK, ct_u2_get, if_neg (by omega)]; exact a5.2.2.1
        have k3 : K 16 (f * 7 + 3) = nI (B (m_le B ln (m_le B ln (q + 1)))) := by rw [← hK, ct_u2_get, if_pos ⟨rfl, rfl⟩]
        unfold c_lc; rw [k1, k3, nI_clamp (by omega), nI_clamp (by omega)]; rfl
      have hlc : m_lcs B ln (q + 1) < 2 ^ 31 := by
        have u1 := hB.1 (m_ln B ln 0 (q + 1))
        have u2 := hB.1 (m_ln B ln 2 (q + 1))
        unfold m_lcs; omega
      obtain ⟨c1, c2⟩ := y_rc_ok hB lu (N := N) (SA := SA) (w := w) (f := f) (n6 := n6) (lc := m_lcs B ln (q + 1)) hvC bN K T2.2 ((KN 6).trans h6) elc hlc (fun y => (hT y).at (fun k _ => by rw [K13]) K14) (by rw [KN, KN, KN]; exact hb) d2 z2
      refine ⟨c1, fun y => ?_⟩
      obtain ⟨c3, c4, c5, c6⟩ := c2 y
      rw [show m_le B ln (m_le B ln (m_le B ln (q + 1))) = v_fa B ln q from rfl]
      generalize c_rc B ln lu f ((v_fa B ln q, 0, w), K, T2.2) = S3 at c3 c4 c5 c6 ⊢
      have R16 : ∀ x, x < 4 → S3.2.1 16 (f * 7 + x) = K 16 (f * 7 + x) := fun x hx => c3 16 _ (by omega) (by omega) (by omega) (by omega)
      refine ⟨fun h x y1 y2 y3 y4 => ?_, c4, fun h x y1 y2 => ?_, ?_, ⟨hc3, ?_⟩, fun j hj => ?_, ?_, ?_, c6⟩
      · rw [c3 h x (by omega) y2 y3 y4, ← hK, ct_u2_get, if_neg (by omega), a3, ct_u2_get, if_neg (by omega), ct_u2_get, if_neg (by omega), ct_u2_get, if_neg (by omega), ← hJ, ct_u2_get, if_neg (by omega), ct_u2_get, if_neg (by omega)]
      · rw [c5 h x y2, b3 h x (by omega), a4 h x (by omega)]
      · refine f_G_same a5 (fun x hx => ?_) (fun x hx => ?_)
        · rw [R16 x (by omega), ← hK, ct_u2_get, if_neg (by omega)]
        · rw [c5 17 _ (by omega), b3 17 _ (by omega)]
      · rw [R16 3 (by decide), ← hK, ct_u2_get, if_pos ⟨rfl, rfl⟩]
      · rw [c5 17 _ (by omega)]; exact b4 j hj
      · rw [c3 16 _ (by omega) (by omega) (by omega) (by omega), ← hK, ct_u2_get, if_neg (by omega), a3, ct_u2_get, if_neg (by omega), ct_u2_get, if_neg (by omega), ct_u2_get, if_neg (by omega), ← hJ, ct_u2_get, if_neg (by omega), ct_u2_get, if_pos ⟨rfl, rfl⟩]
      · rw [c3 16 _ (by omega) (by omega) (by omega) (by omega), ← hK, ct_u2_get, if_neg (by omega), a3, ct_u2_get, if_neg (by omega), ct_u2_get, if_neg (by omega), ct_u2_get, if_neg (by omega), ← hJ, ct_u2_get, if_pos ⟨rfl, rfl⟩]
    · have hb2 : ¬ T2.1.2.1 = 0 := by rw [b1.1]; exact z2
      rw [c_rc_bad (show ¬ (T2.1, ct_u2 S1.2.1 16 (f * 7 + 3) (nI (B (m_le B ln (m_le B ln (q + 1))))), T2.2).1.2.1 = 0 from hb2), v_lk_bad (m_cl_bad z2)]
      exact ⟨b1.bad z2, fun y => absurd y hb2⟩
  · have hb1 : ¬ S1.1.2.1 = 0 := by rw [a1.1]; exact z1
    have hb2 : ¬ (c_rn2 B ln lu f S1).1.2.1 = 0 := by rw [c_rn2_bad hb1]; exact hb1
    rw [c_rc_bad hb2, c_rn2_bad hb1, v_lk_bad (m_llc_bad z1), v_lk_bad (m_cl_bad z1)]
    exact ⟨a1.bad z1, fun y => absurd y hb1⟩
/-! the loop over the functions -/
def iv_N (B : Nat → Nat) (ln p : Nat) (I0 : Nat → Nat → Int32) (L0 : Nat → Nat → Int64) (k : Nat) (S : c_S) : Prop := (S.2.1 13 6 = nI (v_FI B ln p k) ∧ v_FI B ln p k ≤ 8192) ∧ (∀ h x, ¬ (h = 16 ∧ x < 448) → ¬ h = 19 → ¬ (h = 13 ∧ x = 6) → ¬ h = 20 → S.2.1 h x = I0 h x) ∧ (∀ h x, ¬ (h = 17 ∧ x < 3072) → ¬ (h = 21 ∨ h = 22) → S.2.2 h x = L0 h x) ∧ ∀ j, j < k → f_N B ln (v_pN B ln p j) (v_FI B ln p j) j S.2.1 S.2.2
theorem v_FI_le (B : Nat → Nat) (ln p : Nat) : ∀ {j k : Nat}, j ≤ k → v_FI B ln p j ≤ v_FI B ln p k := by
  intro j k h
  induction k with
  | zero => have : j = 0 := by omega
            rw [this]; exact Nat.le_refl _
  | succ k ih =>
    by_cases e : j = k + 1
    · rw [e]; exact Nat.le_refl _
    · have := ih (by omega)
      rw [v_FI]; omega
theorem f_N_same {B : Nat → Nat} {ln p fi f : Nat} {I I' : Nat → Nat → Int32} {L L' : Nat → Nat → Int64} (h : f_N B ln p fi f I L) (h16 : ∀ x, x < 7 → I' 16 (f * 7 + x) = I 16 (f * 7 + x)) (h19 : I' 19 f = I 19 f) (h20 : ∀ x, x < fi + v_ct B ln p → I' 20 x = I 20 x) (h17 : ∀ x, x < 48 → L' 17 (f * 48 + x) = L 17 (f * 48 + x)) (h21 : ∀ x, x < fi + v_ct B ln p → L' 21 x = L 21 x ∧ L' 22 x = L 22 x) : f_N B ln p fi f I' L' := by
  obtain ⟨g1, ⟨g2, g3⟩, g4, g5, g6, g7, g8, g9⟩ := h
  refine ⟨f_G_same g1 (fun x hx => h16 x (by omega)) (fun x hx => h17 x (by omega)), ⟨g2, (h16 3 (by decide)).trans g3⟩, fun j hj => ?_, (h16 5 (by decide)).trans g5, (h16 6 (by decide)).trans g6, (h16 4 (by decide)).trans g7, h19.trans g8, fun i hi => ?_⟩
  · have := h17 (2 * 8 + j) (by omega)
    rw [← Nat.add_assoc] at this
    exact this.trans (g4 j hj)
  · have hi' : fi + i < fi + v_ct B ln p := by unfold v_ct; omega
    obtain ⟨k1, k2, k3⟩ := g9 i hi
    exact ⟨(h20 _ hi').trans k1, (h21 _ hi').1.trans k2, (h21 _ hi').2.trans k3⟩
def v_Ns (B : Nat → Nat) (ln p : Nat) : Prop := p < ln ∧ B p ≤ 64 ∧ ∀ f, f < B p → v_N B ln (v_FI B ln (p + 1) f) (v_pN B ln (p + 1) f)
theorem y_rn1_ok {B : Nat → Nat} {ln : Nat} (hB : v_B B ln) (lu : Bool) {N SA : Nat → Nat} {p w k : Nat} {I0 : Nat → Nat → Int32} {L0 : Nat → Nat → Int64} (hk : k < 64) (hv : v_N B ln (v_FI B ln p k) (v_pN B ln p k)) (bN : N 9 ≤ 32 ∧ N 10 ≤ 32 ∧ N 13 + N 11 < 2 ^ 31 ∧ N 12 < 2 ^ 31) (hT : lu = true → v_tb B N SA I0) (hb : c_N I0 5 + c_N I0 3 < 2 ^ 31 ∧ c_N I0 4 < 2 ^ 31) (I : Nat → Nat → Int32) (L : Nat → Nat → Int64) (d : c_Cu) (hI : iv_N B ln p I0 L0 k ((v_pN B ln p k, 0, w), I, L)) (hd : d.2.1 = 0) :
    v_R (c_rn1 B ln lu k ((v_pN B ln p k, 0, w), I, L)).1 (v_pN B ln p (k + 1)) w (v_lk lu (v_lkN B ln (c_na I0) N SA (v_pN B ln p k)) d) ∧ ((c_rn1 B ln lu k ((v_pN B ln p k, 0, w), I, L)).1.2.1 = 0 → iv_N B ln p I0 L0 (k + 1) (c_rn1 B ln lu k ((v_pN B ln p k, 0, w), I, L))) := by
  obtain ⟨⟨i0, i0'⟩, i1, i2, i3⟩ := hI
  dsimp only at i0 i1 i2 i3
  have h13 : ∀ k, k < 6 → I 13 k = I0 13 k := fun k hk => i1 13 k (by omega) (by omega) (by omega) (by omega)
  have h14 : I 14 = I0 14 := by funext x; exact i1 14 x (by omega) (by omega) (by omega) (by omega)
  have hN : ∀ k, k < 6 → c_N I k = c_N I0 k := fun k hk => by unfold c_N; rw [h13 k hk]
  have h6 : c_N I 6 = v_FI B ln p k := by unfold c_N; rw [i0]; exact nI_clamp (by omega)
  have ena : c_na I = c_na I0 := by show c_N I 1 + c_N I 2 = c_N I0 1 + c_N I0 2; rw [hN 1 (by decide), hN 2 (by decide)]
  obtain ⟨a1, a2⟩ := y_rn1_q hB lu (N := N) (SA := SA) (w := w) (f := k) hv bN I L h6 (fun q => (hT q).at h13 h14) (by rw [hN 5 (by decide), hN 3 (by decide), hN 4 (by decide)]; exact hb) d hd
  rw [ena] at a1
  rw [v_pN]
  generalize c_rn1 B ln lu k ((v_pN B ln p k, 0, w), I, L) = S at a1 a2 ⊢
  refine ⟨a1, fun q => ?_⟩
  obtain ⟨a3, a4, a5, a6⟩ := a2 q
  have hle : v_FI B ln p (k + 1) ≤ 8192 := by rw [v_FI]; have := hv.2.1.2.2.2; unfold v_ct; exact this
  refine ⟨⟨by rw [v_FI]; exact a4, hle⟩, fun h x y1 y2 y3 y4 => ?_, fun h x y1 y2 => ?_, fun j hj => ?_⟩
  · rw [a3 h x (by omega) (by omega) y3 (by omega)]; exact i1 h x y1 y2 y3 y4
  · rw [a5 h x (by omega) (by omega)]; exact i2 h x y1 y2
  · by_cases y : j = k
    · rw [y]; exact a6
    · have hle2 : v_FI B ln p j + v_ct B ln (v_pN B ln p j) ≤ v_FI B ln p k := v_FI_le B ln p (show j + 1 ≤ k by omega)
      exact f_N_same (i3 j (by omega)) (fun x hx => a3 16 _ (by omega) (by omega) (by omega) (by omega)) (a3 19 _ (by omega) (by omega) (by omega) (by omega)) (fun x hx => a3 20 _ (by omega) (by omega) (by omega) (by omega)) (fun x hx => a5 17 _ (by omega) (by omega)) (fun x hx => ⟨a5 21 _ (by omega) (by omega), a5 22 _ (by omega) (by omega)⟩)
def v_I5 (I : Nat → Nat → Int32) (n : Nat) : Nat → Nat → Int32 := ct_u2 (ct_u2 I 13 5 (nI n)) 13 6 0
theorem y_rN_ok {B : Nat → Nat} {ln : Nat} (hB : v_B B ln) (lu : Bool) {N SA : Nat → Nat} {p w : Nat} (hv : v_Ns B ln p) (bN : N 9 ≤ 32 ∧ N 10 ≤ 32 ∧ N 13 + N 11 < 2 ^ 31 ∧ N 12 < 2 ^ 31) (I : Nat → Nat → Int32) (L : Nat → Nat → Int64) (hT : lu = true → v_tb B N SA (v_I5 I (B p))) (hb : c_N I 3 ≤ 32 ∧ c_N I 4 ≤ 32) (d : c_Cu) (hd : d.2.1 = 0) :
    v_R (c_rN B ln lu ((p, 0, w), I, L)).1 (v_pN B ln (p + 1) (B p)) w (v_lk lu (m_cl (fun k => v_lkN B ln (c_na I) N SA (v_pN B ln (p + 1) k)) (B p) 0) d) ∧ ((c_rN B ln lu ((p, 0, w), I, L)).1.2.1 = 0 → iv_N B ln (p + 1) (v_I5 I (B p)) L (B p) (c_rN B ln lu ((p, 0, w), I, L))) := by
  obtain ⟨h1, h2, h3⟩ := hv
  have e : c_rN B ln lu ((p, 0, w), I, L) = c_lp (c_rn1 B ln lu) (B p) 0 ((v_pN B ln (p + 1) 0, 0, w), v_I5 I (B p), L) := by
    unfold c_rN; dsimp only; rw [y_tw_ok h1 (Nat.zero_le _) h2]; rfl
  have eN : ∀ k, k < 5 → c_N (v_I5 I (B p)) k = c_N I k := fun k hk => by
    unfold c_N v_I5; rw [ct_u2_get, if_neg (by omega), ct_u2_get, if_neg (by omega)]
  have eN5 : c_N (v_I5 I (B p)) 5 = B p := by
    unfold c_N v_I5; rw [ct_u2_get, if_neg (by omega), ct_u2_get, if_pos ⟨rfl, rfl⟩]; exact nI_clamp (by omega)
  have ena : c_na (v_I5 I (B p)) = c_na I := by show c_N _ 1 + c_N _ 2 = c_N I 1 + c_N I 2; rw [eN 1 (by decide), eN 2 (by decide)]
  rw [e, ← ena]
  exact lp_ok lu (Inv := iv_N B ln (p + 1) (v_I5 I (B p)) L) (look := fun k => v_lkN B ln (c_na (v_I5 I (B p))) N SA (v_pN B ln (p + 1) k)) (fun k hk I' L' d' hI hd' => y_rn1_ok hB lu (by omega) (h3 k hk) bN hT (by rw [eN5, eN 3 (by decide), eN 4 (by decide)]; omega) I' L' d' hI hd') (B p) 0 (Nat.zero_add _) _ L d ⟨⟨rfl, Nat.zero_le _⟩, fun _ _ _ _ _ _ => rfl, fun _ _ _ _ => rfl, fun j hj => absurd hj (Nat.not_lt_zero _)⟩ hd
