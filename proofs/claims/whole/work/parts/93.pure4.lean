/-! PURE: steps of the first walk, class beside reference -/
/-- on a good cursor: a good thing is passed, at a bad one both have the same fault -/
def v_G (ln : Nat) (op op' : c_Cu → c_Cu) (V : Nat → Prop) (e : Nat → Nat) : Prop := (∀ p w, p ≤ ln → V p → op (p, 0, w) = (e p, 0, w) ∧ op' (p, 0, w) = (e p, 0, w) ∧ e p ≤ ln) ∧ ∀ p w w', p ≤ ln → ¬ V p → v_si (op (p, 0, w)) (op' (p, 0, w')) ∧ ¬ (op (p, 0, w)).2.1 = 0
/-- a bad cursor stays -/
def v_D (op op' : c_Cu → c_Cu) : Prop := (∀ c, ¬ c.2.1 = 0 → op c = c) ∧ ∀ c, ¬ c.2.1 = 0 → op' c = c
theorem v_G.comp {ln : Nat} {op op' q q' : c_Cu → c_Cu} {V W : Nat → Prop} {e f : Nat → Nat} (h : v_G ln op op' V e) (g : v_G ln q q' W f) (gd : v_D q q') : v_G ln (fun c => q (op c)) (fun c => q' (op' c)) (fun p => V p ∧ W (e p)) (fun p => f (e p)) := by
  refine ⟨fun p w hp hV => ?_, fun p w w' hp hV => ?_⟩
  · obtain ⟨h1, h2, h3⟩ := h.1 p w hp hV.1
    obtain ⟨g1, g2, g3⟩ := g.1 (e p) w h3 hV.2
    refine ⟨?_, ?_, g3⟩
    · show q (op (p, 0, w)) = _; rw [h1]; exact g1
    · show q' (op' (p, 0, w)) = _; rw [h2]; exact g2
  · show v_si (q (op (p, 0, w))) (q' (op' (p, 0, w'))) ∧ ¬ (q (op (p, 0, w))).2.1 = 0
    by_cases z : V p
    · obtain ⟨h1, -, h3⟩ := h.1 p w hp z
      obtain ⟨-, h2, -⟩ := h.1 p w' hp z
      rw [h1, h2]
      exact g.2 (e p) w w' h3 (fun y => hV ⟨z, y⟩)
    · obtain ⟨a1, a2⟩ := h.2 p w w' hp z
      rw [gd.1 _ a2, gd.2 _ (by rw [← a1.1]; exact a2)]
      exact ⟨a1, a2⟩
theorem v_D.comp {op op' q q' : c_Cu → c_Cu} (h : v_D op op') (g : v_D q q') : v_D (fun c => q (op c)) (fun c => q' (op' c)) :=
  ⟨fun c hc => by show q (op c) = c; rw [h.1 c hc, g.1 c hc], fun c hc => by show q' (op' c) = c; rw [h.2 c hc, g.2 c hc]⟩
theorem c_tl_cu {B : Nat → Nat} {ln : Nat} {lu : Bool} {na : Nat} {rf : Bool} {r fr r2 fr2 : Nat} : ∀ (n i i2 : Nat) (c : c_Cu) (L L2 : Nat → Nat → Int64), (c_tl B ln lu na rf r fr n i c L).1 = (c_tl B ln lu na rf r2 fr2 n i2 c L2).1
  | 0, _, _, _, _, _ => rfl
  | n + 1, i, i2, c, L, L2 => by
    unfold c_tl
    split
    · exact c_tl_cu n (i + 1) (i2 + 1) _ _ _
    · rfl
/-- the cursor behind a list, first walk -/
def y_ls (B : Nat → Nat) (ln na : Nat) (rf : Bool) (lo hi : Nat) (c : c_Cu) : c_Cu := (c_tys B ln false na rf 0 0 lo hi c (fun _ _ => 0)).1
theorem y_ls_eq {B : Nat → Nat} {ln na : Nat} {rf : Bool} {r fr lo hi : Nat} (c : c_Cu) (L : Nat → Nat → Int64) : (c_tys B ln false na rf r fr lo hi c L).1 = y_ls B ln na rf lo hi c := c_tl_cu _ _ _ _ _ _
theorem v_G_ls {B : Nat → Nat} {ln : Nat} (hB : v_B B ln) (na hi : Nat) : v_G ln (y_ls B ln na true 0 hi) (m_gl B ln hi) (v_L B ln 0 hi true) (m_le B ln) := by
  refine ⟨fun p w hp hV => ⟨?_, ?_, hV.le hB⟩, fun p w w' hp hV => ?_⟩
  · obtain ⟨h1, -⟩ := y_tys_ok hB false na 0 0 w (fun _ _ => 0) (0, 0, 0) hV rfl
    exact h1.2.2 rfl
  · unfold m_gl m_ls; rw [if_pos rfl, z_ls_ok hB w hV]
  · have := y_tys_bad hB na 0 0 w w' (fun _ _ => 0) hV
    unfold m_gl m_ls; rw [if_pos rfl]
    exact this
theorem v_D_ls {B : Nat → Nat} {ln na hi : Nat} : v_D (y_ls B ln na true 0 hi) (m_gl B ln hi) :=
  ⟨fun c hc => by unfold y_ls; rw [c_tys_bad hc], fun c hc => by unfold m_gl; rw [if_neg hc]⟩
theorem v_G_tw {B : Nat → Nat} {ln lo hi : Nat} : v_G ln (fun c => (c_tw B ln 1 lo hi c).2) (m_gc B ln lo hi) (fun p => p < ln ∧ lo ≤ B p ∧ B p ≤ hi) (fun p => p + 1) := by
  refine ⟨fun p w hp hV => ⟨?_, ?_, hV.1⟩, fun p w w' hp hV => ?_⟩
  · show (c_tw B ln 1 lo hi (p, 0, w)).2 = _; rw [y_tw_ok hV.1 hV.2.1 hV.2.2]
  · unfold m_gc; rw [if_pos rfl, (z_c1_ok hV.1 hV.2.1 hV.2.2).1]
  · obtain ⟨x, h1, h2, h3, h4⟩ := y_tw_no (B := B) (w := w) (w' := w') hV
    unfold m_gc; rw [if_pos rfl, h3]
    show v_si (c_tw B ln 1 lo hi (p, 0, w)).2 x ∧ ¬ (c_tw B ln 1 lo hi (p, 0, w)).2.2.1 = 0
    rw [h2]
    exact ⟨⟨rfl, fun _ => rfl, fun _ => rfl⟩, h1⟩
theorem v_D_tw {B : Nat → Nat} {ln lo hi : Nat} : v_D (fun c => (c_tw B ln 1 lo hi c).2) (m_gc B ln lo hi) :=
  ⟨fun c hc => by show (c_tw B ln 1 lo hi c).2 = c; rw [c_tw_bad hc], fun c hc => by unfold m_gc; rw [if_neg hc]⟩
theorem v_G_3 {B : Nat → Nat} {ln : Nat} : v_G ln (fun c => (c_tk B ln 1 (c_tk B ln 2 c).2).2) (m_ov ln 3) (fun p => p + 3 ≤ ln) (fun p => p + 3) := by
  refine ⟨fun p w hp hV => ⟨?_, z_ov hV, hV⟩, fun p w w' hp hV => ?_⟩
  · show (c_tk B ln 1 (c_tk B ln 2 (p, 0, w)).2).2 = _
    rw [y_tk (show p + 2 ≤ ln by omega)]; dsimp only
    rw [y_tk (show p + 2 + 1 ≤ ln from hV)]
  · rw [z_ov' hV]
    have e : (c_tk B ln 1 (c_tk B ln 2 (p, 0, w)).2).2.2 = (2, ln) := by
      by_cases z : p + 2 ≤ ln
      · rw [y_tk z]; dsimp only
        rw [y_tk' (show ¬ p + 2 + 1 ≤ ln from hV)]
      · rw [y_tk' z, c_tk_bad (show ¬ (p, 2, ln).2.1 = 0 from n2z)]
    show v_si (c_tk B ln 1 (c_tk B ln 2 (p, 0, w)).2).2 (p, 2, ln) ∧ ¬ (c_tk B ln 1 (c_tk B ln 2 (p, 0, w)).2).2.2.1 = 0
    rw [v_si, e]
    exact ⟨⟨rfl, fun q => absurd q n2z, fun _ => rfl⟩, n2z⟩
/-- loops of things whose cursors do not hang on the tables -/
theorem v_G_lp {ln : Nat} {op op' : c_Cu → c_Cu} {V : Nat → Prop} {e : Nat → Nat} (h : v_G ln op op' V e) {f : Nat → c_S → c_S} {F : Nat → m_S → m_S} (hf : ∀ k S, (f k S).1 = op S.1) (hF : ∀ k Z, (F k Z).1 = op' Z.1) {pos : Nat → Nat} (hpos : ∀ k, pos (k + 1) = e (pos k)) {w w' : Nat} :
    ∀ (n k : Nat) (I : Nat → Nat → Int32) (L : Nat → Nat → Int64) (J : Nat → Nat → Int32), pos k ≤ ln → ¬ (∀ j, j < n → V (pos (k + j))) → v_si (c_lp f n k ((pos k, 0, w), I, L)).1 (m_lp F n k ((pos k, 0, w'), J)).1 ∧ ¬ (c_lp f n k ((pos k, 0, w), I, L)).1.2.1 = 0 := by
  intro n
  induction n with
  | zero => intro k I L J _ hn; exact absurd (fun j hj => absurd hj (Nat.not_lt_zero _)) hn
  | succ n ih =>
    intro k I L J hp hn
    have e1 : c_lp f (n + 1) k ((pos k, 0, w), I, L) = c_lp f n (k + 1) (f k ((pos k, 0, w), I, L)) := by rw [c_lp, if_pos rfl]
    have e2 : m_lp F (n + 1) k ((pos k, 0, w'), J) = m_lp F n (k + 1) (F k ((pos k, 0, w'), J)) := by rw [m_lp, if_pos rfl]
    rw [e1, e2]
    have a1 := hf k ((pos k, 0, w), I, L)
    have b1 := hF k ((pos k, 0, w'), J)
    generalize f k ((pos k, 0, w), I, L) = S at a1 ⊢
    generalize F k ((pos k, 0, w'), J) = Y at b1 ⊢
    by_cases z : V (pos k)
    · obtain ⟨h1, -, h3⟩ := h.1 (pos k) w hp z
      obtain ⟨-, h2, -⟩ := h.1 (pos k) w' hp z
      have a2 : S.1 = (pos (k + 1), 0, w) := by rw [a1]; show op (pos k, 0, w) = _; rw [h1, hpos]
      have b2 : Y.1 = (pos (k + 1), 0, w') := by rw [b1]; show op' (pos k, 0, w') = _; rw [h2, hpos]
      have e4 : S = ((pos (k + 1), 0, w), S.2.1, S.2.2) := by rw [← a2]
      have e5 : Y = ((pos (k + 1), 0, w'), Y.2) := by rw [← b2]
      rw [e4, e5]
      refine ih (k + 1) S.2.1 S.2.2 Y.2 (by rw [hpos]; exact h3) (fun y => hn (fun j hj => ?_))
      by_cases q : j = 0
      · rw [q]; exact z
      · have := y (j - 1) (by omega)
        rw [show k + 1 + (j - 1) = k + j from by omega] at this
        exact this
    · obtain ⟨c1, c2⟩ := h.2 (pos k) w w' hp z
      have c1' : v_si S.1 Y.1 := by rw [a1, b1]; exact c1
      have c2' : ¬ S.1.2.1 = 0 := by rw [a1]; exact c2
      rw [c_lp_bad c2', m_lp_bad (by rw [← c1'.1]; exact c2')]
      exact ⟨c1', c2'⟩
/-! foreign structures -/
def v_F (B : Nat → Nat) (ln p : Nat) : Prop := p + 3 ≤ ln ∧ (p + 3 < ln ∧ 0 ≤ B (p + 3) ∧ B (p + 3) ≤ 15)
def v_Fs (B : Nat → Nat) (ln p : Nat) : Prop := p < ln ∧ B p ≤ 32 ∧ ∀ k, k < B p → v_F B ln (p + 1 + 4 * k)
def f_F (B : Nat → Nat) (p j : Nat) (I : Nat → Nat → Int32) : Prop := B (p + 3) ≤ 15 ∧ I 14 (j * 4 + 2) = nI (c_num B p 2) ∧ I 14 (j * 4 + 3) = nI (B (p + 2)) ∧ I 14 (j * 4 + 0) = nI (B (p + 3)) ∧ I 14 (j * 4 + 1) = 0
def iv_F (B : Nat → Nat) (p n1 : Nat) (I0 : Nat → Nat → Int32) (L0 : Nat → Nat → Int64) (k : Nat) (S : c_S) : Prop := (∀ h, ¬ h = 14 → S.2.1 h = I0 h) ∧ S.2.2 = L0 ∧ (∀ x, x < n1 * 4 → S.2.1 14 x = I0 14 x) ∧ ∀ j, j < k → f_F B (p + 4 * j) (n1 + j) S.2.1
theorem v_lk_id (lu : Bool) (d : c_Cu) : v_lk lu (fun d => d) d = d := by unfold v_lk; split <;> rfl
theorem m_cl_id : ∀ (n k : Nat) (d : c_Cu), m_cl (fun _ d => d) n k d = d
  | 0, _, _ => rfl
  | n + 1, k, d => by unfold m_cl; split; exact m_cl_id n (k + 1) d; rfl
theorem y_rf1_ok {B : Nat → Nat} {ln : Nat} {p w n1 k : Nat} {I0 : Nat → Nat → Int32} {L0 : Nat → Nat → Int64} (hn : c_N I0 1 = n1) (hv : v_F B ln (p + 4 * k)) (I : Nat → Nat → Int32) (L : Nat → Nat → Int64) (hI : iv_F B p n1 I0 L0 k ((p + 4 * k, 0, w), I, L)) :
    (c_rf1 B ln k ((p + 4 * k, 0, w), I, L)).1 = (p + 4 * (k + 1), 0, w) ∧ iv_F B p n1 I0 L0 (k + 1) (c_rf1 B ln k ((p + 4 * k, 0, w), I, L)) := by
  obtain ⟨i1, i2, i3, i4⟩ := hI
  dsimp only at i1 i2 i3 i4
  have en : c_N I 1 = n1 := by rw [← hn]; unfold c_N; rw [i1 13 (by decide)]
  have hp3 : p + 4 * k + 2 + 1 = p + 4 * k + 3 := rfl
  have e : c_rf1 B ln k ((p + 4 * k, 0, w), I, L) = ((p + 4 * (k + 1), 0, w), ct_u2 (ct_u2 (ct_u2 (ct_u2 I 14 ((n1 + k) * 4 + 2) (nI (c_num B (p + 4 * k) 2))) 14 ((n1 + k) * 4 + 3) (nI (B (p + 4 * k + 2)))) 14 ((n1 + k) * 4 + 0) (nI (B (p + 4 * k + 3)))) 14 ((n1 + k) * 4 + 1) 0, L) := by
    unfold c_rf1
    dsimp only
    rw [y_tk (show p + 4 * k + 2 ≤ ln by have := hv.1; omega)]
    dsimp only
    rw [y_tk1 (show p + 4 * k + 2 < ln from hv.1)]
    dsimp only
    rw [hp3, y_tw_ok hv.2.1 hv.2.2.1 hv.2.2.2, en]
    rfl
  rw [e]
  refine ⟨rfl, fun h hh => ?_, i2, fun x hx => ?_, fun j hj => ?_⟩
  · rw [← i1 h hh]; funext x
    show ct_u2 (ct_u2 (ct_u2 (ct_u2 I 14 _ _) 14 _ _) 14 _ _) 14 _ _ h x = I h x
    rw [ct_u2_get, if_neg (fun z => hh z.1), ct_u2_get, if_neg (fun z => hh z.1), ct_u2_get, if_neg (fun z => hh z.1), ct_u2_get, if_neg (fun z => hh z.1)]
  · rw [← i3 x hx]
    show ct_u2 (ct_u2 (ct_u2 (ct_u2 I 14 _ _) 14 _ _) 14 _ _) 14 _ _ 14 x = I 14 x
    rw [ct_u2_get, if_neg (by omega), ct_u2_get, if_neg (by omega), ct_u2_get, if_neg (by omega), ct_u2_get, if_neg (by omega)]
  · by_cases q : j = k
    · subst q
      refine ⟨hv.2.2.2, ?_, ?_, ?_, ?_⟩ <;> simp [ct_u2_get]
    · obtain ⟨g0, g1, g2, g3, g4⟩ := i4 j (by omega)
      have n14 : ∀ x, x < 4 → ct_u2 (ct_u2 (ct_u2 (ct_u2 I 14 ((n1 + k) * 4 + 2) (nI (c_num B (p + 4 * k) 2))) 14 ((n1 + k) * 4 + 3) (nI (B (p + 4 * k + 2)))) 14 ((n1 + k) * 4 + 0) (nI (B (p + 4 * k + 3)))) 14 ((n1 + k) * 4 + 1) 0 14 ((n1 + j) * 4 + x) = I 14 ((n1 + j) * 4 + x) := by
        intro x hx
        rw [ct_u2_get, if_neg (by omega), ct_u2_get, if_neg (by omega), ct_u2_get, if_neg (by omega), ct_u2_get, if_neg (by omega)]
      exact ⟨g0, (n14 2 (by decide)).trans g1, (n14 3 (by decide)).trans g2, (n14 0 (by decide)).trans g3, (n14 1 (by decide)).trans g4⟩
theorem y_rF_ok {B : Nat → Nat} {ln : Nat} {p w : Nat} (hv : v_Fs B ln p) (I : Nat → Nat → Int32) (L : Nat → Nat → Int64) :
    (c_rF B ln ((p, 0, w), I, L)).1 = (p + 1 + 4 * B p, 0, w) ∧ iv_F B (p + 1) (c_N I 1) (ct_u2 I 13 2 (nI (B p))) L (B p) (c_rF B ln ((p, 0, w), I, L)) := by
  obtain ⟨h1, h2, h3⟩ := hv
  have e : c_rF B ln ((p, 0, w), I, L) = c_lp (c_rf1 B ln) (B p) 0 ((p + 1 + 4 * 0, 0, w), ct_u2 I 13 2 (nI (B p)), L) := by
    unfold c_rF; dsimp only; rw [y_tw_ok h1 (Nat.zero_le _) h2]
  have en : c_N (ct_u2 I 13 2 (nI (B p))) 1 = c_N I 1 := by rw [c_N_set (by omega), if_neg (by decide)]
  rw [e]
  have key := lp_ok false (look := fun _ d => d) (pos := fun k => p + 1 + 4 * k) (w := w) (N := B p) (f := c_rf1 B ln) (Inv := iv_F B (p + 1) (c_N I 1) (ct_u2 I 13 2 (nI (B p))) L) (fun k hk I' L' d hI hd => by
    obtain ⟨a1, a2⟩ := y_rf1_ok en (h3 k hk) I' L' hI
    refine ⟨?_, fun _ => a2⟩
    rw [a1]
    exact ⟨hd.symm, fun z => absurd hd z, fun _ => rfl⟩) (B p) 0 (Nat.zero_add _) (ct_u2 I 13 2 (nI (B p))) L (0, 0, 0) ⟨fun _ _ => rfl, rfl, fun _ _ => rfl, fun j hj => absurd hj (Nat.not_lt_zero _)⟩ rfl
  have c1 := key.1.2.2 rfl
  exact ⟨c1, key.2 (by rw [c1])⟩
theorem v_G_f {B : Nat → Nat} {ln : Nat} : v_G ln (fun c => (c_tw B ln 1 0 15 (c_tk B ln 1 (c_tk B ln 2 c).2).2).2) (fun c => m_gc B ln 0 15 (m_ov ln 3 c)) (v_F B ln) (fun p => p + 3 + 1) :=
  v_G.comp (V := fun p => p + 3 ≤ ln) (e := fun p => p + 3) (W := fun p => p < ln ∧ 0 ≤ B p ∧ B p ≤ 15) (f := fun p => p + 1) v_G_3 v_G_tw v_D_tw
theorem y_rF_bad {B : Nat → Nat} {ln : Nat} {p w w' : Nat} (hv : ¬ v_Fs B ln p) (I : Nat → Nat → Int32) (L : Nat → Nat → Int64) (J : Nat → Nat → Int32) :
    v_si (c_rF B ln ((p, 0, w), I, L)).1 (m_pF B ln ((p, 0, w'), J)).1 ∧ ¬ (c_rF B ln ((p, 0, w), I, L)).1.2.1 = 0 := by
  unfold c_rF m_pF m_gv m_gc
  dsimp only
  rw [if_pos rfl, if_pos rfl]
  by_cases z : p < ln ∧ 0 ≤ B p ∧ B p ≤ 32
  · rw [y_tw_ok z.1 z.2.1 z.2.2, (z_c1_ok z.1 z.2.1 z.2.2).1, (z_c1_ok z.1 z.2.1 z.2.2).2]
    dsimp only
    refine v_G_lp (v_G_f (B := B) (ln := ln)) (pos := fun k => p + 1 + 4 * k) (fun _ _ => rfl) (fun _ _ => rfl) (fun k => by show p + 1 + 4 * (k + 1) = p + 1 + 4 * k + 3 + 1; omega) (B p) 0 _ L _ z.1 (fun y => hv ⟨z.1, z.2.2, fun k hk => ?_⟩)
    have := y k hk
    rwa [Nat.zero_add] at this
  · obtain ⟨x, h1, h2, h3, h4⟩ := y_tw_no (B := B) (w := w) (w' := w') z
    rw [h2, h3, h4]
    exact ⟨⟨rfl, fun _ => rfl, fun _ => rfl⟩, h1⟩
def iw_F (p n1 : Nat) (J0 : Nat → Nat → Int32) (k : Nat) (Z : m_S) : Prop := (∀ h, ¬ h = 32 → Z.2 h = J0 h) ∧ (∀ x, x < n1 → Z.2 32 x = J0 32 x) ∧ ∀ j, j < k → Z.2 32 (n1 + j) = nI (p + 4 * j)
theorem z_pF_ok {B : Nat → Nat} {ln : Nat} {p w : Nat} (hv : v_Fs B ln p) (J : Nat → Nat → Int32) :
    (m_pF B ln ((p, 0, w), J)).1 = (p + 1 + 4 * B p, 0, w) ∧ iw_F (p + 1) (m_n9 J) (ct_u2 J 29 10 (nI (B p))) (B p) (m_pF B ln ((p, 0, w), J)) := by
  obtain ⟨h1, h2, h3⟩ := hv
  have e : m_pF B ln ((p, 0, w), J) = m_lp (m_f1o B ln (m_n9 J)) (B p) 0 ((p + 1 + 4 * 0, 0, w), ct_u2 J 29 10 (nI (B p))) := by
    unfold m_pF m_gv m_gc; dsimp only; rw [if_pos rfl, if_pos rfl, (z_c1_ok h1 (Nat.zero_le _) h2).1, (z_c1_ok h1 (Nat.zero_le _) h2).2]
  rw [e]
  refine m_lp_ok (pos := fun k => p + 1 + 4 * k) (Inv := iw_F (p + 1) (m_n9 J) (ct_u2 J 29 10 (nI (B p)))) (fun k hk J' hI => ?_) (B p) 0 (Nat.zero_add _) _ ⟨fun _ _ => rfl, fun _ _ => rfl, fun j hj => absurd hj (Nat.not_lt_zero _)⟩
  have a := ((v_G_f (B := B) (ln := ln)).1 (p + 1 + 4 * k) w (by have := (h3 k hk).1; omega) (h3 k hk)).2.1
  refine ⟨?_, fun h hh => ?_, fun x hx => ?_, fun j hj => ?_⟩
  · show m_gc B ln 0 15 (m_ov ln 3 (p + 1 + 4 * k, 0, w)) = _
    rw [show m_gc B ln 0 15 (m_ov ln 3 (p + 1 + 4 * k, 0, w)) = (p + 1 + 4 * k + 3 + 1, 0, w) from a, show p + 1 + 4 * k + 3 + 1 = p + 1 + 4 * (k + 1) from by omega]
  · rw [← hI.1 h hh]; funext x
    show ct_u2 J' 32 _ _ h x = J' h x
    rw [ct_u2_get, if_neg (fun z => hh z.1)]
  · rw [← hI.2.1 x hx]
    show ct_u2 J' 32 _ _ 32 x = J' 32 x
    rw [ct_u2_get, if_neg (by omega)]
  · show ct_u2 J' 32 (m_n9 J + k) _ 32 (m_n9 J + j) = _
    by_cases y : j = k
    · rw [ct_u2_get, if_pos ⟨rfl, by rw [y]⟩, y]
    · rw [ct_u2_get, if_neg (by omega)]; exact hI.2.2 j (by omega)
