/-! PURE: own structures, foreign structures -/
def v_S (B : Nat → Nat) (ln p : Nat) : Prop := p < ln ∧ B p ≤ 15 ∧ v_L B ln 1 16 false (p + 1)
def v_pS (B : Nat → Nat) (ln p : Nat) : Nat → Nat
  | 0 => p
  | k + 1 => m_le B ln (v_pS B ln p k + 1)
/-- what the tables say of the own structure j, which stands at p -/
def f_S (B : Nat → Nat) (ln p j : Nat) (I : Nat → Nat → Int32) (L : Nat → Nat → Int64) : Prop := (B p ≤ 15 ∧ 1 ≤ B (p + 1) ∧ B (p + 1) ≤ 16) ∧ I 14 (j * 4 + 0) = nI (B p) ∧ I 14 (j * 4 + 1) = nI (B (p + 1)) ∧ I 14 (j * 4 + 2) = -1 ∧ I 14 (j * 4 + 3) = -1 ∧ I 24 j = nI p ∧ ∀ i, i < B (p + 1) → L 15 (j * 16 + i) = lN (v_v B ln (m_tn B ln i (p + 2)))
theorem y_rs1_cu {B : Nat → Nat} {ln : Nat} {lu : Bool} {k p w : Nat} {I : Nat → Nat → Int32} {L : Nat → Nat → Int64} (h : v_S B ln p) : c_rs1 B ln lu k ((p, 0, w), I, L) = ((c_tys B ln lu (c_na I) false 15 (k * 16) 1 16 (p + 1, 0, w) L).1, ct_u2 (ct_u2 (ct_u2 (ct_u2 (ct_u2 I 24 k (nI p)) 14 (k * 4 + 0) (nI (B p))) 14 (k * 4 + 1) (nI (B (p + 1)))) 14 (k * 4 + 2) (-1)) 14 (k * 4 + 3) (-1), (c_tys B ln lu (c_na I) false 15 (k * 16) 1 16 (p + 1, 0, w) L).2) := by
  unfold c_rs1
  dsimp only
  rw [y_tw_ok h.1 (Nat.zero_le _) h.2.1]
  dsimp only
  rw [y_tw_ok h.2.2.1 h.2.2.2.1 h.2.2.2.2.1]
def iv_S (B : Nat → Nat) (ln p : Nat) (I0 : Nat → Nat → Int32) (L0 : Nat → Nat → Int64) (k : Nat) (S : c_S) : Prop := (∀ h, ¬ h = 14 → ¬ h = 24 → S.2.1 h = I0 h) ∧ (∀ h, ¬ h = 15 → S.2.2 h = L0 h) ∧ ∀ j, j < k → f_S B ln (v_pS B ln p j) j S.2.1 S.2.2
theorem c_na_eq {I J : Nat → Nat → Int32} (h : I 13 = J 13) : c_na I = c_na J := by show c_N I 1 + c_N I 2 = c_N J 1 + c_N J 2; unfold c_N; rw [h]
theorem y_rs1_ok {B : Nat → Nat} {ln : Nat} (hB : v_B B ln) (lu : Bool) {p w k : Nat} {I0 : Nat → Nat → Int32} {L0 : Nat → Nat → Int64} (hv : v_S B ln (v_pS B ln p k)) (I : Nat → Nat → Int32) (L : Nat → Nat → Int64) (d : c_Cu) (hI : iv_S B ln p I0 L0 k ((v_pS B ln p k, 0, w), I, L)) (hd : d.2.1 = 0) :
    v_R (c_rs1 B ln lu k ((v_pS B ln p k, 0, w), I, L)).1 (v_pS B ln p (k + 1)) w (v_lk lu (m_l1 B ln (c_na I0) (v_pS B ln p) k) d) ∧ ((c_rs1 B ln lu k ((v_pS B ln p k, 0, w), I, L)).1.2.1 = 0 → iv_S B ln p I0 L0 (k + 1) (c_rs1 B ln lu k ((v_pS B ln p k, 0, w), I, L))) := by
  obtain ⟨i1, i2, i3⟩ := hI
  dsimp only at i1 i2 i3
  have ena : c_na I = c_na I0 := c_na_eq (i1 13 (by decide) (by decide))
  rw [y_rs1_cu hv, ena]
  obtain ⟨h1, h2⟩ := y_tys_ok hB lu (c_na I0) 15 (k * 16) w L d hv.2.2 hd
  have hb16 : B (v_pS B ln p k + 1) ≤ 16 := hv.2.2.2.2.1
  refine ⟨h1, fun q => ?_⟩
  obtain ⟨h3, h4⟩ := h2 q
  refine ⟨fun h a1 a2 => ?_, fun h a1 => ?_, fun j hj => ?_⟩
  · rw [← i1 h a1 a2]
    funext x
    show ct_u2 (ct_u2 (ct_u2 (ct_u2 (ct_u2 I 24 k _) 14 _ _) 14 _ _) 14 _ _) 14 _ _ h x = I h x
    rw [ct_u2_get, if_neg (fun z => a1 z.1), ct_u2_get, if_neg (fun z => a1 z.1), ct_u2_get, if_neg (fun z => a1 z.1), ct_u2_get, if_neg (fun z => a1 z.1), ct_u2_get, if_neg (fun z => a2 z.1)]
  · rw [← i2 h a1]
    funext x
    exact h3 h x (fun z => a1 z.1)
  · show f_S B ln (v_pS B ln p j) j (ct_u2 (ct_u2 (ct_u2 (ct_u2 (ct_u2 I 24 k _) 14 _ _) 14 _ _) 14 _ _) 14 _ _) _
    by_cases e : j = k
    · subst e
      refine ⟨⟨hv.2.1, hv.2.2.2.1, hv.2.2.2.2.1⟩, ?_, ?_, ?_, ?_, ?_, fun i hi => h4 i hi⟩ <;> simp [ct_u2_get]
    · obtain ⟨g0, g1, g2, g3, g4, g5, g6⟩ := i3 j (by omega)
      have n14 : ∀ x, x < 4 → ct_u2 (ct_u2 (ct_u2 (ct_u2 (ct_u2 I 24 k (nI (v_pS B ln p k))) 14 (k * 4 + 0) (nI (B (v_pS B ln p k)))) 14 (k * 4 + 1) (nI (B (v_pS B ln p k + 1)))) 14 (k * 4 + 2) (-1)) 14 (k * 4 + 3) (-1) 14 (j * 4 + x) = I 14 (j * 4 + x) := by
        intro x hx
        rw [ct_u2_get, if_neg (by omega), ct_u2_get, if_neg (by omega), ct_u2_get, if_neg (by omega), ct_u2_get, if_neg (by omega), ct_u2_get, if_neg (by omega)]
      refine ⟨g0, (n14 0 (by decide)).trans g1, (n14 1 (by decide)).trans g2, (n14 2 (by decide)).trans g3, (n14 3 (by decide)).trans g4, ?_, fun i hi => ?_⟩
      · rw [ct_u2_get, if_neg (by omega), ct_u2_get, if_neg (by omega), ct_u2_get, if_neg (by omega), ct_u2_get, if_neg (by omega), ct_u2_get, if_neg (by omega)]; exact g5
      · rw [← g6 i hi]
        exact h3 15 (j * 16 + i) (fun z => by omega)
/-- the reading of the own structures, from their count on -/
def v_Ss (B : Nat → Nat) (ln p : Nat) : Prop := p < ln ∧ B p ≤ 32 ∧ ∀ k, k < B p → v_S B ln (v_pS B ln (p + 1) k)
theorem y_rS_ok {B : Nat → Nat} {ln : Nat} (hB : v_B B ln) (lu : Bool) {p w : Nat} (hv : v_Ss B ln p) (I : Nat → Nat → Int32) (L : Nat → Nat → Int64) (d : c_Cu) (hd : d.2.1 = 0) :
    v_R (c_rS B ln lu ((p, 0, w), I, L)).1 (v_pS B ln (p + 1) (B p)) w (v_lk lu (m_cl (m_l1 B ln (B p + c_N I 2) (v_pS B ln (p + 1))) (B p) 0) d) ∧ ((c_rS B ln lu ((p, 0, w), I, L)).1.2.1 = 0 → iv_S B ln (p + 1) (ct_u2 I 13 1 (nI (B p))) L (B p) (c_rS B ln lu ((p, 0, w), I, L))) := by
  obtain ⟨h1, h2, h3⟩ := hv
  have e : c_rS B ln lu ((p, 0, w), I, L) = c_lp (c_rs1 B ln lu) (B p) 0 ((v_pS B ln (p + 1) 0, 0, w), ct_u2 I 13 1 (nI (B p)), L) := by
    unfold c_rS; dsimp only; rw [y_tw_ok h1 (Nat.zero_le _) h2]; rfl
  have ena : c_na (ct_u2 I 13 1 (nI (B p))) = B p + c_N I 2 := by
    show c_N _ 1 + c_N _ 2 = _
    rw [c_N_set (by omega), c_N_set (by omega), if_pos rfl, if_neg (by decide)]
  rw [e, ← ena]
  exact lp_ok lu (Inv := iv_S B ln (p + 1) (ct_u2 I 13 1 (nI (B p))) L) (fun k hk I' L' d' hI hd' => y_rs1_ok hB lu (h3 k hk) I' L' d' hI hd') (B p) 0 (Nat.zero_add _) _ L d ⟨fun _ _ _ => rfl, fun _ _ => rfl, fun j hj => absurd hj (Nat.not_lt_zero _)⟩ hd
theorem m_li_bad {B : Nat → Nat} {ln : Nat} {rf : Bool} {n : Nat} {c : c_Cu} (h : ¬ c.2.1 = 0) : m_li B ln rf n c = c := by
  cases n with
  | zero => rfl
  | succ n => rw [m_li, if_neg h]
theorem z_s1_ok {B : Nat → Nat} {ln : Nat} (hB : v_B B ln) {k p w : Nat} {J : Nat → Nat → Int32} (h : v_S B ln p) : m_s1 B ln k ((p, 0, w), J) = ((m_le B ln (p + 1), 0, w), ct_u2 J 32 k (nI p)) := by
  unfold m_s1
  dsimp only
  rw [(z_c1_ok h.1 (Nat.zero_le _) h.2.1).1]
  unfold m_gv m_gc
  rw [if_pos rfl, if_pos rfl, z_ls_ok hB w h.2.2]
theorem y_rs1_bad {B : Nat → Nat} {ln : Nat} (hB : v_B B ln) {k p w w' : Nat} {I J : Nat → Nat → Int32} {L : Nat → Nat → Int64} (h : ¬ v_S B ln p) : v_si (c_rs1 B ln false k ((p, 0, w), I, L)).1 (m_s1 B ln k ((p, 0, w'), J)).1 ∧ ¬ (c_rs1 B ln false k ((p, 0, w), I, L)).1.2.1 = 0 := by
  unfold c_rs1 m_s1
  dsimp only
  by_cases z : p < ln ∧ 0 ≤ B p ∧ B p ≤ 15
  · rw [y_tw_ok z.1 z.2.1 z.2.2, (z_c1_ok z.1 z.2.1 z.2.2).1]
    dsimp only
    unfold m_gv m_gc
    rw [if_pos rfl, if_pos rfl]
    exact y_tys_bad hB _ 15 (k * 16) w w' L (fun y => h ⟨z.1, z.2.2, y⟩)
  · obtain ⟨x, h1, h2, h3, h4⟩ := y_tw_no (B := B) (w := w) (w' := w') z
    rw [h2, h3]
    dsimp only
    rw [c_tys_bad h1]
    unfold m_gv m_gc
    rw [if_neg h1, if_neg h1]
    exact ⟨⟨rfl, fun _ => rfl, fun _ => rfl⟩, h1⟩
theorem v_S.le {B : Nat → Nat} {ln : Nat} (hB : v_B B ln) {p : Nat} (h : v_S B ln p) : m_le B ln (p + 1) ≤ ln := h.2.2.le hB
def iw_S (B : Nat → Nat) (ln p : Nat) (J0 : Nat → Nat → Int32) (k : Nat) (Z : m_S) : Prop := (∀ h, ¬ h = 32 → Z.2 h = J0 h) ∧ ∀ j, j < k → Z.2 32 j = nI (v_pS B ln p j)
theorem z_pS_ok {B : Nat → Nat} {ln : Nat} (hB : v_B B ln) {p w : Nat} (hv : v_Ss B ln p) (J : Nat → Nat → Int32) :
    (m_pS B ln ((p, 0, w), J)).1 = (v_pS B ln (p + 1) (B p), 0, w) ∧ iw_S B ln (p + 1) (ct_u2 J 29 9 (nI (B p))) (B p) (m_pS B ln ((p, 0, w), J)) := by
  obtain ⟨h1, h2, h3⟩ := hv
  have e : m_pS B ln ((p, 0, w), J) = m_lp (m_s1 B ln) (B p) 0 ((v_pS B ln (p + 1) 0, 0, w), ct_u2 J 29 9 (nI (B p))) := by
    unfold m_pS m_gv m_gc; dsimp only; rw [if_pos rfl, if_pos rfl, (z_c1_ok h1 (Nat.zero_le _) h2).1, (z_c1_ok h1 (Nat.zero_le _) h2).2]; rfl
  rw [e]
  refine m_lp_ok (pos := v_pS B ln (p + 1)) (Inv := iw_S B ln (p + 1) (ct_u2 J 29 9 (nI (B p)))) (fun k hk J' hI => ?_) (B p) 0 (Nat.zero_add _) _ ⟨fun _ _ => rfl, fun j hj => absurd hj (Nat.not_lt_zero _)⟩
  rw [z_s1_ok hB (h3 k hk)]
  refine ⟨rfl, fun h hh => ?_, fun j hj => ?_⟩
  · rw [← hI.1 h hh]; funext x
    show ct_u2 J' 32 k _ h x = J' h x
    rw [ct_u2_get, if_neg (fun z => hh z.1)]
  · show ct_u2 J' 32 k _ 32 j = _
    by_cases y : j = k
    · rw [ct_u2_get, if_pos ⟨rfl, y⟩, y]
    · rw [ct_u2_get, if_neg (fun z => y z.2)]; exact hI.2 j (by omega)
theorem y_rS_bad {B : Nat → Nat} {ln : Nat} (hB : v_B B ln) {p w w' : Nat} (hv : ¬ v_Ss B ln p) (I : Nat → Nat → Int32) (L : Nat → Nat → Int64) (J : Nat → Nat → Int32) :
    v_si (c_rS B ln false ((p, 0, w), I, L)).1 (m_pS B ln ((p, 0, w'), J)).1 ∧ ¬ (c_rS B ln false ((p, 0, w), I, L)).1.2.1 = 0 := by
  unfold c_rS m_pS m_gv m_gc
  dsimp only
  rw [if_pos rfl, if_pos rfl]
  by_cases z : p < ln ∧ 0 ≤ B p ∧ B p ≤ 32
  · rw [y_tw_ok z.1 z.2.1 z.2.2, (z_c1_ok z.1 z.2.1 z.2.2).1, (z_c1_ok z.1 z.2.1 z.2.2).2]
    dsimp only
    refine lp_bad (pos := v_pS B ln (p + 1)) (InvC := fun _ _ => True) (InvM := fun _ _ => True) (V := fun k => v_S B ln (v_pS B ln (p + 1) k)) ?_ ?_ ?_ (B p) 0 (Nat.zero_add _) _ L _ trivial trivial (fun j hj => absurd hj (Nat.not_lt_zero _)) (fun y => hv ⟨z.1, z.2.2, y⟩)
    · intro k hk hV I' L' _
      refine ⟨?_, trivial⟩
      rw [y_rs1_cu hV]
      obtain ⟨h1, -⟩ := y_tys_ok hB false (c_na I') 15 (k * 16) w L' (0, 0, 0) hV.2.2 rfl
      exact h1.2.2 rfl
    · intro k hk hV J' _
      exact ⟨by rw [z_s1_ok hB hV]; rfl, trivial⟩
    · intro k hk hV _ I' L' J' _ _
      exact y_rs1_bad hB hV
  · obtain ⟨x, h1, h2, h3, h4⟩ := y_tw_no (B := B) (w := w) (w' := w') z
    rw [h2, h3, h4]
    exact ⟨⟨rfl, fun _ => rfl, fun _ => rfl⟩, h1⟩
theorem v_pS_le {B : Nat → Nat} {ln p : Nat} (hB : v_B B ln) (hp : p ≤ ln) : ∀ n, (∀ k, k < n → v_S B ln (v_pS B ln p k)) → v_pS B ln p n ≤ ln
  | 0, _ => hp
  | n + 1, h => (h n (by omega)).le hB
