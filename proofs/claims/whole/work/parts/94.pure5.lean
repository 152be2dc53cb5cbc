/-! PURE: flags and two lists; foreign functions; element types -/
def f_G (B : Nat → Nat) (ln p s : Nat) (I : Nat → Nat → Int32) (L : Nat → Nat → Int64) : Prop := (B p ≤ 7 ∧ B (p + 1) ≤ 8 ∧ B (m_le B ln (p + 1)) ≤ 8) ∧ I 16 (s * 7 + 0) = nI (B p) ∧ I 16 (s * 7 + 1) = nI (B (p + 1)) ∧ I 16 (s * 7 + 2) = nI (B (m_le B ln (p + 1))) ∧ (∀ j, j < B (p + 1) → L 17 (s * 48 + 0 * 8 + j) = lN (v_v B ln (m_tn B ln j (p + 1 + 1)))) ∧ (∀ j, j < B (m_le B ln (p + 1)) → L 17 (s * 48 + 1 * 8 + j) = lN (v_v B ln (m_tn B ln j (m_le B ln (p + 1) + 1))))
theorem y_rg1_ok {B : Nat → Nat} {ln : Nat} (hB : v_B B ln) (lu : Bool) {p w s : Nat} (h0 : p < ln ∧ 0 ≤ B p ∧ B p ≤ 7) (hL1 : v_L B ln 0 8 true (p + 1)) (hL2 : v_L B ln 0 8 true (m_le B ln (p + 1))) (I : Nat → Nat → Int32) (L : Nat → Nat → Int64) (d : c_Cu) (hd : d.2.1 = 0) :
    v_R (c_rg1 B ln lu s ((p, 0, w), I, L)).1 (m_le B ln (m_le B ln (p + 1))) w (v_lk lu (fun d => m_llc B ln (c_na I) (m_le B ln (p + 1)) (m_llc B ln (c_na I) (p + 1) d)) d) ∧ ((c_rg1 B ln lu s ((p, 0, w), I, L)).1.2.1 = 0 → (c_rg1 B ln lu s ((p, 0, w), I, L)).2.1 = ct_u2 (ct_u2 (ct_u2 I 16 (s * 7 + 0) (nI (B p))) 16 (s * 7 + 1) (nI (B (p + 1)))) 16 (s * 7 + 2) (nI (B (m_le B ln (p + 1)))) ∧ (∀ h k, ¬ (h = 17 ∧ s * 48 ≤ k ∧ k < s * 48 + 16) → (c_rg1 B ln lu s ((p, 0, w), I, L)).2.2 h k = L h k) ∧ f_G B ln p s (c_rg1 B ln lu s ((p, 0, w), I, L)).2.1 (c_rg1 B ln lu s ((p, 0, w), I, L)).2.2) := by
  have hc1 : B (p + 1) ≤ 8 := hL1.2.2.1
  have hc2 : B (m_le B ln (p + 1)) ≤ 8 := hL2.2.2.1
  have e : c_rg1 B ln lu s ((p, 0, w), I, L) = ((c_tys B ln lu (c_na I) true 17 (s * 48 + 1 * 8) 0 8 (c_tys B ln lu (c_na I) true 17 (s * 48 + 0 * 8) 0 8 (p + 1, 0, w) L).1 (c_tys B ln lu (c_na I) true 17 (s * 48 + 0 * 8) 0 8 (p + 1, 0, w) L).2).1, ct_u2 (ct_u2 (ct_u2 I 16 (s * 7 + 0) (nI (B p))) 16 (s * 7 + 1) (nI (B (p + 1)))) 16 (s * 7 + 2) (nI (c_tw B ln 1 0 8 (c_tys B ln lu (c_na I) true 17 (s * 48 + 0 * 8) 0 8 (p + 1, 0, w) L).1).1), (c_tys B ln lu (c_na I) true 17 (s * 48 + 1 * 8) 0 8 (c_tys B ln lu (c_na I) true 17 (s * 48 + 0 * 8) 0 8 (p + 1, 0, w) L).1 (c_tys B ln lu (c_na I) true 17 (s * 48 + 0 * 8) 0 8 (p + 1, 0, w) L).2).2) := by
    unfold c_rg1; dsimp only
    rw [y_tw_ok h0.1 h0.2.1 h0.2.2]; dsimp only
    rw [y_tw_ok hL1.1 hL1.2.1 hL1.2.2.1]
  rw [e]
  obtain ⟨a1, a2⟩ := y_tys_ok hB lu (c_na I) 17 (s * 48 + 0 * 8) w L d hL1 hd
  generalize c_tys B ln lu (c_na I) true 17 (s * 48 + 0 * 8) 0 8 (p + 1, 0, w) L = T1 at a1 a2 ⊢
  have ed : v_lk lu (fun d => m_llc B ln (c_na I) (m_le B ln (p + 1)) (m_llc B ln (c_na I) (p + 1) d)) d = v_lk lu (m_llc B ln (c_na I) (m_le B ln (p + 1))) (v_lk lu (m_llc B ln (c_na I) (p + 1)) d) := by
    unfold v_lk
    by_cases q : lu = true
    · rw [if_pos q, if_pos q, if_pos q]
    · rw [if_neg q, if_neg q, if_neg q]
  rw [ed]
  generalize v_lk lu (m_llc B ln (c_na I) (p + 1)) d = d1 at a1 ⊢
  by_cases z : d1.2.1 = 0
  · have t1 := a1.2.2 z
    obtain ⟨a3, a4⟩ := a2 (by rw [t1])
    rw [t1]
    obtain ⟨b1, b2⟩ := y_tys_ok hB lu (c_na I) 17 (s * 48 + 1 * 8) w T1.2 d1 hL2 z
    refine ⟨b1, fun q => ?_⟩
    obtain ⟨b3, b4⟩ := b2 q
    have e8 : (c_tw B ln 1 0 8 (m_le B ln (p + 1), 0, w)).1 = B (m_le B ln (p + 1)) := by rw [y_tw_ok hL2.1 hL2.2.1 hL2.2.2.1]
    rw [e8]
    refine ⟨rfl, fun h k hk => ?_, ⟨h0.2.2, hc1, hc2⟩, ?_, ?_, ?_, fun j hj => ?_, fun j hj => ?_⟩
    · dsimp only
      rw [b3 h k (fun y => hk ⟨y.1, by omega, by omega⟩), a3 h k (fun y => hk ⟨y.1, by omega, by omega⟩)]
    · dsimp only; rw [ct_u2_get, if_neg (by omega), ct_u2_get, if_neg (by omega), ct_u2_get, if_pos ⟨rfl, rfl⟩]
    · dsimp only; rw [ct_u2_get, if_neg (by omega), ct_u2_get, if_pos ⟨rfl, rfl⟩]
    · dsimp only; rw [ct_u2_get, if_pos ⟨rfl, rfl⟩]
    · dsimp only
      rw [b3 17 (s * 48 + 0 * 8 + j) (fun y => by omega)]
      exact a4 j hj
    · exact b4 j hj
  · have hb : ¬ T1.1.2.1 = 0 := by rw [a1.1]; exact z
    rw [c_tys_bad hb]
    have e3 : v_lk lu (m_llc B ln (c_na I) (m_le B ln (p + 1))) d1 = d1 := by
      unfold v_lk; split
      · exact m_llc_bad z
      · rfl
    rw [e3]
    exact ⟨a1.bad z, fun q => absurd q hb⟩
/-! foreign functions -/
def v_H (B : Nat → Nat) (ln p : Nat) : Prop := ((p + 3 ≤ ln ∧ (p + 3 < ln ∧ 0 ≤ B (p + 3) ∧ B (p + 3) ≤ 7)) ∧ v_L B ln 0 8 true (p + 3 + 1)) ∧ v_L B ln 0 8 true (m_le B ln (p + 3 + 1))
def v_pC (B : Nat → Nat) (ln p : Nat) : Nat → Nat
  | 0 => p
  | k + 1 => m_le B ln (m_le B ln (v_pC B ln p k + 3 + 1))
def v_Hs (B : Nat → Nat) (ln p : Nat) : Prop := p < ln ∧ B p ≤ 32 ∧ ∀ k, k < B p → v_H B ln (v_pC B ln (p + 1) k)
def f_H (B : Nat → Nat) (ln p s : Nat) (I : Nat → Nat → Int32) (L : Nat → Nat → Int64) : Prop := f_G B ln (p + 3) s I L ∧ I 16 (s * 7 + 5) = nI (c_num B p 2) ∧ I 16 (s * 7 + 6) = nI (B (p + 2)) ∧ I 16 (s * 7 + 3) = 0 ∧ I 16 (s * 7 + 4) = 0
def iv_H (B : Nat → Nat) (ln p : Nat) (I0 : Nat → Nat → Int32) (L0 : Nat → Nat → Int64) (k : Nat) (S : c_S) : Prop := (∀ h, ¬ h = 16 → S.2.1 h = I0 h) ∧ (∀ h, ¬ h = 17 → S.2.2 h = L0 h) ∧ ∀ j, j < k → f_H B ln (v_pC B ln p j) (64 + j) S.2.1 S.2.2
theorem f_G_same {B : Nat → Nat} {ln p s : Nat} {I I' : Nat → Nat → Int32} {L L' : Nat → Nat → Int64} (h : f_G B ln p s I L) (hI : ∀ x, x < 3 → I' 16 (s * 7 + x) = I 16 (s * 7 + x)) (hL : ∀ x, x < 16 → L' 17 (s * 48 + x) = L 17 (s * 48 + x)) : f_G B ln p s I' L' := by
  obtain ⟨g0, g1, g2, g3, g4, g5⟩ := h
  refine ⟨g0, (hI 0 (by decide)).trans g1, (hI 1 (by decide)).trans g2, (hI 2 (by decide)).trans g3, fun j hj => ?_, fun j hj => ?_⟩
  · have := hL (0 * 8 + j) (by omega)
    rw [← Nat.add_assoc] at this
    exact this.trans (g4 j hj)
  · have := hL (1 * 8 + j) (by omega)
    rw [← Nat.add_assoc] at this
    exact this.trans (g5 j hj)
theorem y_rh1_q {B : Nat → Nat} {ln : Nat} (hB : v_B B ln) (lu : Bool) {q w s : Nat} (k : Nat) (hs : s = 64 + k) (hv : v_H B ln q) (I : Nat → Nat → Int32) (L : Nat → Nat → Int64) (d : c_Cu) (hd : d.2.1 = 0) :
    v_R (c_rh1 B ln lu k ((q, 0, w), I, L)).1 (m_le B ln (m_le B ln (q + 3 + 1))) w (v_lk lu (fun d => m_llc B ln (c_na I) (m_le B ln (q + 3 + 1)) (m_llc B ln (c_na I) (q + 3 + 1) d)) d) ∧ ((c_rh1 B ln lu k ((q, 0, w), I, L)).1.2.1 = 0 → (∀ h x, ¬ (h = 16 ∧ s * 7 ≤ x ∧ x < s * 7 + 7) → (c_rh1 B ln lu k ((q, 0, w), I, L)).2.1 h x = I h x) ∧ (∀ h x, ¬ (h = 17 ∧ s * 48 ≤ x ∧ x < s * 48 + 16) → (c_rh1 B ln lu k ((q, 0, w), I, L)).2.2 h x = L h x) ∧ f_H B ln q s (c_rh1 B ln lu k ((q, 0, w), I, L)).2.1 (c_rh1 B ln lu k ((q, 0, w), I, L)).2.2) := by
  subst hs
  have e0 : c_rh0 B ln k ((q, 0, w), I, L) = ((q + 3, 0, w), ct_u2 (ct_u2 I 16 ((64 + k) * 7 + 5) (nI (c_num B q 2))) 16 ((64 + k) * 7 + 6) (nI (B (q + 2))), L) := by
    unfold c_rh0; dsimp only
    rw [y_tk (show q + 2 ≤ ln by have := hv.1.1.1; omega)]; dsimp only
    rw [y_tk1 (show q + 2 < ln from hv.1.1.1)]
  generalize hJ : ct_u2 (ct_u2 I 16 ((64 + k) * 7 + 5) (nI (c_num B q 2))) 16 ((64 + k) * 7 + 6) (nI (B (q + 2))) = J at e0
  have enJ : c_na J = c_na I := by rw [← hJ]; exact c_na_eq (by funext x; rw [ct_u2_get, if_neg (by omega), ct_u2_get, if_neg (by omega)])
  obtain ⟨h1, h2⟩ := y_rg1_ok hB lu (s := 64 + k) (w := w) hv.1.1.2 hv.1.2 hv.2 J L d hd
  rw [enJ] at h1
  have e1 : c_rh1 B ln lu k ((q, 0, w), I, L) = ((c_rg1 B ln lu (64 + k) ((q + 3, 0, w), J, L)).1, ct_u2 (ct_u2 (c_rg1 B ln lu (64 + k) ((q + 3, 0, w), J, L)).2.1 16 ((64 + k) * 7 + 3) 0) 16 ((64 + k) * 7 + 4) 0, (c_rg1 B ln lu (64 + k) ((q + 3, 0, w), J, L)).2.2) := by
    unfold c_rh1; rw [e0]
  rw [e1]
  generalize c_rg1 B ln lu (64 + k) ((q + 3, 0, w), J, L) = S at h1 h2 ⊢
  refine ⟨h1, fun z => ?_⟩
  obtain ⟨h3, h4, h5⟩ := h2 z
  dsimp only
  have J16 : ∀ h x, ¬ (h = 16 ∧ (64 + k) * 7 ≤ x ∧ x < (64 + k) * 7 + 7) → ct_u2 (ct_u2 S.2.1 16 ((64 + k) * 7 + 3) 0) 16 ((64 + k) * 7 + 4) 0 h x = I h x := by
    intro h x hx
    rw [ct_u2_get, if_neg (by omega), ct_u2_get, if_neg (by omega), h3, ct_u2_get, if_neg (by omega), ct_u2_get, if_neg (by omega), ct_u2_get, if_neg (by omega), ← hJ, ct_u2_get, if_neg (by omega), ct_u2_get, if_neg (by omega)]
  refine ⟨J16, h4, f_G_same h5 (fun x hx => ?_) (fun x hx => rfl), ?_, ?_, ?_, ?_⟩
  · rw [ct_u2_get, if_neg (by omega), ct_u2_get, if_neg (by omega)]
  · rw [ct_u2_get, if_neg (by omega), ct_u2_get, if_neg (by omega), h3, ct_u2_get, if_neg (by omega), ct_u2_get, if_neg (by omega), ct_u2_get, if_neg (by omega), ← hJ, ct_u2_get, if_neg (by omega), ct_u2_get, if_pos ⟨rfl, rfl⟩]
  · rw [ct_u2_get, if_neg (by omega), ct_u2_get, if_neg (by omega), h3, ct_u2_get, if_neg (by omega), ct_u2_get, if_neg (by omega), ct_u2_get, if_neg (by omega), ← hJ, ct_u2_get, if_pos ⟨rfl, rfl⟩]
  · rw [ct_u2_get, if_neg (by omega), ct_u2_get, if_pos ⟨rfl, rfl⟩]
  · rw [ct_u2_get, if_pos ⟨rfl, rfl⟩]
theorem y_rh1_ok {B : Nat → Nat} {ln : Nat} (hB : v_B B ln) (lu : Bool) {p w k : Nat} {I0 : Nat → Nat → Int32} {L0 : Nat → Nat → Int64} (hv : v_H B ln (v_pC B ln p k)) (I : Nat → Nat → Int32) (L : Nat → Nat → Int64) (d : c_Cu) (hI : iv_H B ln p I0 L0 k ((v_pC B ln p k, 0, w), I, L)) (hd : d.2.1 = 0) :
    v_R (c_rh1 B ln lu k ((v_pC B ln p k, 0, w), I, L)).1 (v_pC B ln p (k + 1)) w (v_lk lu (m_l2 B ln (c_na I0) (v_pC B ln p) k) d) ∧ ((c_rh1 B ln lu k ((v_pC B ln p k, 0, w), I, L)).1.2.1 = 0 → iv_H B ln p I0 L0 (k + 1) (c_rh1 B ln lu k ((v_pC B ln p k, 0, w), I, L))) := by
  obtain ⟨i1, i2, i3⟩ := hI
  dsimp only at i1 i2 i3
  have ena : c_na I = c_na I0 := c_na_eq (i1 13 (by decide))
  obtain ⟨h1, h2⟩ := y_rh1_q hB lu (w := w) (s := 64 + k) k rfl hv I L d hd
  have el : m_l2 B ln (c_na I0) (v_pC B ln p) k = fun d => m_llc B ln (c_na I) (m_le B ln (v_pC B ln p k + 3 + 1)) (m_llc B ln (c_na I) (v_pC B ln p k + 3 + 1) d) := by rw [ena]; rfl
  rw [el, v_pC]
  generalize c_rh1 B ln lu k ((v_pC B ln p k, 0, w), I, L) = S at h1 h2 ⊢
  refine ⟨h1, fun z => ?_⟩
  obtain ⟨h3, h4, h5⟩ := h2 z
  refine ⟨fun h hh => ?_, fun h hh => ?_, fun j hj => ?_⟩
  · rw [← i1 h hh]; funext x; exact h3 h x (fun y => hh y.1)
  · rw [← i2 h hh]; funext x; exact h4 h x (fun y => hh y.1)
  · by_cases y : j = k
    · rw [y]; exact h5
    · obtain ⟨g1, g2, g3, g4, g5⟩ := i3 j (by omega)
      have J16 : ∀ x, x < 7 → S.2.1 16 ((64 + j) * 7 + x) = I 16 ((64 + j) * 7 + x) := fun x hx => h3 16 _ (by omega)
      exact ⟨f_G_same g1 (fun x hx => J16 x (by omega)) (fun x hx => h4 17 _ (by omega)), (J16 5 (by decide)).trans g2, (J16 6 (by decide)).trans g3, (J16 3 (by decide)).trans g4, (J16 4 (by decide)).trans g5⟩
theorem y_rH_ok {B : Nat → Nat} {ln : Nat} (hB : v_B B ln) (lu : Bool) {p w : Nat} (hv : v_Hs B ln p) (I : Nat → Nat → Int32) (L : Nat → Nat → Int64) (d : c_Cu) (hd : d.2.1 = 0) :
    v_R (c_rH B ln lu ((p, 0, w), I, L)).1 (v_pC B ln (p + 1) (B p)) w (v_lk lu (m_cl (m_l2 B ln (c_na I) (v_pC B ln (p + 1))) (B p) 0) d) ∧ ((c_rH B ln lu ((p, 0, w), I, L)).1.2.1 = 0 → iv_H B ln (p + 1) (ct_u2 I 13 3 (nI (B p))) L (B p) (c_rH B ln lu ((p, 0, w), I, L))) := by
  obtain ⟨h1, h2, h3⟩ := hv
  have e : c_rH B ln lu ((p, 0, w), I, L) = c_lp (c_rh1 B ln lu) (B p) 0 ((v_pC B ln (p + 1) 0, 0, w), ct_u2 I 13 3 (nI (B p)), L) := by
    unfold c_rH; dsimp only; rw [y_tw_ok h1 (Nat.zero_le _) h2]; rfl
  have ena : c_na (ct_u2 I 13 3 (nI (B p))) = c_na I := by
    show c_N _ 1 + c_N _ 2 = c_N I 1 + c_N I 2
    rw [c_N_set (by omega), c_N_set (by omega), if_neg (by decide), if_neg (by decide)]
  rw [e, ← ena]
  exact lp_ok lu (Inv := iv_H B ln (p + 1) (ct_u2 I 13 3 (nI (B p))) L) (fun k hk I' L' d' hI hd' => y_rh1_ok hB lu (h3 k hk) I' L' d' hI hd') (B p) 0 (Nat.zero_add _) _ L d ⟨fun _ _ => rfl, fun _ _ => rfl, fun j hj => absurd hj (Nat.not_lt_zero _)⟩ hd
theorem v_G_h {B : Nat → Nat} {ln : Nat} (hB : v_B B ln) : v_G ln (fun c => y_ls B ln 0 true 0 8 (y_ls B ln 0 true 0 8 (c_tw B ln 1 0 7 (c_tk B ln 1 (c_tk B ln 2 c).2).2).2)) (fun c => m_gl B ln 8 (m_gl B ln 8 (m_gc B ln 0 7 (m_ov ln 3 c)))) (v_H B ln) (fun p => m_le B ln (m_le B ln (p + 3 + 1))) :=
  v_G.comp (v_G.comp (v_G.comp (V := fun p => p + 3 ≤ ln) (e := fun p => p + 3) (W := fun p => p < ln ∧ 0 ≤ B p ∧ B p ≤ 7) (f := fun p => p + 1) v_G_3 v_G_tw v_D_tw) (v_G_ls hB 0 8) v_D_ls) (v_G_ls hB 0 8) v_D_ls
theorem c_ty_na {B : Nat → Nat} {ln na na2 : Nat} {rf : Bool} (c : c_Cu) : c_ty B ln false na rf c = c_ty B ln false na2 rf c := by
  unfold c_ty c_tt; rw [if_neg (fnt _), if_neg (fnt _)]
theorem c_tl_na {B : Nat → Nat} {ln na na2 : Nat} {rf : Bool} {r fr : Nat} : ∀ (n i : Nat) (c : c_Cu) (L : Nat → Nat → Int64), c_tl B ln false na rf r fr n i c L = c_tl B ln false na2 rf r fr n i c L
  | 0, _, _, _ => rfl
  | n + 1, i, c, L => by
    unfold c_tl
    rw [c_ty_na (na2 := na2)]
    split
    · exact c_tl_na n (i + 1) _ _
    · rfl
theorem y_ls_na {B : Nat → Nat} {ln : Nat} (na na2 : Nat) {rf : Bool} {lo hi : Nat} (c : c_Cu) : y_ls B ln na rf lo hi c = y_ls B ln na2 rf lo hi c := by
  unfold y_ls; exact congrArg Prod.fst (c_tl_na _ _ _ _)
theorem y_rg1_cu {B : Nat → Nat} {ln s : Nat} (S : c_S) : (c_rg1 B ln false s S).1 = y_ls B ln 0 true 0 8 (y_ls B ln 0 true 0 8 (c_tw B ln 1 0 7 S.1).2) := by
  unfold c_rg1; dsimp only
  rw [y_ls_eq, y_ls_eq, y_ls_na (c_na S.2.1) 0, y_ls_na (c_na S.2.1) 0]
theorem y_rh1_cu {B : Nat → Nat} {ln k : Nat} (S : c_S) : (c_rh1 B ln false k S).1 = y_ls B ln 0 true 0 8 (y_ls B ln 0 true 0 8 (c_tw B ln 1 0 7 (c_tk B ln 1 (c_tk B ln 2 S.1).2).2).2) := by
  unfold c_rh1; dsimp only; rw [y_rg1_cu]; rfl
theorem y_rH_bad {B : Nat → Nat} {ln : Nat} (hB : v_B B ln) {p w w' : Nat} (hv : ¬ v_Hs B ln p) (I : Nat → Nat → Int32) (L : Nat → Nat → Int64) (J : Nat → Nat → Int32) :
    v_si (c_rH B ln false ((p, 0, w), I, L)).1 (m_pC B ln ((p, 0, w'), J)).1 ∧ ¬ (c_rH B ln false ((p, 0, w), I, L)).1.2.1 = 0 := by
  unfold c_rH m_pC
  rw [show m_gv B ln 0 32 (p, 0, w') = m_cv B ln 0 32 (p, 0, w') from by unfold m_gv; rw [if_pos rfl], show m_gc B ln 0 32 (p, 0, w') = m_c1 B ln 0 32 (p, 0, w') from by unfold m_gc; rw [if_pos rfl]]
  dsimp only
  by_cases z : p < ln ∧ 0 ≤ B p ∧ B p ≤ 32
  · rw [y_tw_ok z.1 z.2.1 z.2.2, (z_c1_ok z.1 z.2.1 z.2.2).1, (z_c1_ok z.1 z.2.1 z.2.2).2]
    dsimp only
    refine v_G_lp (v_G_h hB) (pos := v_pC B ln (p + 1)) (fun _ S => y_rh1_cu S) (fun _ _ => rfl) (fun k => rfl) (B p) 0 _ L _ z.1 (fun y => hv ⟨z.1, z.2.2, fun k hk => ?_⟩)
    have := y k hk
    rwa [Nat.zero_add] at this
  · obtain ⟨x, h1, h2, h3, h4⟩ := y_tw_no (B := B) (w := w) (w' := w') z
    rw [h2, h3, h4]
    exact ⟨⟨rfl, fun _ => rfl, fun _ => rfl⟩, h1⟩
theorem v_pC_le {B : Nat → Nat} {ln p : Nat} (hB : v_B B ln) (hp : p ≤ ln) : ∀ n, (∀ k, k < n → v_H B ln (v_pC B ln p k)) → v_pC B ln p n ≤ ln
  | 0, _ => hp
  | n + 1, h => (h n (by omega)).2.le hB
def iw_C (B : Nat → Nat) (ln p : Nat) (J0 : Nat → Nat → Int32) (k : Nat) (Z : m_S) : Prop := (∀ h, ¬ h = 33 → Z.2 h = J0 h) ∧ ∀ j, j < k → Z.2 33 j = nI (v_pC B ln p j)
theorem z_pC_ok {B : Nat → Nat} {ln : Nat} (hB : v_B B ln) {p w : Nat} (hv : v_Hs B ln p) (J : Nat → Nat → Int32) :
    (m_pC B ln ((p, 0, w), J)).1 = (v_pC B ln (p + 1) (B p), 0, w) ∧ iw_C B ln (p + 1) (ct_u2 J 29 11 (nI (B p))) (B p) (m_pC B ln ((p, 0, w), J)) := by
  obtain ⟨h1, h2, h3⟩ := hv
  have e : m_pC B ln ((p, 0, w), J) = m_lp (m_c1o B ln) (B p) 0 ((v_pC B ln (p + 1) 0, 0, w), ct_u2 J 29 11 (nI (B p))) := by
    unfold m_pC m_gv m_gc; dsimp only; rw [if_pos rfl, if_pos rfl, (z_c1_ok h1 (Nat.zero_le _) h2).1, (z_c1_ok h1 (Nat.zero_le _) h2).2]; rfl
  rw [e]
  refine m_lp_ok (pos := v_pC B ln (p + 1)) (Inv := iw_C B ln (p + 1) (ct_u2 J 29 11 (nI (B p)))) (fun k hk J' hI => ?_) (B p) 0 (Nat.zero_add _) _ ⟨fun _ _ => rfl, fun j hj => absurd hj (Nat.not_lt_zero _)⟩
  have a := ((v_G_h hB).1 (v_pC B ln (p + 1) k) w (by have := (h3 k hk).1.1.1; omega) (h3 k hk)).2.1
  refine ⟨a, fun h hh => ?_, fun j hj => ?_⟩
  · rw [← hI.1 h hh]; funext x
    show ct_u2 J' 33 _ _ h x = J' h x
    rw [ct_u2_get, if_neg (fun z => hh z.1)]
  · show ct_u2 J' 33 k _ 33 j = _
    by_cases y : j = k
    · rw [ct_u2_get, if_pos ⟨rfl, y⟩, y]
    · rw [ct_u2_get, if_neg (by omega)]; exact hI.2 j (by omega)
/-! element types -/
theorem m_cl_l3 {B : Nat → Nat} {ln na q : Nat} : ∀ (n k : Nat) (d : c_Cu), m_cl (m_l3 B ln na (fun k => m_tn B ln k q)) n k d = m_lln B ln na n (m_tn B ln k q) d
  | 0, _, _ => rfl
  | n + 1, k, d => by
    unfold m_cl
    by_cases z : d.2.1 = 0
    · rw [if_pos z, m_cl_l3 n (k + 1), m_lln, m_tn_snoc]; rfl
    · rw [if_neg z, m_lln_bad _ _ z]
theorem y_rE_ok {B : Nat → Nat} {ln : Nat} (hB : v_B B ln) (lu : Bool) {p w : Nat} (hv : v_L B ln 0 32 false p) (I : Nat → Nat → Int32) (L : Nat → Nat → Int64) (d : c_Cu) (hd : d.2.1 = 0) :
    v_R (c_rE B ln lu ((p, 0, w), I, L)).1 (m_le B ln p) w (v_lk lu (m_cl (m_l3 B ln (c_na I) (fun k => m_tn B ln k (p + 1))) (B p) 0) d) ∧ (c_rE B ln lu ((p, 0, w), I, L)).2.1 = ct_u2 I 13 4 (nI (B p)) ∧ ((c_rE B ln lu ((p, 0, w), I, L)).1.2.1 = 0 → (∀ h, ¬ h = 18 → (c_rE B ln lu ((p, 0, w), I, L)).2.2 h = L h) ∧ ∀ j, j < B p → (c_rE B ln lu ((p, 0, w), I, L)).2.2 18 j = lN (v_v B ln (m_tn B ln j (p + 1)))) := by
  obtain ⟨h1, h2⟩ := y_tys_ok hB lu (c_na I) 18 0 w L d hv hd
  have e : (fun d => m_cl (m_l3 B ln (c_na I) (fun k => m_tn B ln k (p + 1))) (B p) 0 d) = m_llc B ln (c_na I) p := by
    funext d; rw [m_cl_l3]; rfl
  have e2 : v_lk lu (m_cl (m_l3 B ln (c_na I) (fun k => m_tn B ln k (p + 1))) (B p) 0) d = v_lk lu (m_llc B ln (c_na I) p) d := by rw [← e]
  rw [e2]
  refine ⟨h1, ?_, fun q => ?_⟩
  · unfold c_rE; dsimp only; rw [y_tw_ok hv.1 hv.2.1 hv.2.2.1]
  · obtain ⟨h3, h4⟩ := h2 q
    refine ⟨fun h hh => ?_, fun j hj => ?_⟩
    · funext k; exact h3 h k (fun z => hh z.1)
    · have := h4 j hj
      rw [Nat.zero_add] at this
      exact this
theorem m_e1o_cu {B : Nat → Nat} {ln : Nat} : ∀ (n k : Nat) (Z : m_S), (m_lp (m_e1o B ln) n k Z).1 = m_li B ln false n Z.1
  | 0, _, _ => rfl
  | n + 1, k, Z => by
    unfold m_lp m_li
    by_cases z : Z.1.2.1 = 0
    · rw [if_pos z, if_pos z, m_e1o_cu n (k + 1)]; rfl
    · rw [if_neg z, if_neg z]
theorem y_rE_bad {B : Nat → Nat} {ln : Nat} (hB : v_B B ln) {p w w' : Nat} (hv : ¬ v_L B ln 0 32 false p) (I : Nat → Nat → Int32) (L : Nat → Nat → Int64) (J : Nat → Nat → Int32) :
    v_si (c_rE B ln false ((p, 0, w), I, L)).1 (m_pE B ln ((p, 0, w'), J)).1 ∧ ¬ (c_rE B ln false ((p, 0, w), I, L)).1.2.1 = 0 := by
  unfold m_pE
  rw [m_e1o_cu]
  rw [show m_gv B ln 0 32 ((p, 0, w'), J).1 = m_cv B ln 0 32 (p, 0, w') from by unfold m_gv; rw [if_pos rfl], show m_gc B ln 0 32 ((p, 0, w'), J).1 = m_c1 B ln 0 32 (p, 0, w') from by unfold m_gc; rw [if_pos rfl]]
  exact y_tys_bad hB (c_na I) 18 0 w w' L hv
def iw_E (B : Nat → Nat) (ln p : Nat) (J0 : Nat → Nat → Int32) (k : Nat) (Z : m_S) : Prop := (∀ h, ¬ h = 34 → Z.2 h = J0 h) ∧ ∀ j, j < k → Z.2 34 j = nI (m_tn B ln j p)
theorem v_Ts_at {B : Nat → Nat} {ln : Nat} {rf : Bool} : ∀ (n p j : Nat), v_Ts B ln rf n p → j < n → v_T B ln rf (m_tn B ln j p)
  | 0, _, _, _, hj => absurd hj (Nat.not_lt_zero _)
  | n + 1, p, 0, h, _ => h.1
  | n + 1, p, j + 1, h, hj => v_Ts_at n (m_te B ln p) j h.2 (by omega)
theorem z_pE_ok {B : Nat → Nat} {ln : Nat} (hB : v_B B ln) {p w : Nat} (hv : v_L B ln 0 32 false p) (J : Nat → Nat → Int32) :
    (m_pE B ln ((p, 0, w), J)).1 = (m_le B ln p, 0, w) ∧ iw_E B ln (p + 1) (ct_u2 J 29 12 (nI (B p))) (B p) (m_pE B ln ((p, 0, w), J)) := by
  obtain ⟨h1, h2, h2b, h3⟩ := hv
  have e : m_pE B ln ((p, 0, w), J) = m_lp (m_e1o B ln) (B p) 0 ((m_tn B ln 0 (p + 1), 0, w), ct_u2 J 29 12 (nI (B p))) := by
    unfold m_pE m_gv m_gc; dsimp only; rw [if_pos rfl, if_pos rfl, (z_c1_ok h1 h2 h2b).1, (z_c1_ok h1 h2 h2b).2]; rfl
  rw [e]
  refine m_lp_ok (pos := fun k => m_tn B ln k (p + 1)) (Inv := iw_E B ln (p + 1) (ct_u2 J 29 12 (nI (B p)))) (fun k hk J' hI => ?_) (B p) 0 (Nat.zero_add _) _ ⟨fun _ _ => rfl, fun j hj => absurd hj (Nat.not_lt_zero _)⟩
  refine ⟨?_, fun h hh => ?_, fun j hj => ?_⟩
  · show m_ty B ln false (m_tn B ln k (p + 1), 0, w) = (m_tn B ln (k + 1) (p + 1), 0, w)
    rw [z_ty_ok hB w (v_Ts_at _ _ k h3 hk), m_tn_snoc]
  · rw [← hI.1 h hh]; funext x
    show ct_u2 J' 34 _ _ h x = J' h x
    rw [ct_u2_get, if_neg (fun z => hh z.1)]
  · show ct_u2 J' 34 k _ 34 j = _
    by_cases y : j = k
    · rw [ct_u2_get, if_pos ⟨rfl, y⟩, y]
    · rw [ct_u2_get, if_neg (by omega)]; exact hI.2 j (by omega)
