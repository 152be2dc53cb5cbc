/-! PURE: rows of types, lists; loops -/
def v_Ts (B : Nat → Nat) (ln : Nat) (rf : Bool) : Nat → Nat → Prop
  | 0, _ => True
  | n + 1, p => v_T B ln rf p ∧ v_Ts B ln rf n (m_te B ln p)
def v_L (B : Nat → Nat) (ln lo hi : Nat) (rf : Bool) (p : Nat) : Prop := p < ln ∧ lo ≤ B p ∧ B p ≤ hi ∧ v_Ts B ln rf (B p) (p + 1)
/-- class and look: the same fault, or the class at e -/
def v_R (c : c_Cu) (e w : Nat) (d : c_Cu) : Prop := c.2.1 = d.2.1 ∧ (¬ d.2.1 = 0 → c.2.2 = d.2.2) ∧ (d.2.1 = 0 → c = (e, 0, w))
def v_lk (lu : Bool) (f : c_Cu → c_Cu) (d : c_Cu) : c_Cu := if lu = true then f d else d
theorem c_fl_bad {r s : Nat} {c : c_Cu} (h : ¬ c.2.1 = 0) : c_fl r s c = c := by unfold c_fl; rw [if_neg h]
theorem c_tk_bad {B : Nat → Nat} {ln sz : Nat} {c : c_Cu} (h : ¬ c.2.1 = 0) : c_tk B ln sz c = (0, c) := by unfold c_tk; rw [if_neg h]
theorem c_tw_bad {B : Nat → Nat} {ln sz lo hi : Nat} {c : c_Cu} (h : ¬ c.2.1 = 0) : c_tw B ln sz lo hi c = (0, c) := by
  unfold c_tw; rw [c_tk_bad h]; dsimp only; rw [c_fl_bad h]; split <;> rfl
theorem c_tys_bad {B : Nat → Nat} {ln : Nat} {lu : Bool} {na : Nat} {rf : Bool} {r fr lo hi : Nat} {c : c_Cu} {L : Nat → Nat → Int64} (h : ¬ c.2.1 = 0) : c_tys B ln lu na rf r fr lo hi c L = (c, L) := by
  unfold c_tys; rw [c_tw_bad h]; rfl
theorem m_lkc_bad {B : Nat → Nat} {ln na p : Nat} {c : c_Cu} (h : ¬ c.2.1 = 0) : m_lkc B ln na p c = c := by unfold m_lkc; rw [c_fl_bad h]; split <;> rfl
theorem m_lln_bad {B : Nat → Nat} {ln na : Nat} : ∀ (n p : Nat) {c : c_Cu}, ¬ c.2.1 = 0 → m_lln B ln na n p c = c
  | 0, _, _, _ => rfl
  | n + 1, p, c, h => by rw [m_lln, m_lkc_bad h]; exact m_lln_bad n _ h
theorem m_llc_bad {B : Nat → Nat} {ln na p : Nat} {c : c_Cu} (h : ¬ c.2.1 = 0) : m_llc B ln na p c = c := m_lln_bad _ _ h
theorem m_tn_snoc (B : Nat → Nat) (ln : Nat) : ∀ n p, m_tn B ln (n + 1) p = m_te B ln (m_tn B ln n p)
  | 0, _ => rfl
  | n + 1, p => by rw [m_tn, m_tn_snoc B ln n (m_te B ln p)]; rfl
theorem v_R.bad {c : c_Cu} {e w e' w' : Nat} {d : c_Cu} (h : v_R c e w d) (hd : ¬ d.2.1 = 0) : v_R c e' w' d := ⟨h.1, h.2.1, fun z => absurd z hd⟩
theorem y_tl_ok {B : Nat → Nat} {ln : Nat} (hB : v_B B ln) (lu : Bool) (na : Nat) (rf : Bool) (r fr w : Nat) : ∀ (n i p : Nat) (L : Nat → Nat → Int64) (d : c_Cu), v_Ts B ln rf n p → d.2.1 = 0 →
    v_R (c_tl B ln lu na rf r fr n i (p, 0, w) L).1 (m_tn B ln n p) w (v_lk lu (m_lln B ln na n p) d) ∧ ((c_tl B ln lu na rf r fr n i (p, 0, w) L).1.2.1 = 0 → (∀ h k, ¬ (h = r ∧ fr + i ≤ k ∧ k < fr + i + n) → (c_tl B ln lu na rf r fr n i (p, 0, w) L).2 h k = L h k) ∧ ∀ j, j < n → (c_tl B ln lu na rf r fr n i (p, 0, w) L).2 r (fr + i + j) = lN (v_v B ln (m_tn B ln j p))) := by
  intro n
  induction n with
  | zero =>
    intro i p L d _ hd
    refine ⟨?_, fun _ => ⟨fun _ _ _ => rfl, fun j hj => absurd hj (Nat.not_lt_zero _)⟩⟩
    have e : v_lk lu (m_lln B ln na 0 p) d = d := by unfold v_lk; split <;> rfl
    rw [e]
    exact ⟨hd.symm, fun z => absurd hd z, fun _ => rfl⟩
  | succ n ih =>
    intro i p L d hv hd
    have e1 : c_tl B ln lu na rf r fr (n + 1) i (p, 0, w) L = c_tl B ln lu na rf r fr n (i + 1) (c_ty B ln lu na rf (p, 0, w)).2 (ct_u2 L r (fr + i) (lN (c_ty B ln lu na rf (p, 0, w)).1)) := by rw [c_tl, if_pos rfl]
    rw [e1, y_ty_ok hB lu na w hv.1]
    dsimp only
    by_cases z : lu = true ∧ B (m_tp B ln p) = 6 ∧ na ≤ B (m_te B ln p - 1)
    · rw [if_pos z, c_tl_bad (show ¬ (m_te B ln p, 7, m_te B ln p - 1).2.1 = 0 from (by decide : ¬ (7 : Nat) = 0))]
      have e2 : v_lk lu (m_lln B ln na (n + 1) p) d = c_fl 7 (m_te B ln p - 1) d := by
        unfold v_lk
        rw [if_pos z.1, m_lln, m_lkc, if_pos z.2]
        exact m_lln_bad n _ (by unfold c_fl; rw [if_pos hd]; show ¬ (7 : Nat) = 0; decide)
      have e3 : c_fl 7 (m_te B ln p - 1) d = (d.1, 7, m_te B ln p - 1) := by unfold c_fl; rw [if_pos hd]
      rw [e2, e3]
      exact ⟨⟨rfl, fun _ => rfl, fun q => absurd (show (7 : Nat) = 0 from q) (by decide)⟩, fun q => absurd (show (7 : Nat) = 0 from q) (by decide)⟩
    · rw [if_neg z]
      have e2 : v_lk lu (m_lln B ln na (n + 1) p) d = v_lk lu (m_lln B ln na n (m_te B ln p)) d := by
        unfold v_lk
        by_cases q : lu = true
        · rw [if_pos q, if_pos q, m_lln, m_lkc, if_neg (fun y => z ⟨q, y⟩)]
        · rw [if_neg q, if_neg q]
      obtain ⟨h1, h2⟩ := ih (i + 1) (m_te B ln p) (ct_u2 L r (fr + i) (lN (v_v B ln p))) d hv.2 hd
      rw [e2]
      refine ⟨h1, fun q => ?_⟩
      obtain ⟨h3, h4⟩ := h2 q
      refine ⟨fun h k hk => ?_, fun j hj => ?_⟩
      · rw [h3 h k (fun y => hk ⟨y.1, by omega, by omega⟩), ct_u2_get, if_neg (fun y => hk ⟨y.1, by omega, by omega⟩)]
      · by_cases y : j = 0
        · subst y
          rw [h3 r (fr + i + 0) (fun x => by omega), ct_u2_get, if_pos ⟨rfl, rfl⟩]
          rfl
        · have h5 := h4 (j - 1) (by omega)
          rw [show fr + (i + 1) + (j - 1) = fr + i + j from by omega] at h5
          rw [h5]
          congr 2
          rw [show j = (j - 1) + 1 from by omega]
          rfl
theorem y_tl_bad {B : Nat → Nat} {ln : Nat} (hB : v_B B ln) (na : Nat) (rf : Bool) (r fr w w' : Nat) : ∀ (n i p : Nat) (L : Nat → Nat → Int64), p ≤ ln → ¬ v_Ts B ln rf n p →
    v_si (c_tl B ln false na rf r fr n i (p, 0, w) L).1 (m_li B ln rf n (p, 0, w')) ∧ ¬ (c_tl B ln false na rf r fr n i (p, 0, w) L).1.2.1 = 0 := by
  intro n
  induction n with
  | zero => intro i p L _ h; exact absurd trivial h
  | succ n ih =>
    intro i p L hp h
    have e1 : c_tl B ln false na rf r fr (n + 1) i (p, 0, w) L = c_tl B ln false na rf r fr n (i + 1) (c_ty B ln false na rf (p, 0, w)).2 (ct_u2 L r (fr + i) (lN (c_ty B ln false na rf (p, 0, w)).1)) := by rw [c_tl, if_pos rfl]
    have e2 : m_li B ln rf (n + 1) (p, 0, w') = m_li B ln rf n (m_ty B ln rf (p, 0, w')) := by rw [m_li, if_pos rfl]
    rw [e1, e2]
    by_cases z : v_T B ln rf p
    · rw [y_ty_ok hB false na w z, z_ty_ok hB w' z]
      dsimp only
      rw [if_neg (fnt _)]
      exact ih (i + 1) _ _ (z.le hB).1 (fun y => h ⟨z, y⟩)
    · obtain ⟨h1, h2⟩ := y_ty_bad hB na (rf := rf) hp w w' z
      rw [c_tl_bad h2]
      have h3 : ¬ (m_ty B ln rf (p, 0, w')).2.1 = 0 := by rw [← h1.1]; exact h2
      have e3 : m_li B ln rf n (m_ty B ln rf (p, 0, w')) = m_ty B ln rf (p, 0, w') := by
        cases n with
        | zero => rfl
        | succ n => rw [m_li, if_neg h3]
      rw [e3]
      exact ⟨h1, h2⟩
theorem z_li_ok {B : Nat → Nat} {ln : Nat} (hB : v_B B ln) (rf : Bool) (w : Nat) : ∀ (n p : Nat), v_Ts B ln rf n p → m_li B ln rf n (p, 0, w) = (m_tn B ln n p, 0, w)
  | 0, _, _ => rfl
  | n + 1, p, h => by rw [m_li, if_pos rfl, z_ty_ok hB w h.1]; exact z_li_ok hB rf w n _ h.2
/-- a count -/
theorem y_tw_ok {B : Nat → Nat} {ln lo hi p w : Nat} (h : p < ln) (h1 : lo ≤ B p) (h2 : B p ≤ hi) : c_tw B ln 1 lo hi (p, 0, w) = (B p, (p + 1, 0, w)) := by
  unfold c_tw; rw [y_tk1 h]; dsimp only; rw [if_neg (by omega)]
theorem z_c1_ok {B : Nat → Nat} {ln lo hi p w : Nat} (h : p < ln) (h1 : lo ≤ B p) (h2 : B p ≤ hi) : m_c1 B ln lo hi (p, 0, w) = (p + 1, 0, w) ∧ m_cv B ln lo hi (p, 0, w) = B p := by
  have e : m_c1 B ln lo hi (p, 0, w) = (p + 1, 0, w) := by
    unfold m_c1; rw [z_ov h]; dsimp only; rw [if_neg (by omega)]
  refine ⟨e, ?_⟩
  unfold m_cv; rw [e, if_pos rfl]
theorem y_tw_no {B : Nat → Nat} {ln lo hi p w w' : Nat} (h : ¬ (p < ln ∧ lo ≤ B p ∧ B p ≤ hi)) : ∃ x : c_Cu, ¬ x.2.1 = 0 ∧ c_tw B ln 1 lo hi (p, 0, w) = (0, x) ∧ m_c1 B ln lo hi (p, 0, w') = x ∧ m_cv B ln lo hi (p, 0, w') = 0 := by
  by_cases q : p < ln
  · refine ⟨(p + 1, 3, p), by show ¬ (3 : Nat) = 0; decide, ?_, ?_, ?_⟩
    · unfold c_tw; rw [y_tk1 q]; dsimp only; rw [if_pos (by omega)]; rfl
    · unfold m_c1; rw [z_ov q]; dsimp only; rw [if_pos ⟨rfl, by omega⟩]; rfl
    · have e : m_c1 B ln lo hi (p, 0, w') = (p + 1, 3, p) := by
        unfold m_c1; rw [z_ov q]; dsimp only; rw [if_pos ⟨rfl, by omega⟩]; rfl
      unfold m_cv; rw [e, if_neg (by show ¬ (3 : Nat) = 0; decide)]
  · have e : m_c1 B ln lo hi (p, 0, w') = (p, 2, ln) := by
      unfold m_c1; rw [z_ov' q]; dsimp only; rw [if_neg (fun z => n2z z.1)]
    refine ⟨(p, 2, ln), n2z, ?_, e, ?_⟩
    · unfold c_tw; rw [y_tk1' q]; dsimp only; rw [c_fl_bad (show ¬ (p, 2, ln).2.1 = 0 from n2z)]; split <;> rfl
    · unfold m_cv; rw [e, if_neg n2z]
theorem y_tys_ok {B : Nat → Nat} {ln : Nat} (hB : v_B B ln) (lu : Bool) (na : Nat) {rf : Bool} {lo hi p : Nat} (r fr w : Nat) (L : Nat → Nat → Int64) (d : c_Cu) (h : v_L B ln lo hi rf p) (hd : d.2.1 = 0) :
    v_R (c_tys B ln lu na rf r fr lo hi (p, 0, w) L).1 (m_le B ln p) w (v_lk lu (m_llc B ln na p) d) ∧ ((c_tys B ln lu na rf r fr lo hi (p, 0, w) L).1.2.1 = 0 → (∀ h k, ¬ (h = r ∧ fr ≤ k ∧ k < fr + B p) → (c_tys B ln lu na rf r fr lo hi (p, 0, w) L).2 h k = L h k) ∧ ∀ j, j < B p → (c_tys B ln lu na rf r fr lo hi (p, 0, w) L).2 r (fr + j) = lN (v_v B ln (m_tn B ln j (p + 1)))) := by
  have e : c_tys B ln lu na rf r fr lo hi (p, 0, w) L = c_tl B ln lu na rf r fr (B p) 0 (p + 1, 0, w) L := by
    unfold c_tys; rw [y_tw_ok h.1 h.2.1 h.2.2.1]
  rw [e]
  exact y_tl_ok hB lu na rf r fr w (B p) 0 (p + 1) L d h.2.2.2 hd
theorem y_tys_bad {B : Nat → Nat} {ln : Nat} (hB : v_B B ln) (na : Nat) {rf : Bool} {lo hi p : Nat} (r fr w w' : Nat) (L : Nat → Nat → Int64) (h : ¬ v_L B ln lo hi rf p) :
    v_si (c_tys B ln false na rf r fr lo hi (p, 0, w) L).1 (m_li B ln rf (m_cv B ln lo hi (p, 0, w')) (m_c1 B ln lo hi (p, 0, w'))) ∧ ¬ (c_tys B ln false na rf r fr lo hi (p, 0, w) L).1.2.1 = 0 := by
  unfold c_tys
  by_cases z : p < ln ∧ lo ≤ B p ∧ B p ≤ hi
  · rw [y_tw_ok z.1 z.2.1 z.2.2, (z_c1_ok z.1 z.2.1 z.2.2).1, (z_c1_ok z.1 z.2.1 z.2.2).2]
    exact y_tl_bad hB na rf r fr w w' (B p) 0 (p + 1) L z.1 (fun y => h ⟨z.1, z.2.1, z.2.2, y⟩)
  · obtain ⟨x, h1, h2, h3, h4⟩ := y_tw_no (B := B) (w := w) (w' := w') z
    rw [h2, h3, h4]
    exact ⟨⟨rfl, fun _ => rfl, fun _ => rfl⟩, h1⟩
theorem z_ls_ok {B : Nat → Nat} {ln : Nat} (hB : v_B B ln) {rf : Bool} {lo hi p : Nat} (w : Nat) (h : v_L B ln lo hi rf p) : m_li B ln rf (m_cv B ln lo hi (p, 0, w)) (m_c1 B ln lo hi (p, 0, w)) = (m_le B ln p, 0, w) := by
  rw [(z_c1_ok h.1 h.2.1 h.2.2.1).1, (z_c1_ok h.1 h.2.1 h.2.2.1).2]
  exact z_li_ok hB rf w _ _ h.2.2.2
theorem v_Ts.le {B : Nat → Nat} {ln : Nat} (hB : v_B B ln) {rf : Bool} : ∀ (n p : Nat), p ≤ ln → v_Ts B ln rf n p → m_tn B ln n p ≤ ln
  | 0, _, h, _ => h
  | n + 1, p, _, h => v_Ts.le hB n _ (h.1.le hB).1 h.2
theorem v_L.le {B : Nat → Nat} {ln : Nat} (hB : v_B B ln) {rf : Bool} {lo hi p : Nat} (h : v_L B ln lo hi rf p) : m_le B ln p ≤ ln := v_Ts.le hB _ _ h.1 h.2.2.2
/-- loops of the class's walk over good things -/
theorem lp_ok (lu : Bool) {f : Nat → c_S → c_S} {pos : Nat → Nat} {look : Nat → c_Cu → c_Cu} {Inv : Nat → c_S → Prop} {w N : Nat}
    (step : ∀ k, k < N → ∀ I L d, Inv k ((pos k, 0, w), I, L) → d.2.1 = 0 → v_R (f k ((pos k, 0, w), I, L)).1 (pos (k + 1)) w (v_lk lu (look k) d) ∧ ((f k ((pos k, 0, w), I, L)).1.2.1 = 0 → Inv (k + 1) (f k ((pos k, 0, w), I, L)))) :
    ∀ n k, k + n = N → ∀ I L d, Inv k ((pos k, 0, w), I, L) → d.2.1 = 0 → v_R (c_lp f n k ((pos k, 0, w), I, L)).1 (pos N) w (v_lk lu (m_cl look n k) d) ∧ ((c_lp f n k ((pos k, 0, w), I, L)).1.2.1 = 0 → Inv N (c_lp f n k ((pos k, 0, w), I, L))) := by
  intro n
  induction n with
  | zero =>
    intro k hk I L d hI hd
    have e : k = N := by omega
    subst e
    have e1 : v_lk lu (m_cl look 0 k) d = d := by unfold v_lk; split <;> rfl
    rw [e1]
    exact ⟨⟨hd.symm, fun z => absurd hd z, fun _ => rfl⟩, fun _ => hI⟩
  | succ n ih =>
    intro k hk I L d hI hd
    obtain ⟨h1, h2⟩ := step k (by omega) I L d hI hd
    have e1 : c_lp f (n + 1) k ((pos k, 0, w), I, L) = c_lp f n (k + 1) (f k ((pos k, 0, w), I, L)) := by rw [c_lp, if_pos rfl]
    rw [e1]
    generalize hS : f k ((pos k, 0, w), I, L) = S at h1 h2 ⊢
    have e2 : v_lk lu (m_cl look (n + 1) k) d = v_lk lu (m_cl look n (k + 1)) (v_lk lu (look k) d) := by
      unfold v_lk
      by_cases q : lu = true
      · rw [if_pos q, if_pos q, if_pos q, m_cl, if_pos hd]
      · rw [if_neg q, if_neg q, if_neg q]
    rw [e2]
    generalize v_lk lu (look k) d = d' at h1 ⊢
    by_cases z : d'.2.1 = 0
    · have e3 := h1.2.2 z
      have e4 : S = ((pos (k + 1), 0, w), S.2.1, S.2.2) := by rw [← e3]
      have h3 := h2 (by rw [e3])
      rw [e4] at h3 ⊢
      exact ih (k + 1) (by omega) S.2.1 S.2.2 d' h3 z
    · have hb : ¬ S.1.2.1 = 0 := by rw [h1.1]; exact z
      rw [c_lp_bad hb]
      have e3 : v_lk lu (m_cl look n (k + 1)) d' = d' := by
        unfold v_lk; split
        · exact m_cl_bad z
        · rfl
      rw [e3]
      exact ⟨h1.bad z, fun q => absurd q hb⟩
theorem m_lp_ok {F : Nat → m_S → m_S} {pos : Nat → Nat} {Inv : Nat → m_S → Prop} {w N : Nat}
    (step : ∀ k, k < N → ∀ J, Inv k ((pos k, 0, w), J) → (F k ((pos k, 0, w), J)).1 = (pos (k + 1), 0, w) ∧ Inv (k + 1) (F k ((pos k, 0, w), J))) :
    ∀ n k, k + n = N → ∀ J, Inv k ((pos k, 0, w), J) → (m_lp F n k ((pos k, 0, w), J)).1 = (pos N, 0, w) ∧ Inv N (m_lp F n k ((pos k, 0, w), J)) := by
  intro n
  induction n with
  | zero =>
    intro k hk J hI
    have e : k = N := by omega
    subst e
    exact ⟨rfl, hI⟩
  | succ n ih =>
    intro k hk J hI
    obtain ⟨h1, h2⟩ := step k (by omega) J hI
    have e1 : m_lp F (n + 1) k ((pos k, 0, w), J) = m_lp F n (k + 1) (F k ((pos k, 0, w), J)) := by rw [m_lp, if_pos rfl]
    rw [e1]
    generalize F k ((pos k, 0, w), J) = S at h1 h2 ⊢
    have e4 : S = ((pos (k + 1), 0, w), S.2) := by rw [← h1]
    rw [e4] at h2 ⊢
    exact ih (k + 1) (by omega) S.2 h2
/-- the first walk, over something bad: class and reference have the same fault -/
theorem lp_bad {f : Nat → c_S → c_S} {F : Nat → m_S → m_S} {pos : Nat → Nat} {InvC : Nat → c_S → Prop} {InvM : Nat → m_S → Prop} {V : Nat → Prop} {w w' N : Nat}
    (hv : ∀ k, k < N → V k → ∀ I L, InvC k ((pos k, 0, w), I, L) → (f k ((pos k, 0, w), I, L)).1 = (pos (k + 1), 0, w) ∧ InvC (k + 1) (f k ((pos k, 0, w), I, L)))
    (hm : ∀ k, k < N → V k → ∀ J, InvM k ((pos k, 0, w'), J) → (F k ((pos k, 0, w'), J)).1 = (pos (k + 1), 0, w') ∧ InvM (k + 1) (F k ((pos k, 0, w'), J)))
    (hb : ∀ k, k < N → ¬ V k → (∀ j, j < k → V j) → ∀ I L J, InvC k ((pos k, 0, w), I, L) → InvM k ((pos k, 0, w'), J) → v_si (f k ((pos k, 0, w), I, L)).1 (F k ((pos k, 0, w'), J)).1 ∧ ¬ (f k ((pos k, 0, w), I, L)).1.2.1 = 0) :
    ∀ n k, k + n = N → ∀ I L J, InvC k ((pos k, 0, w), I, L) → InvM k ((pos k, 0, w'), J) → (∀ j, j < k → V j) → ¬ (∀ j, j < N → V j) → v_si (c_lp f n k ((pos k, 0, w), I, L)).1 (m_lp F n k ((pos k, 0, w'), J)).1 ∧ ¬ (c_lp f n k ((pos k, 0, w), I, L)).1.2.1 = 0 := by
  intro n
  induction n with
  | zero =>
    intro k hk I L J _ _ h1 h2
    exact absurd (fun j hj => h1 j (by omega)) h2
  | succ n ih =>
    intro k hk I L J hC hM h1 h2
    have e1 : c_lp f (n + 1) k ((pos k, 0, w), I, L) = c_lp f n (k + 1) (f k ((pos k, 0, w), I, L)) := by rw [c_lp, if_pos rfl]
    have e2 : m_lp F (n + 1) k ((pos k, 0, w'), J) = m_lp F n (k + 1) (F k ((pos k, 0, w'), J)) := by rw [m_lp, if_pos rfl]
    rw [e1, e2]
    by_cases z : V k
    · obtain ⟨a1, a2⟩ := hv k (by omega) z I L hC
      obtain ⟨b1, b2⟩ := hm k (by omega) z J hM
      generalize f k ((pos k, 0, w), I, L) = S at a1 a2 ⊢
      generalize F k ((pos k, 0, w'), J) = Y at b1 b2 ⊢
      have e4 : S = ((pos (k + 1), 0, w), S.2.1, S.2.2) := by rw [← a1]
      have e5 : Y = ((pos (k + 1), 0, w'), Y.2) := by rw [← b1]
      rw [e4] at a2 ⊢
      rw [e5] at b2 ⊢
      refine ih (k + 1) (by omega) S.2.1 S.2.2 Y.2 a2 b2 (fun j hj => ?_) h2
      by_cases y : j = k
      · rw [y]; exact z
      · exact h1 j (by omega)
    · obtain ⟨a1, a2⟩ := hb k (by omega) z h1 I L J hC hM
      rw [c_lp_bad a2, m_lp_bad (by rw [← a1.1]; exact a2)]
      exact ⟨a1, a2⟩
