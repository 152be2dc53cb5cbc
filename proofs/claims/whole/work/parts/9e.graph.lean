/-! PURE: circles. e k j: structure k has a field of structure j -/
/-- a way of t + 1 steps, all below n -/
def g_pn (n : Nat) (e : Nat → Nat → Bool) : Nat → Nat → Nat → Prop
  | 0, k, j => j < n ∧ e k j = true
  | t + 1, k, j => ∃ m, m < n ∧ e k m = true ∧ g_pn n e t m j
def g_tc (n : Nat) (e : Nat → Nat → Bool) (k j : Nat) : Prop := ∃ t, g_pn n e t k j
theorem g_tc.one {n : Nat} {e : Nat → Nat → Bool} {k j : Nat} (h1 : j < n) (h2 : e k j = true) : g_tc n e k j := ⟨0, h1, h2⟩
theorem g_tc.more {n : Nat} {e : Nat → Nat → Bool} {k m j : Nat} (h1 : m < n) (h2 : e k m = true) (h3 : g_tc n e m j) : g_tc n e k j := by
  obtain ⟨t, h⟩ := h3; exact ⟨t + 1, m, h1, h2, h⟩
theorem g_tc.ind {n : Nat} {e : Nat → Nat → Bool} {P : Nat → Nat → Prop} (h1 : ∀ k j, j < n → e k j = true → P k j) (h2 : ∀ k m j, m < n → e k m = true → g_tc n e m j → P m j → P k j) {k j : Nat} (h : g_tc n e k j) : P k j := by
  obtain ⟨t, h⟩ := h
  induction t generalizing k with
  | zero => exact h1 k j h.1 h.2
  | succ t ih => obtain ⟨m, a, b, c⟩ := h; exact h2 k m j a b ⟨t, c⟩ (ih c)
theorem g_tc.trans {n : Nat} {e : Nat → Nat → Bool} {k m j : Nat} (h : g_tc n e k m) (h2 : g_tc n e m j) : g_tc n e k j :=
  g_tc.ind (P := fun a b => g_tc n e b j → g_tc n e a j) (fun k m a b c => .more a b c) (fun k m b a c _ ih d => .more a c (ih d)) h h2
/-! the closing, on rows of truths -/
def g_v1 (w k : Nat) (F : Nat → Nat → Bool) : Nat → Nat → Bool := fun a j => if a = k then (F k j || (F k w && F w j)) else F a j
def g_vI (w : Nat) : Nat → Nat → (Nat → Nat → Bool) → Nat → Nat → Bool
  | 0, _, F => F
  | n + 1, k, F => g_vI w n (k + 1) (g_v1 w k F)
def g_vO (cnt : Nat) : Nat → Nat → (Nat → Nat → Bool) → Nat → Nat → Bool
  | 0, _, F => F
  | n + 1, w, F => g_vO cnt n (w + 1) (g_vI w cnt 0 F)
theorem g_vI_at (w : Nat) : ∀ (n k : Nat) (F : Nat → Nat → Bool) (a j : Nat), g_vI w n k F a j = if k ≤ a ∧ a < k + n then (F a j || (F a w && F w j)) else F a j := by
  intro n
  induction n with
  | zero => intro k F a j; rw [g_vI, if_neg (by omega)]
  | succ n ih =>
    intro k F a j
    rw [g_vI, ih]
    have hw : ∀ x, g_v1 w k F w x = F w x := by
      intro x
      unfold g_v1
      by_cases q : w = k
      · subst q; rw [if_pos rfl]; cases F w x <;> cases F w w <;> rfl
      · rw [if_neg q]
    by_cases c1 : k + 1 ≤ a ∧ a < k + 1 + n
    · rw [if_pos c1, if_pos (by omega), hw]
      have : ∀ x, g_v1 w k F a x = F a x := fun x => by unfold g_v1; rw [if_neg (by omega)]
      rw [this, this]
    · rw [if_neg c1]
      by_cases c2 : a = k
      · subst c2
        rw [if_pos (by omega)]; unfold g_v1; rw [if_pos rfl]
      · rw [if_neg (by omega)]; unfold g_v1; rw [if_neg c2]
def g_C (cnt w : Nat) (F : Nat → Nat → Bool) : Prop := ∀ k j, k < cnt → F k w = true → F w j = true → F k j = true
theorem g_vI_C {cnt w : Nat} (hw : w < cnt) (F : Nat → Nat → Bool) : g_C cnt w (g_vI w cnt 0 F) := by
  intro k j hk h1 h2
  rw [g_vI_at, if_pos (by omega)] at h1 h2 ⊢
  cases a : F k w <;> cases b : F w w <;> cases c : F w j <;> cases d : F k j <;> simp_all
theorem g_vI_C' {cnt w v : Nat} (hw : w < cnt) (hv : v < cnt) {F : Nat → Nat → Bool} (h : g_C cnt v F) : g_C cnt v (g_vI w cnt 0 F) := by
  intro k j hk h1 h2
  rw [g_vI_at, if_pos (by omega)] at h1 h2 ⊢
  have c1 := h k j hk
  have c2 := h k w hk
  have c3 := h w j hw
  have c4 := h w w hw
  cases a1 : F k v <;> cases a2 : F k w <;> cases a3 : F w v <;> cases a4 : F v j <;> cases a5 : F v w <;> cases a6 : F w j <;> cases a7 : F k j <;> simp_all
theorem g_vO_ok {cnt : Nat} : ∀ (n w : Nat) (F : Nat → Nat → Bool), w + n = cnt → (∀ v, v < w → g_C cnt v F) → (∀ v, v < cnt → g_C cnt v (g_vO cnt n w F)) ∧ ∀ k j, F k j = true → g_vO cnt n w F k j = true := by
  intro n
  induction n with
  | zero => intro w F hw hC; exact ⟨fun v hv => hC v (by omega), fun k j h => h⟩
  | succ n ih =>
    intro w F hw hC
    obtain ⟨a1, a2⟩ := ih (w + 1) (g_vI w cnt 0 F) (by omega) (fun v hv => by
      by_cases q : v = w
      · rw [q]; exact g_vI_C (by omega) F
      · exact g_vI_C' (by omega) (by omega) (hC v (by omega)))
    refine ⟨a1, fun k j h => a2 k j ?_⟩
    rw [g_vI_at]; split
    · rw [h]; rfl
    · exact h
theorem g_vO_sound {cnt : Nat} {e : Nat → Nat → Bool} : ∀ (n w : Nat) (F : Nat → Nat → Bool), w + n = cnt → (∀ k j, k < cnt → j < cnt → F k j = true → g_tc cnt e k j) → ∀ k j, k < cnt → j < cnt → g_vO cnt n w F k j = true → g_tc cnt e k j := by
  intro n
  induction n with
  | zero => intro w F _ h; exact h
  | succ n ih =>
    intro w F hw h
    refine ih (w + 1) (g_vI w cnt 0 F) (by omega) (fun k j hk hj q => ?_)
    rw [g_vI_at, if_pos (by omega)] at q
    by_cases c : F k j = true
    · exact h k j hk hj c
    · cases a : F k w <;> cases b : F w j <;> simp_all
      exact (h k w hk (by omega) a).trans (h w j (by omega) hj b)
theorem g_vO_tc {cnt : Nat} {e : Nat → Nat → Bool} {k j : Nat} (hk : k < cnt) (hj : j < cnt) : g_vO cnt cnt 0 e k j = true ↔ g_tc cnt e k j := by
  constructor
  · exact g_vO_sound cnt 0 e (Nat.zero_add _) (fun k j _ hj h => .one hj h) k j hk hj
  · intro h
    obtain ⟨a1, a2⟩ := g_vO_ok (cnt := cnt) cnt 0 e (Nat.zero_add _) (fun v hv => absurd hv (Nat.not_lt_zero _))
    exact g_tc.ind (P := fun k j => k < cnt → g_vO cnt cnt 0 e k j = true) (fun k j _ b _ => a2 k j b) (fun k m j a b _ ih hk => a1 m a k j hk (a2 k m b) (ih a)) h hk
/-! the reference's reaching -/
def g_Rk (e : Nat → Nat → Bool) (k : Nat) (R : Nat → Bool) : Nat → Bool := fun j => R j || e k j
def g_Ri (e : Nat → Nat → Bool) : Nat → Nat → (Nat → Bool) → Nat → Bool
  | 0, _, R => R
  | n + 1, s, R => g_Ri e n (s + 1) (if R s = true then g_Rk e s R else R)
def g_Rt (e : Nat → Nat → Bool) (n1 : Nat) : Nat → (Nat → Bool) → Nat → Bool
  | 0, R => R
  | n + 1, R => g_Rt e n1 n (g_Ri e n1 0 R)
theorem g_Ri_mono (e : Nat → Nat → Bool) : ∀ (n s : Nat) (R : Nat → Bool) (j : Nat), R j = true → g_Ri e n s R j = true
  | 0, _, _, _, h => h
  | n + 1, s, R, j, h => by
    rw [g_Ri]
    refine g_Ri_mono e n (s + 1) _ j ?_
    split
    · unfold g_Rk; rw [h]; rfl
    · exact h
theorem g_Ri_step (e : Nat → Nat → Bool) : ∀ (n s : Nat) (R : Nat → Bool) (m j : Nat), s ≤ m → m < s + n → R m = true → e m j = true → g_Ri e n s R j = true
  | 0, _, _, _, _, h1, h2, _, _ => by omega
  | n + 1, s, R, m, j, h1, h2, h3, h4 => by
    rw [g_Ri]
    by_cases q : m = s
    · subst q
      refine g_Ri_mono e n (m + 1) _ j ?_
      rw [if_pos h3]; unfold g_Rk; rw [h4]; cases R j <;> rfl
    · refine g_Ri_step e n (s + 1) _ m j (by omega) (by omega) ?_ h4
      split
      · unfold g_Rk; rw [h3]; rfl
      · exact h3
theorem g_Ri_sound {n1 k : Nat} (e : Nat → Nat → Bool) : ∀ (n s : Nat) (R : Nat → Bool), s + n ≤ n1 → (∀ j, j < n1 → R j = true → g_tc n1 e k j) → ∀ j, j < n1 → g_Ri e n s R j = true → g_tc n1 e k j
  | 0, _, _, _, h => h
  | n + 1, s, R, hs, h => by
    rw [g_Ri]
    refine g_Ri_sound e n (s + 1) _ (by omega) (fun j hj q => ?_)
    by_cases c : R s = true
    · rw [if_pos c] at q
      unfold g_Rk at q
      by_cases d : R j = true
      · exact h j hj d
      · have : e s j = true := by cases a : R j <;> cases b : e s j <;> simp_all
        exact (h s (by omega) c).trans (.one hj this)
    · rw [if_neg c] at q; exact h j hj q
theorem g_Rt_sound {n1 k : Nat} (e : Nat → Nat → Bool) : ∀ (n : Nat) (R : Nat → Bool), (∀ j, j < n1 → R j = true → g_tc n1 e k j) → ∀ j, j < n1 → g_Rt e n1 n R j = true → g_tc n1 e k j
  | 0, _, h => h
  | n + 1, R, h => by rw [g_Rt]; exact g_Rt_sound e n _ (g_Ri_sound e n1 0 R (by omega) h)
def g_cl (e : Nat → Nat → Bool) (n1 : Nat) (R : Nat → Bool) : Prop := ∀ m j, m < n1 → j < n1 → R m = true → e m j = true → R j = true
def g_ct (R : Nat → Bool) : Nat → Nat
  | 0 => 0
  | n + 1 => g_ct R n + (if R n = true then 1 else 0)
theorem g_ct_le (R : Nat → Bool) : ∀ n, g_ct R n ≤ n
  | 0 => Nat.le_refl _
  | n + 1 => by have := g_ct_le R n; rw [g_ct]; split <;> omega
theorem g_ct_mono {R R' : Nat → Bool} : ∀ n, (∀ j, j < n → R j = true → R' j = true) → g_ct R n ≤ g_ct R' n
  | 0, _ => Nat.le_refl _
  | n + 1, h => by
    have := g_ct_mono n (fun j hj => h j (by omega))
    have h2 := h n (by omega)
    rw [g_ct, g_ct]
    by_cases q : R n = true
    · rw [if_pos q, if_pos (h2 q)]; omega
    · rw [if_neg q]; split <;> omega
theorem g_ct_lt {R R' : Nat → Bool} : ∀ n, (∀ j, j < n → R j = true → R' j = true) → (∃ j, j < n ∧ ¬ R j = true ∧ R' j = true) → g_ct R n < g_ct R' n
  | 0, _, h => by obtain ⟨j, hj, -⟩ := h; omega
  | n + 1, h, ⟨j, hj, h1, h2⟩ => by
    rw [g_ct, g_ct]
    by_cases q : j = n
    · subst q
      have := g_ct_mono j (fun i hi => h i (by omega))
      rw [if_neg h1, if_pos h2]; omega
    · have := g_ct_lt n (fun i hi => h i (by omega)) ⟨j, by omega, h1, h2⟩
      have h3 := h n (by omega)
      by_cases c : R n = true
      · rw [if_pos c, if_pos (h3 c)]; omega
      · rw [if_neg c]; split <;> omega
theorem g_cl_step {e : Nat → Nat → Bool} {n1 : Nat} {R : Nat → Bool} (h : g_cl e n1 R) : ∀ (n s : Nat), s + n ≤ n1 → ∀ Q : Nat → Bool, (∀ j, j < n1 → Q j = R j) → ∀ j, j < n1 → g_Ri e n s Q j = R j := by
  intro n
  induction n with
  | zero => intro s _ Q hQ j hj; exact hQ j hj
  | succ n ih =>
    intro s hs Q hQ j hj
    rw [g_Ri]
    refine ih (s + 1) (by omega) _ (fun i hi => ?_) j hj
    by_cases c : Q s = true
    · rw [if_pos c]; unfold g_Rk; rw [hQ i hi]
      by_cases d : e s i = true
      · have := h s i (by omega) hi (by rw [← hQ s (by omega)]; exact c) d
        rw [this]; rfl
      · cases a : e s i
        · cases R i <;> rfl
        · exact absurd a d
    · rw [if_neg c]; exact hQ i hi
theorem g_Rt_cl {e : Nat → Nat → Bool} {n1 : Nat} : ∀ (n : Nat) (R : Nat → Bool), g_cl e n1 R → g_cl e n1 (g_Rt e n1 n R)
  | 0, _, h => h
  | n + 1, R, h => by
    rw [g_Rt]
    refine g_Rt_cl n _ (fun m j hm hj h1 h2 => ?_)
    have := g_cl_step h n1 0 (by omega) R (fun _ _ => rfl)
    rw [this m hm] at h1
    rw [this j hj]
    exact h m j hm hj h1 h2
theorem g_Rt_mono {e : Nat → Nat → Bool} {n1 : Nat} : ∀ (n : Nat) (R : Nat → Bool) (j : Nat), R j = true → g_Rt e n1 n R j = true
  | 0, _, _, h => h
  | n + 1, R, j, h => by rw [g_Rt]; exact g_Rt_mono n _ j (g_Ri_mono e n1 0 R j h)
theorem g_Rt_count {e : Nat → Nat → Bool} {n1 : Nat} : ∀ (n : Nat) (R : Nat → Bool), ¬ g_cl e n1 (g_Rt e n1 n R) → g_ct R n1 + n ≤ g_ct (g_Rt e n1 n R) n1
  | 0, _, _ => Nat.le_refl _
  | n + 1, R, h => by
    have hnc : ¬ g_cl e n1 R := fun y => h (g_Rt_cl (n + 1) R y)
    have hlt : g_ct R n1 < g_ct (g_Ri e n1 0 R) n1 := by
      refine g_ct_lt n1 (fun j _ => g_Ri_mono e n1 0 R j) ?_
      have : ∃ m j, m < n1 ∧ j < n1 ∧ R m = true ∧ e m j = true ∧ ¬ R j = true := by
        refine Classical.byContradiction (fun y => hnc (fun m j hm hj h1 h2 => Classical.byContradiction (fun z => y ⟨m, j, hm, hj, h1, h2, z⟩)))
      obtain ⟨m, j, hm, hj, h1, h2, h3⟩ := this
      exact ⟨j, hj, h3, g_Ri_step e n1 0 R m j (Nat.zero_le _) (by omega) h1 h2⟩
    rw [g_Rt] at h ⊢
    have := g_Rt_count n (g_Ri e n1 0 R) h
    omega
theorem g_Rt_closed {e : Nat → Nat → Bool} {n1 : Nat} (R : Nat → Bool) : g_cl e n1 (g_Rt e n1 n1 R) := by
  refine Classical.byContradiction (fun y => ?_)
  have h1 := g_Rt_count n1 R y
  have h2 := g_ct_le (g_Rt e n1 n1 R) n1
  have h3 : g_ct R n1 = 0 := by omega
  have h4 : ∀ n, g_ct R n = 0 → ∀ j, j < n → ¬ R j = true := by
    intro n
    induction n with
    | zero => intro _ j hj; omega
    | succ n ih =>
      intro hn j hj
      rw [g_ct] at hn
      by_cases q : j = n
      · subst q; intro c; rw [if_pos c] at hn; omega
      · exact ih (by omega) j (by omega)
  have h5 : g_cl e n1 R := fun m j hm _ q _ => absurd q (h4 n1 h3 m hm)
  exact y (g_Rt_cl n1 R h5)
/-- the two answers to: does k contain itself -/
theorem g_rd {e : Nat → Nat → Bool} {n1 k : Nat} (hk : k < n1) : g_Rt e n1 n1 (g_Rk e k (fun _ => false)) k = true ↔ g_tc n1 e k k := by
  constructor
  · refine g_Rt_sound e n1 _ (fun j hj h => .one hj ?_) k hk
    unfold g_Rk at h; simpa using h
  · intro h
    have hc := g_Rt_closed (e := e) (n1 := n1) (g_Rk e k (fun _ => false))
    have h0 : ∀ j, e k j = true → g_Rt e n1 n1 (g_Rk e k (fun _ => false)) j = true := fun j hj => g_Rt_mono n1 _ j (by unfold g_Rk; rw [hj]; rfl)
    have key : ∀ m j, g_tc n1 e m j → (∀ i, i < n1 → e m i = true → g_Rt e n1 n1 (g_Rk e k (fun _ => false)) i = true) → g_Rt e n1 n1 (g_Rk e k (fun _ => false)) j = true := by
      intro m j q
      exact g_tc.ind (P := fun m j => (∀ i, i < n1 → e m i = true → g_Rt e n1 n1 (g_Rk e k (fun _ => false)) i = true) → g_Rt e n1 n1 (g_Rk e k (fun _ => false)) j = true) (fun m j a b u => u j a b) (fun m x j a b _ ih u => ih (fun i hi v => hc x i a hi (u x a b) v)) q
    exact key k k h (fun i _ v => h0 i v)
