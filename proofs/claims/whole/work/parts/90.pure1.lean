/-! PURE: what stands at a place of the tape. B: its bytes, 0 behind its end -/
def v_sv (B : Nat → Nat) : Nat → Nat → Nat
  | 0, p => p
  | n + 1, p => if B p = 7 then v_sv B n (p + 1) else p
def v_q (B : Nat → Nat) (rf : Bool) (p : Nat) : Nat := if rf = true ∧ (B p = 8 ∨ B p = 9) then p + 1 else p
/-- where a type's kind stands -/
def v_k (B : Nat → Nat) (rf : Bool) (p : Nat) : Nat := v_sv B 4 (v_q B rf p)
def v_T (B : Nat → Nat) (ln : Nat) (rf : Bool) (p : Nat) : Prop := 1 ≤ B (v_k B rf p) ∧ B (v_k B rf p) ≤ 6 ∧ (B (v_k B rf p) = 6 → v_k B rf p + 2 ≤ ln)
/-- the cursor behind a type, or at its fault -/
def v_tc (B : Nat → Nat) (ln k w : Nat) : c_Cu := if ln ≤ k then (k, 2, ln) else if B k < 1 ∨ 6 < B k then (k + 1, 4, k) else if B k = 6 then (if k + 2 ≤ ln then (k + 2, 0, w) else (k + 1, 2, ln)) else (k + 1, 0, w)
/-- a type's number -/
def v_v (B : Nat → Nat) (ln p : Nat) : Nat := c_num B p (m_te B ln p - p)
/-- B is 0 behind the end, and has bytes -/
def v_B (B : Nat → Nat) (ln : Nat) : Prop := (∀ j, B j < 256) ∧ ∀ j, ln ≤ j → B j = 0
theorem v_B.lt {B : Nat → Nat} {ln : Nat} (h : v_B B ln) {j : Nat} (hj : ¬ B j = 0) : j < ln := Nat.lt_of_not_le fun z => hj (h.2 j z)
theorem v_sv_ge (B : Nat → Nat) : ∀ n p, p ≤ v_sv B n p
  | 0, _ => Nat.le_refl _
  | n + 1, p => by
    unfold v_sv; split
    · have := v_sv_ge B n (p + 1); omega
    · exact Nat.le_refl _
theorem v_sv_le (B : Nat → Nat) : ∀ n p, v_sv B n p ≤ p + n
  | 0, _ => Nat.le_refl _
  | n + 1, p => by
    unfold v_sv; split
    · have := v_sv_le B n (p + 1); omega
    · omega
theorem v_sv_in (B : Nat → Nat) : ∀ n p j, p ≤ j → j < v_sv B n p → B j = 7
  | 0, p, j, h1, h2 => by unfold v_sv at h2; omega
  | n + 1, p, j, h1, h2 => by
    unfold v_sv at h2; split at h2
    · rename_i h
      by_cases e : j = p
      · rw [e]; exact h
      · exact v_sv_in B n (p + 1) j (by omega) h2
    · omega
theorem v_q_ge (B : Nat → Nat) (rf : Bool) (p : Nat) : p ≤ v_q B rf p := by unfold v_q; split <;> omega
theorem v_q_le (B : Nat → Nat) (rf : Bool) (p : Nat) : v_q B rf p ≤ p + 1 := by unfold v_q; split <;> omega
theorem v_k_ge (B : Nat → Nat) (rf : Bool) (p : Nat) : p ≤ v_k B rf p := Nat.le_trans (v_q_ge B rf p) (v_sv_ge B 4 _)
theorem v_k_le (B : Nat → Nat) (rf : Bool) (p : Nat) : v_k B rf p ≤ p + 5 := by
  have h1 := v_q_le B rf p
  have h2 := v_sv_le B 4 (v_q B rf p)
  unfold v_k; omega
theorem v_k_in (B : Nat → Nat) (rf : Bool) (p j : Nat) (h1 : p ≤ j) (h2 : j < v_k B rf p) : 6 < B j := by
  unfold v_k at h2
  by_cases e : v_q B rf p ≤ j
  · rw [v_sv_in B 4 _ j e h2]; decide
  · unfold v_q at e
    split at e
    · rename_i h
      have : j = p := by omega
      rw [this]; rcases h.2 with q | q <;> rw [q] <;> decide
    · omega
theorem m_sk_eq (B : Nat → Nat) : ∀ (n p k : Nat), p ≤ k → k ≤ p + n → (∀ j, p ≤ j → j < k → 6 < B j) → B k ≤ 6 → m_sk B n p = k
  | 0, p, k, h1, h2, _, _ => by unfold m_sk; omega
  | n + 1, p, k, h1, h2, h3, h4 => by
    unfold m_sk
    by_cases e : p = k
    · subst e; rw [if_neg (by omega)]
    · rw [if_pos (h3 p (Nat.le_refl _) (by omega))]
      exact m_sk_eq B n (p + 1) k (by omega) (by omega) (fun j q1 q2 => h3 j (by omega) q2) h4
theorem v_T.lt {B : Nat → Nat} {ln : Nat} {rf : Bool} {p : Nat} (hB : v_B B ln) (h : v_T B ln rf p) : v_k B rf p < ln := hB.lt (by have := h.1; omega)
theorem v_T.tp {B : Nat → Nat} {ln : Nat} {rf : Bool} {p : Nat} (hB : v_B B ln) (h : v_T B ln rf p) : m_tp B ln p = v_k B rf p := by
  have h1 := h.lt hB
  exact m_sk_eq B ln p _ (v_k_ge B rf p) (by omega) (v_k_in B rf p) h.2.1
theorem v_T.te {B : Nat → Nat} {ln : Nat} {rf : Bool} {p : Nat} (hB : v_B B ln) (h : v_T B ln rf p) : m_te B ln p = if B (v_k B rf p) = 6 then v_k B rf p + 2 else v_k B rf p + 1 := by unfold m_te; rw [h.tp hB]
theorem v_T.le {B : Nat → Nat} {ln : Nat} {rf : Bool} {p : Nat} (hB : v_B B ln) (h : v_T B ln rf p) : m_te B ln p ≤ ln ∧ m_te B ln p ≤ p + 7 := by
  have h1 := h.lt hB
  have h2 := v_k_le B rf p
  rw [h.te hB]
  split
  · rename_i e; have := h.2.2 e; omega
  · omega
theorem y_nb {B : Nat → Nat} {ln : Nat} (hB : v_B B ln) (p w : Nat) : c_nb B ln (p, 0, w) = B p := by
  unfold c_nb
  by_cases h : p < ln
  · rw [if_pos ⟨rfl, h⟩]
  · rw [if_neg (fun z => h z.2)]; exact (hB.2 p (by omega)).symm
theorem y_tk {B : Nat → Nat} {ln sz : Nat} {p w : Nat} (h : p + sz ≤ ln) : c_tk B ln sz (p, 0, w) = (c_num B p sz, (p + sz, 0, w)) := by
  unfold c_tk; rw [if_pos rfl, if_pos h]
theorem y_tk' {B : Nat → Nat} {ln sz : Nat} {p w : Nat} (h : ¬ p + sz ≤ ln) : c_tk B ln sz (p, 0, w) = (0, (p, 2, ln)) := by
  unfold c_tk; rw [if_pos rfl, if_neg h]
theorem y_tk1 {B : Nat → Nat} {ln : Nat} {p w : Nat} (h : p < ln) : c_tk B ln 1 (p, 0, w) = (B p, (p + 1, 0, w)) := by rw [y_tk h, c_num_1]
theorem y_tk1' {B : Nat → Nat} {ln : Nat} {p w : Nat} (h : ¬ p < ln) : c_tk B ln 1 (p, 0, w) = (0, (p, 2, ln)) := y_tk' h
theorem y_num {B : Nat → Nat} {p q : Nat} (h : p ≤ q) : c_num B p (q + 1 - p) = c_num B p (q - p) * 256 + B q := by
  have e : q + 1 - p = (q - p) + 1 := by omega
  rw [e, c_num, show p + (q - p) = q from by omega]
theorem y_rf {B : Nat → Nat} {ln : Nat} (hB : v_B B ln) (rf : Bool) (p w : Nat) : c_rf B ln rf (p, 0, w) = (c_num B p (v_q B rf p - p), (v_q B rf p, 0, w)) := by
  unfold c_rf v_q
  rw [y_nb hB]
  by_cases h : rf = true ∧ (B p = 8 ∨ B p = 9)
  · rw [if_pos h, if_pos h, y_tk1 (hB.lt (by rcases h.2 with q | q <;> omega)), y_num (Nat.le_refl p), Nat.sub_self]
    show (B p, (p + 1, 0, w)) = (0 * 256 + B p, (p + 1, 0, w))
    rw [Nat.zero_mul, Nat.zero_add]
  · rw [if_neg h, if_neg h, Nat.sub_self]; rfl
theorem y_sev {B : Nat → Nat} {ln : Nat} (hB : v_B B ln) (p w : Nat) : ∀ n q, p ≤ q → c_sev B ln n (c_num B p (q - p)) (q, 0, w) = (c_num B p (v_sv B n q - p), (v_sv B n q, 0, w))
  | 0, _, _ => rfl
  | n + 1, q, h => by
    unfold c_sev v_sv
    rw [y_nb hB]
    by_cases e : B q = 7
    · rw [if_pos e, if_pos e, y_tk1 (hB.lt (by omega)), ← y_num h]
      exact y_sev hB p w n (q + 1) (by omega)
    · rw [if_neg e, if_neg e]
theorem y_ty {B : Nat → Nat} {ln : Nat} (hB : v_B B ln) (lu : Bool) (na : Nat) (rf : Bool) (p w : Nat) : c_ty B ln lu na rf (p, 0, w) = c_tt B ln lu na (c_num B p (v_k B rf p - p)) (v_k B rf p, 0, w) := by
  unfold c_ty
  rw [y_rf hB]
  dsimp only
  rw [y_sev hB p w 4 _ (v_q_ge B rf p)]
  rfl
/-- a good type, in either walk -/
theorem y_ty_ok {B : Nat → Nat} {ln : Nat} (hB : v_B B ln) (lu : Bool) (na : Nat) {rf : Bool} {p : Nat} (w : Nat) (h : v_T B ln rf p) : c_ty B ln lu na rf (p, 0, w) = (v_v B ln p, if lu = true ∧ B (m_tp B ln p) = 6 ∧ na ≤ B (m_te B ln p - 1) then (m_te B ln p, 7, m_te B ln p - 1) else (m_te B ln p, 0, w)) := by
  have hk := h.lt hB
  have hg := v_k_ge B rf p
  have h1 := h.1
  have h2 := h.2.1
  rw [y_ty hB, v_v, h.tp hB, h.te hB]
  generalize hkk : v_k B rf p = k at hk hg h1 h2 ⊢
  have h3 : B k = 6 → k + 2 ≤ ln := by rw [← hkk]; exact h.2.2
  have e2 : c_k2 B ln (k, 0, w) = (k + 1, 0, w) := by
    unfold c_k2; rw [y_tk1 hk]; dsimp only; rw [if_neg (by omega)]
  unfold c_tt
  rw [e2, y_tk1 hk]
  dsimp only
  by_cases e : B k = 6
  · rw [if_pos e, if_pos e, y_tk1 (show k + 1 < ln by have := h3 e; omega), ← y_num hg, show k + 2 - 1 = k + 1 from rfl, show k + 2 - p = (k + 1) + 1 - p from rfl, y_num (show p ≤ k + 1 by omega)]
    dsimp only
    by_cases z : lu = true ∧ na ≤ B (k + 1)
    · rw [if_pos z, if_pos ⟨z.1, e, z.2⟩]; rfl
    · rw [if_neg z, if_neg (fun y => z ⟨y.1, y.2.2⟩)]
  · rw [if_neg e, if_neg e, if_neg (fun y => e y.2.1), ← y_num hg]
theorem n2z : ¬ (2 : Nat) = 0 := by decide
theorem n4z : ¬ (4 : Nat) = 0 := by decide
theorem fnt (P : Prop) : ¬ (false = true ∧ P) := fun z => absurd z.1 (by decide)
theorem y_tt_tc {B : Nat → Nat} {ln : Nat} (na v k w : Nat) : (c_tt B ln false na v (k, 0, w)).2 = v_tc B ln k w := by
  by_cases hk : k < ln
  · have e2 : c_k2 B ln (k, 0, w) = if B k < 1 ∨ 6 < B k then (k + 1, 4, k) else (k + 1, 0, w) := by
      unfold c_k2; rw [y_tk1 hk]; rfl
    by_cases e : B k = 6
    · have e3 : c_k2 B ln (k, 0, w) = (k + 1, 0, w) := by rw [e2, if_neg (by omega)]
      have L : (c_tt B ln false na v (k, 0, w)).2 = (c_tk B ln 1 (k + 1, 0, w)).2 := by
        unfold c_tt; rw [y_tk1 hk]; dsimp only; rw [if_pos e, e3, if_neg (fnt _)]
      rw [L, v_tc, if_neg (show ¬ ln ≤ k by omega), if_neg (show ¬ (B k < 1 ∨ 6 < B k) by omega), if_pos e]
      by_cases z : k + 1 < ln
      · rw [y_tk1 z, if_pos (show k + 2 ≤ ln from z)]
      · rw [y_tk1' z, if_neg (show ¬ k + 2 ≤ ln from z)]
    · have L : (c_tt B ln false na v (k, 0, w)).2 = c_k2 B ln (k, 0, w) := by
        unfold c_tt; rw [y_tk1 hk]; dsimp only; rw [if_neg e]
      rw [L, e2, v_tc, if_neg (show ¬ ln ≤ k by omega), if_neg e]
  · have e2 : c_k2 B ln (k, 0, w) = (k, 2, ln) := by
      unfold c_k2; rw [y_tk1' hk]; rfl
    have L : (c_tt B ln false na v (k, 0, w)).2 = c_k2 B ln (k, 0, w) := by
      unfold c_tt; rw [y_tk1' hk]; dsimp only; rw [if_neg (by decide)]
    rw [L, e2, v_tc, if_pos (by omega)]
/-- any type, in the first walk -/
theorem y_ty_tc {B : Nat → Nat} {ln : Nat} (hB : v_B B ln) (na : Nat) (rf : Bool) (p w : Nat) : (c_ty B ln false na rf (p, 0, w)).2 = v_tc B ln (v_k B rf p) w := by
  rw [y_ty hB, y_tt_tc]
theorem z_ov {ln n p w : Nat} (h : p + n ≤ ln) : m_ov ln n (p, 0, w) = (p + n, 0, w) := by unfold m_ov; rw [if_pos h]
theorem z_ov' {ln n p w : Nat} (h : ¬ p + n ≤ ln) : m_ov ln n (p, 0, w) = (p, 2, ln) := by unfold m_ov; rw [if_neg h]; rfl
theorem z_sv {B : Nat → Nat} {ln : Nat} (hB : v_B B ln) (w : Nat) : ∀ n p, m_sv B ln n p (m_ov ln 1 (p, 0, w)) = (v_sv B n p, m_ov ln 1 (v_sv B n p, 0, w))
  | 0, _ => rfl
  | n + 1, p => by
    unfold m_sv v_sv
    by_cases e : B p = 7
    · have hp : p + 1 ≤ ln := hB.lt (by omega)
      rw [if_pos e, z_ov hp, if_pos ⟨rfl, e⟩]
      exact z_sv hB w n (p + 1)
    · rw [if_neg e, if_neg (fun z => e z.2)]
theorem z_tk {B : Nat → Nat} {ln : Nat} (k w : Nat) : m_tk B ln k (m_ov ln 1 (k, 0, w)) = v_tc B ln k w := by
  unfold m_tk v_tc
  by_cases hk : k < ln
  · rw [z_ov hk, if_neg (fun z => z rfl), if_neg (show ¬ ln ≤ k by omega)]
    by_cases e : B k < 1 ∨ 6 < B k
    · rw [if_pos e, if_pos e]; rfl
    · rw [if_neg e, if_neg e]
      by_cases z : B k = 6
      · rw [if_pos z, if_pos z]
        by_cases y : k + 2 ≤ ln
        · rw [if_pos y, z_ov (show k + 1 + 1 ≤ ln from y)]
        · rw [if_neg y, z_ov' (show ¬ k + 1 + 1 ≤ ln from y)]
      · rw [if_neg z, if_neg z]
  · rw [if_pos (show ln ≤ k by omega), z_ov' hk, if_pos n2z]
theorem z_ty {B : Nat → Nat} {ln : Nat} (hB : v_B B ln) (rf : Bool) {p : Nat} (hp : p ≤ ln) (w : Nat) : m_ty B ln rf (p, 0, w) = v_tc B ln (v_k B rf p) w := by
  unfold m_ty
  by_cases h : p < ln
  · have e1 : m_ov ln 1 (p, 0, w) = (p + 1, 0, w) := z_ov h
    rw [e1, if_neg (fun z => z rfl)]
    by_cases e : rf = true ∧ (B p = 8 ∨ B p = 9)
    · rw [if_pos e]
      unfold m_t2
      rw [z_sv hB w 4 (p + 1), z_tk, v_k, v_q, if_pos e]
    · rw [if_neg e, ← e1]
      unfold m_t2
      rw [z_sv hB w 4 p, z_tk, v_k, v_q, if_neg e]
  · have e : p = ln := by omega
    have e0 : B p = 0 := hB.2 p (by omega)
    rw [z_ov' h, if_pos n2z, v_k, v_q, if_neg (by omega)]
    have e1 : v_sv B 4 p = p := by unfold v_sv; rw [if_neg (by omega)]
    rw [e1, v_tc, if_pos (by omega)]
theorem v_tc_ok {B : Nat → Nat} {ln : Nat} (hB : v_B B ln) {rf : Bool} {p w : Nat} : (v_tc B ln (v_k B rf p) w).2.1 = 0 ↔ v_T B ln rf p := by
  unfold v_tc v_T
  generalize v_k B rf p = k
  by_cases h : ln ≤ k
  · rw [if_pos h]
    have := hB.2 k h
    constructor
    · intro z; exact absurd z n2z
    · intro z; omega
  · rw [if_neg h]
    by_cases e : B k < 1 ∨ 6 < B k
    · rw [if_pos e]
      constructor
      · intro z; exact absurd z n4z
      · intro z; omega
    · rw [if_neg e]
      by_cases e6 : B k = 6
      · rw [if_pos e6]
        by_cases y : k + 2 ≤ ln
        · rw [if_pos y]; exact ⟨fun _ => ⟨by omega, by omega, fun _ => y⟩, fun _ => rfl⟩
        · rw [if_neg y]
          constructor
          · intro z; exact absurd z n2z
          · intro z; exact absurd (z.2.2 e6) y
      · rw [if_neg e6]; exact ⟨fun _ => ⟨by omega, by omega, fun q => absurd q e6⟩, fun _ => rfl⟩
/-- the same fault, or the same place -/
def v_si (c d : c_Cu) : Prop := c.2.1 = d.2.1 ∧ (c.2.1 = 0 → c.1 = d.1) ∧ (¬ c.2.1 = 0 → c.2.2 = d.2.2)
theorem v_tc_si (B : Nat → Nat) (ln k w w' : Nat) : v_si (v_tc B ln k w) (v_tc B ln k w') := by
  unfold v_tc v_si
  split
  · exact ⟨rfl, fun _ => rfl, fun _ => rfl⟩
  · split
    · exact ⟨rfl, fun _ => rfl, fun _ => rfl⟩
    · split
      · split
        · exact ⟨rfl, fun _ => rfl, fun z => absurd rfl z⟩
        · exact ⟨rfl, fun _ => rfl, fun _ => rfl⟩
      · exact ⟨rfl, fun _ => rfl, fun z => absurd rfl z⟩
theorem y_ty_bad {B : Nat → Nat} {ln : Nat} (hB : v_B B ln) (na : Nat) {rf : Bool} {p : Nat} (hp : p ≤ ln) (w w' : Nat) (h : ¬ v_T B ln rf p) : v_si (c_ty B ln false na rf (p, 0, w)).2 (m_ty B ln rf (p, 0, w')) ∧ ¬ (c_ty B ln false na rf (p, 0, w)).2.2.1 = 0 := by
  rw [y_ty_tc hB, z_ty hB rf hp]
  exact ⟨v_tc_si B ln _ w w', fun z => h ((v_tc_ok hB).mp z)⟩
theorem z_ty_ok {B : Nat → Nat} {ln : Nat} (hB : v_B B ln) {rf : Bool} {p : Nat} (w : Nat) (h : v_T B ln rf p) : m_ty B ln rf (p, 0, w) = (m_te B ln p, 0, w) := by
  have h1 := h.lt hB
  have h2 := v_k_ge B rf p
  have h3 : (v_tc B ln (v_k B rf p) w) = (m_te B ln p, 0, w) := by
    have q1 := h.1
    have q2 := h.2.1
    unfold v_tc
    rw [if_neg (by omega), if_neg (by omega), h.te hB]
    by_cases e : B (v_k B rf p) = 6
    · rw [if_pos e, if_pos e, if_pos (h.2.2 e)]
    · rw [if_neg e, if_neg e]
  rw [z_ty hB rf (by omega), h3]
theorem v_v_lt {B : Nat → Nat} {ln : Nat} (hB : v_B B ln) {rf : Bool} {p : Nat} (h : v_T B ln rf p) : v_v B ln p < 2 ^ 56 := by
  have h1 := (h.le hB).2
  unfold v_v
  refine Nat.lt_of_lt_of_le (c_num_lt hB.1 p _) ?_
  calc 256 ^ (m_te B ln p - p) ≤ 256 ^ 7 := Nat.pow_le_pow_right (by decide) (by omega)
    _ = 2 ^ 56 := by decide
