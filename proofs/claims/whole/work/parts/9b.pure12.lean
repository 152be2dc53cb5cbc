/-! PURE: the reference's rows over a module; its look -/
theorem m_n9_of {J : Nat → Nat → Int32} {a : Nat} (h : J 29 9 = nI a) (ha : a < 2 ^ 31) : m_n9 J = a := by unfold m_n9; rw [h]; exact nI_clamp ha
def v_IA (J : Nat → Nat → Int32) (i : Nat) : Nat := (J 37 i).toNatClampNeg
theorem v_tn_le {B : Nat → Nat} {ln : Nat} (hB : v_B B ln) {rf : Bool} {n p : Nat} (hp : p ≤ ln) (h : v_Ts B ln rf n p) : ∀ j, j ≤ n → m_tn B ln j p ≤ ln
  | 0, _ => hp
  | j + 1, hj => by rw [m_tn_snoc]; exact ((v_Ts_at n p j h (by omega)).le hB).1
def w_M (B : Nat → Nat) (ln : Nat) (J : Nat → Nat → Int32) : Prop := m_N J (v_n B ln) ∧ m_P J 32 (v_n B ln 9 + v_n B ln 10) (v_SA B ln) ∧ m_P J 33 (v_n B ln 11) (v_CA B ln) ∧ m_P J 34 (v_n B ln 12) (v_EA B ln) ∧ m_P J 35 (v_n B ln 13) (v_FA B ln) ∧ m_FI J (v_n B ln 13) (v_FF B ln) (v_IA J) ∧ J 29 14 = nI (v_FF B ln (B (v_qN B ln))) ∧ ∀ f, f < B (v_qN B ln) → ∀ i, i < v_ct B ln (v_FA B ln f) → v_IA J (v_FF B ln f + i) = v_ip B (v_fa B ln (v_FA B ln f) + 2) i
theorem z_oA_ok {B : Nat → Nat} {ln : Nat} (hB : v_B B ln) (hln : ln ≤ 4096) {w : Nat} (hM : v_Mod B ln) (J : Nat → Nat → Int32) (h14 : J 29 14 = nI 0) :
    (m_oA B ln ((0, 0, w), J)).1 = (ln, 0, w) ∧ w_M B ln (m_oA B ln ((0, 0, w), J)).2 ∧ (∀ h, ¬ h = 29 → ¬ h = 32 → ¬ h = 33 → ¬ h = 34 → ¬ h = 35 → ¬ h = 36 → ¬ h = 37 → (m_oA B ln ((0, 0, w), J)).2 h = J h) ∧ ∀ k, k < 9 ∨ 14 < k → (m_oA B ln ((0, 0, w), J)).2 29 k = J 29 k := by
  obtain ⟨z0, z1, z2, z3, z4, z5, z6⟩ := hM
  have b6 := z1.2.1
  have bF := z2.2.1
  have bC := z3.2.1
  have bE : B (v_qE B ln) ≤ 32 := z4.2.2.1
  have bNN := z5.2.1
  obtain ⟨-, a2⟩ := (v_G_hd (B := B) (ln := ln)).1 w z0
  have e2 : m_oA B ln ((0, 0, w), J) = m_p6 ln (m_pN B ln (m_pE B ln (m_pC B ln (m_pF B ln (m_pS B ln ((6, 0, w), J)))))) := by
    have e : m_oA B ln ((0, 0, w), J) = m_p6 ln (m_pN B ln (m_pE B ln (m_pC B ln (m_pF B ln (m_pS B ln (m_go ln 2 (m_mt B ln 4 (0, 0, w)), J)))))) := rfl
    rw [e, a2]
  rw [e2]
  -- where things stand is in the tape
  have lS : ∀ k, k ≤ B 6 → v_pS B ln 7 k ≤ ln := fun k hk => v_pS_le hB (show 7 ≤ ln from z1.1) k (fun j hj => z1.2.2 j (by omega))
  have lF : ∀ k, k < B (v_qF B ln) → v_qF B ln + 1 + 4 * k ≤ ln := fun k hk => by have := (z2.2.2 k hk).1; omega
  have lC : ∀ k, k ≤ B (v_qC B ln) → v_pC B ln (v_qC B ln + 1) k ≤ ln := fun k hk => v_pC_le hB z3.1 k (fun j hj => z3.2.2 j (by omega))
  have lE : ∀ k, k ≤ B (v_qE B ln) → m_tn B ln k (v_qE B ln + 1) ≤ ln := v_tn_le hB z4.1 z4.2.2.2
  have lN : ∀ k, k ≤ B (v_qN B ln) → v_pN B ln (v_qN B ln + 1) k ≤ ln := fun k hk => v_pN_le z5.1 k (fun j hj => z5.2.2 j (by omega))
  obtain ⟨p1, p2, p3⟩ := z_pS_ok hB (w := w) z1 J
  generalize m_pS B ln ((6, 0, w), J) = Z1 at p1 p2 p3 ⊢
  have p1' : Z1.1 = (v_qF B ln, 0, w) := p1
  rw [Z_eta p1']
  have e9 : m_n9 Z1.2 = B 6 := m_n9_of (by rw [p2 29 (by decide), ct_u2_get, if_pos ⟨rfl, rfl⟩]) (by omega)
  obtain ⟨q1, q2, q3, q4⟩ := z_pF_ok (w := w) z2 Z1.2
  rw [e9] at q3 q4
  generalize m_pF B ln ((v_qF B ln, 0, w), Z1.2) = Z2 at q1 q2 q3 q4 ⊢
  have q1' : Z2.1 = (v_qC B ln, 0, w) := q1
  rw [Z_eta q1']
  obtain ⟨r1, r2, r3⟩ := z_pC_ok hB (w := w) z3 Z2.2
  generalize m_pC B ln ((v_qC B ln, 0, w), Z2.2) = Z3 at r1 r2 r3 ⊢
  have r1' : Z3.1 = (v_qE B ln, 0, w) := r1
  rw [Z_eta r1']
  obtain ⟨s1, s2, s3⟩ := z_pE_ok hB (w := w) z4 Z3.2
  generalize m_pE B ln ((v_qE B ln, 0, w), Z3.2) = Z4 at s1 s2 s3 ⊢
  have s1' : Z4.1 = (v_qN B ln, 0, w) := s1
  rw [Z_eta s1']
  have t29 : ∀ k, Z4.2 29 k = if k = 12 then nI (B (v_qE B ln)) else if k = 11 then nI (B (v_qC B ln)) else if k = 10 then nI (B (v_qF B ln)) else if k = 9 then nI (B 6) else J 29 k := by
    intro k
    have u := fun x : Nat => x
    rw [s2 29 (by decide), ct_u2_get, r2 29 (by decide), ct_u2_get, q2 29 (by decide), ct_u2_get, p2 29 (by decide), ct_u2_get]
    simp only [true_and]
  have k14 : Z4.2 29 14 = nI 0 := by rw [t29]; exact h14
  obtain ⟨u1, ⟨u2, u2'⟩, u3, u4⟩ := z_pN_ok hB (w := w) z5 Z4.2 k14
  generalize m_pN B ln ((v_qN B ln, 0, w), Z4.2) = Z5 at u1 u2 u3 u4 ⊢
  have u1' : Z5.1 = (ln, 0, w) := by rw [u1]; show (v_end B ln, 0, w) = _; rw [z6]
  have e6 : m_p6 ln Z5 = Z5 := by unfold m_p6; rw [u1', if_neg (fun z => absurd z.2 (by show ¬ ln < ln; omega))]
  rw [e6]
  have o29 : ∀ k, ¬ k = 14 → Z5.2 29 k = if k = 13 then nI (B (v_qN B ln)) else Z4.2 29 k := by
    intro k hk
    rw [u3 29 k (by decide) (by decide) (by decide) (by omega), ct_u2_get]
    simp only [true_and]
  have oo : ∀ h, ¬ h = 29 → ¬ h = 35 → ¬ h = 36 → ¬ h = 37 → Z5.2 h = Z4.2 h := fun h v1 v2 v3 v4 => by
    funext x; rw [u3 h x v2 v3 v4 (by omega), ct_u2_get, if_neg (by omega)]
  have o32 : Z5.2 32 = Z2.2 32 := by
    rw [oo 32 (by decide) (by decide) (by decide) (by decide), s2 32 (by decide)]; funext x; rw [ct_u2_get, if_neg (by omega), r2 32 (by decide), ct_u2_get, if_neg (by omega)]
  have o33 : Z5.2 33 = Z3.2 33 := by
    rw [oo 33 (by decide) (by decide) (by decide) (by decide), s2 33 (by decide)]; funext x; rw [ct_u2_get, if_neg (by omega)]
  refine ⟨u1', ⟨⟨?_, b6, bF, bC, bE, bNN⟩, ?_, ?_, ?_, ?_, ?_, u2, ?_⟩, ?_, ?_⟩
  · intro k h1 h2
    have hk : k = 9 ∨ k = 10 ∨ k = 11 ∨ k = 12 ∨ k = 13 := by omega
    rw [o29 k (by omega), t29 k]
    rcases hk with e | e | e | e | e <;> subst e <;> rfl
  · intro k hk
    have hk' : k < B 6 + B (v_qF B ln) := hk
    rw [o32]
    unfold v_SA
    by_cases y : k < B 6
    · rw [if_pos y, q3 k y, ct_u2_get, if_neg (by omega), p3 k y]
      exact ⟨rfl, by have := lS k (by omega); omega⟩
    · rw [if_neg y]
      have := q4 (k - B 6) (by omega)
      rw [show B 6 + (k - B 6) = k from by omega] at this
      exact ⟨this, by have := lF (k - B 6) (by omega); omega⟩
  · intro k hk
    have hk' : k < B (v_qC B ln) := hk
    rw [o33]
    exact ⟨r3 k hk', by have := lC k (by omega); show v_pC B ln (v_qC B ln + 1) k < 65536; omega⟩
  · intro k hk
    have hk' : k < B (v_qE B ln) := hk
    rw [oo 34 (by decide) (by decide) (by decide) (by decide)]
    exact ⟨s3 k hk', by have := lE k (by omega); show m_tn B ln k (v_qE B ln + 1) < 65536; omega⟩
  · intro k hk
    have hk' : k < B (v_qN B ln) := hk
    exact ⟨(u4 k hk').1, by have := lN k (by omega); show v_pN B ln (v_qN B ln + 1) k < 65536; omega⟩
  · intro f hf
    have hf' : f < B (v_qN B ln) := hf
    obtain ⟨g1, g2, g3, g4⟩ := u4 f hf'
    have hle : v_FF B ln (f + 1) ≤ 8192 := Nat.le_trans (v_FI_le B ln (v_qN B ln + 1) (show f + 1 ≤ B (v_qN B ln) by omega)) u2'
    have hst : v_FF B ln (f + 1) = v_FF B ln f + v_ct B ln (v_FA B ln f) := rfl
    refine ⟨g2, g3, by omega, hle, fun i h1 h2 => ?_⟩
    have h3 := g4 (i - v_FF B ln f) (by show i - v_FF B ln f < v_ct B ln (v_FA B ln f); omega)
    have h4 : v_FI B ln (v_qN B ln + 1) f + (i - v_FF B ln f) = i := by show v_FF B ln f + (i - v_FF B ln f) = i; omega
    rw [h4] at h3
    have h5 : v_ip B (v_fa B ln (v_pN B ln (v_qN B ln + 1) f) + 2) (i - v_FF B ln f) < ln := ((z5.2.2 f hf').2.2 (i - v_FF B ln f) (by show i - v_FF B ln f < v_ct B ln (v_FA B ln f); omega)).1
    have h6 : v_IA Z5.2 i = v_ip B (v_fa B ln (v_pN B ln (v_qN B ln + 1) f) + 2) (i - v_FF B ln f) := by unfold v_IA; rw [h3]; exact nI_clamp (by omega)
    rw [h6]
    exact ⟨h3, by omega⟩
  · intro f hf i hi
    obtain ⟨g1, g2, g3, g4⟩ := u4 f hf
    have h3 := g4 i hi
    have h5 : v_ip B (v_fa B ln (v_pN B ln (v_qN B ln + 1) f) + 2) i < ln := ((z5.2.2 f hf).2.2 i hi).1
    show (Z5.2 37 (v_FI B ln (v_qN B ln + 1) f + i)).toNatClampNeg = _
    rw [h3]; exact nI_clamp (by omega)
  · intro h v1 v2 v3 v4 v5 v6 v7
    rw [oo h v1 v5 v6 v7, s2 h v4]
    funext x
    rw [ct_u2_get, if_neg (by omega), r2 h v3, ct_u2_get, if_neg (by omega), q2 h v2, ct_u2_get, if_neg (by omega), p2 h v2, ct_u2_get, if_neg (by omega)]
  · intro k hk
    rw [o29 k (by omega), if_neg (by omega), t29 k, if_neg (by omega), if_neg (by omega), if_neg (by omega), if_neg (by omega)]
theorem m_l4_eq {B : Nat → Nat} {ln : Nat} {J : Nat → Nat → Int32} (hW : w_M B ln J) {f : Nat} (hf : f < B (v_qN B ln)) : m_l4 B ln (v_n B ln) (v_SA B ln) (v_FA B ln) (v_FF B ln) (v_IA J) f = v_lkN B ln (B 6 + B (v_qF B ln)) (v_n B ln) (v_SA B ln) (v_FA B ln f) := by
  funext d
  unfold m_l4 v_lkN
  have hst : v_FF B ln (f + 1) - v_FF B ln f = v_ct B ln (v_FA B ln f) := by show v_FF B ln f + v_ct B ln (v_FA B ln f) - v_FF B ln f = _; omega
  rw [hst]
  refine (m_cl_shift (fun i => m_ins B (v_n B ln) (v_SA B ln) (m_lcs B ln (v_FA B ln f + 1)) (v_ct B ln (v_FA B ln f)) (v_IA J i)) (v_FF B ln f) (v_ct B ln (v_FA B ln f)) 0 _).trans ?_
  refine m_cl_cong _ _ _ (fun i _ hi => ?_)
  rw [hW.2.2.2.2.2.2.2 f hf i (by omega)]
theorem m_lA_eq {B : Nat → Nat} {ln : Nat} {J : Nat → Nat → Int32} (hW : w_M B ln J) (d : c_Cu) : m_lA B ln (v_n B ln) (v_SA B ln) (v_CA B ln) (v_EA B ln) (v_FA B ln) (v_FF B ln) (v_IA J) d = v_lA B ln d := by
  unfold m_lA v_lA
  have e1 : m_cl (m_l1 B ln (v_n B ln 9 + v_n B ln 10) (v_SA B ln)) (v_n B ln 9) 0 d = m_cl (m_l1 B ln (B 6 + B (v_qF B ln)) (v_pS B ln 7)) (B 6) 0 d := by
    refine m_cl_cong _ _ _ (fun i _ hi => ?_)
    funext c
    have hi' : i < B 6 := by have : v_n B ln 9 = B 6 := rfl; omega
    unfold m_l1 v_SA
    rw [if_pos hi']; rfl
  rw [e1]
  exact m_cl_cong _ _ _ (fun f _ hf => m_l4_eq hW (by have : v_n B ln 13 = B (v_qN B ln) := rfl; omega))
