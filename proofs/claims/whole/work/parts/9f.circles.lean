/-! PURE: circles in the class's rows and in the reference's -/
def g_c1 (B : Nat → Nat) (ln n1 p j : Nat) : Bool := decide (B (m_tp B ln p) = 6 ∧ B (m_te B ln p - 1) < n1 ∧ B (m_te B ln p - 1) = j)
def g_eT (B : Nat → Nat) (ln n1 : Nat) : Nat → Nat → Nat → Bool
  | 0, _, _ => false
  | n + 1, p, j => g_c1 B ln n1 p j || g_eT B ln n1 n (m_te B ln p) j
def g_e (B : Nat → Nat) (ln n1 : Nat) (SA : Nat → Nat) (k j : Nat) : Bool := g_eT B ln n1 (B (SA k + 1)) (SA k + 2) j
theorem m_R1_eq (B : Nat → Nat) (ln n1 p : Nat) (R : Nat → Bool) (j : Nat) : m_R1 B ln n1 p R j = (R j || g_c1 B ln n1 p j) := by
  unfold m_R1 g_c1
  by_cases h : B (m_tp B ln p) = 6 ∧ B (m_te B ln p - 1) < n1
  · rw [if_pos h]
    by_cases q : j = B (m_te B ln p - 1)
    · rw [if_pos q, decide_eq_true ⟨h.1, h.2, q.symm⟩]; cases R j <;> rfl
    · rw [if_neg q, decide_eq_false (fun z => q z.2.2.symm)]; cases R j <;> rfl
  · rw [if_neg h, decide_eq_false (fun z => h ⟨z.1, z.2.1⟩)]; cases R j <;> rfl
theorem m_Rn_eq (B : Nat → Nat) (ln n1 : Nat) : ∀ (n p : Nat) (R : Nat → Bool) (j : Nat), m_Rn B ln n1 n p R j = (R j || g_eT B ln n1 n p j)
  | 0, _, R, j => by rw [m_Rn, g_eT]; cases R j <;> rfl
  | n + 1, p, R, j => by rw [m_Rn, m_Rn_eq B ln n1 n, m_R1_eq, g_eT, Bool.or_assoc]
theorem m_Rk_eq (B : Nat → Nat) (ln n1 : Nat) (SA : Nat → Nat) (k : Nat) (R : Nat → Bool) : m_Rk B ln n1 SA k R = g_Rk (g_e B ln n1 SA) k R := by
  funext j; unfold m_Rk g_Rk g_e; exact m_Rn_eq B ln n1 _ _ R j
theorem m_Ri_eq (B : Nat → Nat) (ln n1 : Nat) (SA : Nat → Nat) : ∀ (n s : Nat) (R : Nat → Bool), m_Ri B ln n1 SA n s R = g_Ri (g_e B ln n1 SA) n s R
  | 0, _, _ => rfl
  | n + 1, s, R => by rw [m_Ri, g_Ri, m_Rk_eq, m_Ri_eq B ln n1 SA n]
theorem m_Rt_eq (B : Nat → Nat) (ln n1 : Nat) (SA : Nat → Nat) : ∀ (n : Nat) (R : Nat → Bool), m_Rt B ln n1 SA n R = g_Rt (g_e B ln n1 SA) n1 n R
  | 0, _ => rfl
  | n + 1, R => by rw [m_Rt, g_Rt, m_Ri_eq, m_Rt_eq B ln n1 SA n]
theorem m_rd_tc {B : Nat → Nat} {ln n1 : Nat} {SA : Nat → Nat} {k : Nat} (hk : k < n1) : m_rd B ln n1 SA k = true ↔ g_tc n1 (g_e B ln n1 SA) k k := by
  unfold m_rd; rw [m_Rt_eq, m_Rk_eq]; exact g_rd hk
theorem g_tc_cong {n : Nat} {e e' : Nat → Nat → Bool} (h : ∀ k j, k < n → j < n → e k j = e' k j) {k j : Nat} (hk : k < n) (hc : g_tc n e k j) : g_tc n e' k j :=
  g_tc.ind (P := fun k j => k < n → g_tc n e' k j) (fun k j a b hk => .one a (by rw [← h k j hk a]; exact b)) (fun k m j a b _ ih hk => .more a (by rw [← h k m hk a]; exact b) (ih a)) hc hk
/-- the class's row -/
theorem c_v1_bt {w k : Nat} (hw : w < 32) (f : Nat → Int32) (a j : Nat) : bt (c_v1 w k f a) j = g_v1 w k (fun a j => bt (f a) j) a j := by
  have hb : (((f k).toUInt32 >>> ((nI w).toUInt32 &&& Int32.toUInt32 31)).toInt32 &&& 1 = 0) ↔ bt (f k) w = false := by
    constructor
    · intro h
      have := congrArg (fun x : Int32 => bt x 0) h
      rw [b_and, b_ushr w hw, b_0] at this
      have b1 : bt 1 0 = true := by decide
      rw [b1, Nat.add_zero, Bool.and_true] at this
      exact this
    · intro h
      apply b_ext
      intro i hi
      rw [b_and, b_ushr w hw, b_0]
      by_cases q : i = 0
      · subst q; rw [Nat.add_zero, h]; rfl
      · have : bt 1 i = false := by
          have key : ∀ i, i < 32 → ¬ i = 0 → bt 1 i = false := by decide
          exact key i hi q
        rw [this, Bool.and_false]
  unfold c_v1 g_v1
  by_cases c : ((f k).toUInt32 >>> ((nI w).toUInt32 &&& Int32.toUInt32 31)).toInt32 &&& 1 = 0
  · rw [if_pos c]
    have := hb.mp c
    dsimp only
    rw [this]
    by_cases q : a = k
    · rw [if_pos q, q]; cases bt (f k) j <;> rfl
    · rw [if_neg q]
  · rw [if_neg c]
    have : bt (f k) w = true := by cases h : bt (f k) w; exact absurd (hb.mpr h) c; rfl
    dsimp only
    rw [this]
    by_cases q : a = k
    · rw [if_pos q, if_pos q, b_or]; cases bt (f k) j <;> rfl
    · rw [if_neg q, if_neg q]
theorem c_vI_bt {w : Nat} (hw : w < 32) : ∀ (n k : Nat) (f : Nat → Int32), (fun a j => bt (c_vI w n k f a) j) = g_vI w n k (fun a j => bt (f a) j)
  | 0, _, _ => rfl
  | n + 1, k, f => by
    rw [c_vI, g_vI, c_vI_bt hw n (k + 1)]
    congr 1
    funext a j; exact c_v1_bt hw f a j
theorem c_vO_bt {cnt : Nat} (hc : cnt ≤ 32) : ∀ (n w : Nat) (f : Nat → Int32), w + n ≤ cnt → (fun a j => bt (c_vO cnt n w f a) j) = g_vO cnt n w (fun a j => bt (f a) j)
  | 0, _, _, _ => rfl
  | n + 1, w, f, h => by rw [c_vO, g_vO, c_vO_bt hc n (w + 1) _ (by omega), c_vI_bt (by omega)]
theorem c_bit {x : Int32} {k : Nat} (hk : k < 32) : ((x.toUInt32 >>> ((nI k).toUInt32 &&& Int32.toUInt32 31)).toInt32 &&& 1 = 0) ↔ bt x k = false := by
  have e := c_v1_bt (w := k) (k := 0) hk (fun _ => x) 0 k
  rw [nf_bit x k hk]
  constructor
  · intro h
    have := congrArg (fun z : Int32 => bt z k) h
    rw [b_and, b_shl k hk 1 hk, b_0, Nat.sub_self] at this
    have b1 : bt 1 0 = true := by decide
    rw [b1, decide_eq_true (Nat.le_refl k), Bool.and_true, Bool.and_true] at this
    exact this
  · intro h
    apply b_ext
    intro i hi
    rw [b_and, b_shl k hk 1 hi, b_0]
    by_cases q : i = k
    · rw [q, h]; rfl
    · by_cases z : k ≤ i
      · have : bt 1 (i - k) = false := by
          have key : ∀ i, i < 32 → ¬ i = 0 → bt 1 i = false := by decide
          exact key _ (by omega) (by omega)
        rw [this, Bool.and_false, Bool.and_false]
      · rw [decide_eq_false z, Bool.false_and, Bool.and_false]
/-- a field's number: its last two bytes -/
theorem v_v_tail {B : Nat → Nat} {ln : Nat} (hB : v_B B ln) {p : Nat} (h : v_T B ln false p) : (v_v B ln p / 256 % 256 = 6 ↔ B (m_tp B ln p) = 6) ∧ (B (m_tp B ln p) = 6 → v_v B ln p % 256 = B (m_te B ln p - 1)) := by
  have hk := h.lt hB
  have hg := v_k_ge B false p
  have h1 := h.1
  have h2 := h.2.1
  have hin : ∀ j, p ≤ j → j < v_k B false p → B j = 7 := by
    intro j q1 q2
    have e : v_q B false p = p := by unfold v_q; rw [if_neg (fun z => absurd z.1 (by decide))]
    unfold v_k at q2
    rw [e] at q2
    exact v_sv_in B 4 p j q1 q2
  unfold v_v
  rw [h.tp hB, h.te hB]
  generalize v_k B false p = k at hk hg h1 h2 hin ⊢
  have b0 := hB.1 k
  by_cases e : B k = 6
  · rw [if_pos e, show k + 2 - p = (k + 1) + 1 - p from rfl, y_num (show p ≤ k + 1 by omega), y_num hg, e]
    have b1 := hB.1 (k + 1)
    refine ⟨⟨fun _ => rfl, fun _ => ?_⟩, fun _ => ?_⟩
    · omega
    · show ((c_num B p (k - p) * 256 + 6) * 256 + B (k + 1)) % 256 = B (k + 1); omega
  · rw [if_neg e, y_num hg]
    refine ⟨⟨fun q => ?_, fun q => absurd q e⟩, fun q => absurd q e⟩
    have q1 : (c_num B p (k - p) * 256 + B k) / 256 % 256 = c_num B p (k - p) % 256 := by omega
    rw [q1] at q
    by_cases z : k = p
    · rw [z, Nat.sub_self] at q; exact absurd (show 0 % 256 = 6 from q) (by decide)
    · have e2 : k - p = (k - 1) + 1 - p := by omega
      rw [e2, y_num (show p ≤ k - 1 by omega), hin (k - 1) (by omega) (by omega)] at q
      omega
theorem bt_sh {s j : Nat} (hs : s < 32) (hj : j < 32) : bt ((1 : Int32) <<< (nI s &&& 31)) j = decide (s = j) := by
  rw [b_shl s hs 1 hj]
  by_cases q : s = j
  · rw [q, Nat.sub_self, decide_eq_true (Nat.le_refl j), decide_eq_true rfl]; decide
  · rw [decide_eq_false q]
    by_cases z : s ≤ j
    · have key : ∀ i, i < 32 → ¬ i = 0 → bt 1 i = false := by decide
      rw [key (j - s) (by omega) (by omega), Bool.and_false]
    · rw [decide_eq_false z, Bool.false_and]
theorem g_eT_snoc (B : Nat → Nat) (ln n1 : Nat) : ∀ (n p j : Nat), g_eT B ln n1 (n + 1) p j = (g_eT B ln n1 n p j || g_c1 B ln n1 (m_tn B ln n p) j)
  | 0, p, j => by rw [g_eT, g_eT, g_eT, m_tn]; cases g_c1 B ln n1 p j <;> rfl
  | n + 1, p, j => by rw [g_eT, g_eT_snoc B ln n1 n (m_te B ln p) j, g_eT, Bool.or_assoc]; rfl
theorem c_sb_bt {B : Nat → Nat} {ln n1 : Nat} (hB : v_B B ln) (h32 : n1 ≤ 32) {p : Nat} : ∀ (n : Nat), (∀ i, i < n → v_T B ln false (m_tn B ln i p)) → ∀ j, j < 32 → bt (c_sb (fun i => v_v B ln (m_tn B ln i p)) n1 n) j = g_eT B ln n1 n p j
  | 0, _, j, _ => b_0 j
  | n + 1, h, j, hj => by
    rw [g_eT_snoc, ← c_sb_bt hB h32 n (fun i hi => h i (by omega)) j hj]
    obtain ⟨t1, t2⟩ := v_v_tail hB (h n (by omega))
    rw [c_sb]
    by_cases q : v_v B ln (m_tn B ln n p) / 256 % 256 = 6 ∧ v_v B ln (m_tn B ln n p) % 256 < n1
    · have t3 := t1.mp q.1
      have t4 := t2 t3
      rw [if_pos q, b_or, bt_sh (by omega) hj, t4]
      congr 1
      unfold g_c1
      by_cases z : B (m_te B ln (m_tn B ln n p) - 1) = j
      · rw [decide_eq_true z, decide_eq_true ⟨t3, by rw [← t4]; exact q.2, z⟩]
      · rw [decide_eq_false z, decide_eq_false (fun y => z y.2.2)]
    · rw [if_neg q]
      have : g_c1 B ln n1 (m_tn B ln n p) j = false := by
        unfold g_c1
        refine decide_eq_false (fun z => q ⟨t1.mpr z.1, ?_⟩)
        rw [t2 z.1]; exact z.2.1
      rw [this, Bool.or_false]
/-- both find the same circle -/
theorem g_circle {B : Nat → Nat} {ln n1 : Nat} (hB : v_B B ln) (h32 : n1 ≤ 32) {SA : Nat → Nat} (hv : ∀ k, k < n1 → v_S B ln (SA k)) {f : Nat → Int32} (hf : ∀ k, k < n1 → f k = c_sb (fun i => v_v B ln (m_tn B ln i (SA k + 2))) n1 (B (SA k + 1))) {k : Nat} (hk : k < n1) :
    ((((c_vO n1 n1 0 f) k).toUInt32 >>> ((nI k).toUInt32 &&& Int32.toUInt32 31)).toInt32 &&& 1 = 0) ↔ ¬ m_rd B ln n1 SA k = true := by
  rw [c_bit (by omega), m_rd_tc hk]
  have e1 : bt (c_vO n1 n1 0 f k) k = g_vO n1 n1 0 (fun a j => bt (f a) j) k k := congrFun (congrFun (c_vO_bt h32 n1 0 f (by omega)) k) k
  have e2 := g_vO_tc (cnt := n1) (e := fun a j => bt (f a) j) hk hk
  have e3 : ∀ a j, a < n1 → j < n1 → (fun a j => bt (f a) j) a j = g_e B ln n1 SA a j := by
    intro a j ha hj
    show bt (f a) j = _
    rw [hf a ha]
    unfold g_e
    exact c_sb_bt hB h32 _ (fun i hi => v_Ts_at _ _ i (hv a ha).2.2.2.2.2 hi) j (by omega)
  have e4 : g_tc n1 (fun a j => bt (f a) j) k k ↔ g_tc n1 (g_e B ln n1 SA) k k := ⟨g_tc_cong e3 hk, g_tc_cong (fun a j ha hj => (e3 a j ha hj).symm) hk⟩
  rw [e1, ← e4, ← e2]
  cases g_vO n1 n1 0 (fun a j => bt (f a) j) k k <;> simp
theorem c_cc_bad {f : Nat → Int32} {ab : Nat → Nat} : ∀ (n k : Nat) {c : c_Cu}, ¬ c.2.1 = 0 → c_cc f ab n k c = c
  | 0, _, _, _ => rfl
  | n + 1, k, c, h => by
    rw [c_cc, c_fl_bad h]
    split <;> exact c_cc_bad n (k + 1) h
theorem g_cc {B : Nat → Nat} {ln n1 : Nat} (hB : v_B B ln) (h32 : n1 ≤ 32) {SA : Nat → Nat} (hv : ∀ k, k < n1 → v_S B ln (SA k)) {f : Nat → Int32} (hf : ∀ k, k < n1 → f k = c_sb (fun i => v_v B ln (m_tn B ln i (SA k + 2))) n1 (B (SA k + 1))) : ∀ (n k : Nat) (c : c_Cu), k + n = n1 → c_cc (c_vO n1 n1 0 f) SA n k c = m_cl (z_ci B ln n1 SA) n k c := by
  intro n
  induction n with
  | zero => intro k c _; rfl
  | succ n ih =>
    intro k c hk
    by_cases z : c.2.1 = 0
    · rw [c_cc, m_cl, if_pos z, ih (k + 1) _ (by omega)]
      congr 1
      have := g_circle hB h32 hv hf (show k < n1 by omega)
      unfold z_ci
      by_cases y : m_rd B ln n1 SA k = true
      · rw [if_pos y, if_neg (fun x => this.mp x y)]
      · rw [if_neg y, if_pos (this.mpr y)]
    · rw [c_cc_bad _ _ z, m_cl_bad z]
