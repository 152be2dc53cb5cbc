/-! PURE: the tables written again are the tape -/
def sg (B : Nat → Nat) (p q : Nat) : List Nat := (List.range (q - p)).map fun i => B (p + i)
theorem sg_len (B : Nat → Nat) (p q : Nat) : (sg B p q).length = q - p := by simp [sg]
theorem sg_nil (B : Nat → Nat) (p : Nat) : sg B p p = [] := by simp [sg]
theorem sg_app (B : Nat → Nat) {p q r : Nat} (h1 : p ≤ q) (h2 : q ≤ r) : sg B p q ++ sg B q r = sg B p r := by
  unfold sg
  have e : r - p = (q - p) + (r - q) := by omega
  rw [e, List.range_add, List.map_append, List.map_map]
  congr 1
  apply List.map_congr_left
  intro i _
  show B (q + i) = B (p + (q - p + i))
  congr 1; omega
theorem c_num_div {B : Nat → Nat} (hB : ∀ j, B j < 256) (p : Nat) : ∀ b a, c_num B p (a + b) / 256 ^ b = c_num B p a
  | 0, a => by rw [Nat.pow_zero, Nat.div_one]; rfl
  | b + 1, a => by
    have h := c_num_div hB p b a
    have e : c_num B p (a + (b + 1)) = c_num B p (a + b) * 256 + B (p + (a + b)) := rfl
    have hb := hB (p + (a + b))
    rw [e, Nat.pow_succ, Nat.mul_comm (256 ^ b) 256, ← Nat.div_div_eq_div_mul, show (c_num B p (a + b) * 256 + B (p + (a + b))) / 256 = c_num B p (a + b) from by omega, h]
theorem c_be_num {B : Nat → Nat} (hB : ∀ j, B j < 256) (p sz : Nat) : c_be (c_num B p sz) sz = sg B p (p + sz) := by
  unfold c_be sg
  rw [show p + sz - p = sz from by omega]
  apply List.map_congr_left
  intro i hi
  have hi' : i < sz := List.mem_range.mp hi
  have e1 : (2 : Nat) ^ (8 * (sz - 1 - i)) = 256 ^ (sz - 1 - i) := by rw [Nat.pow_mul]
  have e2 : sz = (i + 1) + (sz - 1 - i) := by omega
  have h := c_num_div hB p (sz - 1 - i) (i + 1)
  rw [← e2] at h
  rw [e1, h]
  show (c_num B p i * 256 + B (p + i)) % 256 = B (p + i)
  have := hB (p + i)
  omega
theorem c_be_1 {B : Nat → Nat} (hB : ∀ j, B j < 256) (p : Nat) : c_be (B p) 1 = sg B p (p + 1) := by
  have := c_be_num hB p 1
  rw [c_num_1] at this
  exact this
theorem c_num_ge {B : Nat → Nat} {p : Nat} (h : 1 ≤ B p) : ∀ n, 256 ^ n ≤ c_num B p (n + 1)
  | 0 => by rw [Nat.pow_zero, c_num_1]; exact h
  | n + 1 => by
    have := c_num_ge h n
    rw [Nat.pow_succ]
    show 256 ^ n * 256 ≤ c_num B p (n + 1) * 256 + B (p + (n + 1))
    omega
theorem c_tsz_eq (X : Nat) {m : Nat} (hlo : 256 ^ (m - 1) ≤ X) (hhi : X < 256 ^ m) : ∀ (n s : Nat), 1 ≤ s → s ≤ m → m ≤ s + n → c_tsz X n s = m
  | 0, s, h1, h2, h3 => by unfold c_tsz; omega
  | n + 1, s, h1, h2, h3 => by
    unfold c_tsz
    have e8 : (2 : Nat) ^ (8 * s) = 256 ^ s := by rw [Nat.pow_mul]
    rw [e8]
    by_cases q : s = m
    · subst q
      have : X / 256 ^ s = 0 := Nat.div_eq_of_lt hhi
      first
        | (rw [if_pos this])
        | (rw [if_neg (fun z => z this)])
    · have hx : 256 ^ s ≤ X := Nat.le_trans (Nat.pow_le_pow_right (by decide) (by omega)) hlo
      have : ¬ X / 256 ^ s = 0 := by
        have := Nat.div_pos hx (Nat.pow_pos (by decide))
        omega
      first
        | (rw [if_neg this]; exact c_tsz_eq X hlo hhi n (s + 1) (by omega) (by omega) (by omega))
        | (rw [if_pos this]; exact c_tsz_eq X hlo hhi n (s + 1) (by omega) (by omega) (by omega))
theorem v_T.first {B : Nat → Nat} {ln : Nat} {rf : Bool} {p : Nat} (h : v_T B ln rf p) : 1 ≤ B p := by
  by_cases q : p = v_k B rf p
  · rw [q]; exact h.1
  · have := v_k_in B rf p p (Nat.le_refl _) (by have := v_k_ge B rf p; omega)
    omega
theorem c_tyb_v {B : Nat → Nat} {ln : Nat} (hB : v_B B ln) {rf : Bool} {p : Nat} (h : v_T B ln rf p) : c_tyb (v_v B ln p) = sg B p (m_te B ln p) := by
  have h1 := (h.le hB).2
  have h2 := m_te_gt B ln p
  unfold c_tyb v_v
  have hm : ∃ m, m_te B ln p - p = m + 1 := ⟨m_te B ln p - p - 1, by omega⟩
  obtain ⟨m, hm⟩ := hm
  have hsz : c_tsz (c_num B p (m_te B ln p - p)) 7 1 = m_te B ln p - p := by
    refine c_tsz_eq _ ?_ (c_num_lt hB.1 p _) 7 1 (Nat.le_refl _) (by omega) (by omega)
    rw [hm]; exact c_num_ge h.first m
  rw [hsz, c_be_num hB.1, show p + (m_te B ln p - p) = m_te B ln p from by omega]
theorem cat_sg {B : Nat → Nat} {f : Nat → List Nat} {pos : Nat → Nat} : ∀ n, (∀ k, k < n → f k = sg B (pos k) (pos (k + 1)) ∧ pos k ≤ pos (k + 1)) → c_cat f n = sg B (pos 0) (pos n) ∧ pos 0 ≤ pos n
  | 0, _ => ⟨(sg_nil B _).symm, Nat.le_refl _⟩
  | n + 1, h => by
    obtain ⟨a1, a2⟩ := cat_sg n (fun k hk => h k (by omega))
    obtain ⟨b1, b2⟩ := h n (by omega)
    rw [c_cat, a1, b1]
    exact ⟨sg_app B a2 b2, by omega⟩
theorem sg_tys {B : Nat → Nat} {ln : Nat} (hB : v_B B ln) {rf : Bool} {n p : Nat} (h : v_Ts B ln rf n p) : c_cat (fun i => c_tyb (v_v B ln (m_tn B ln i p))) n = sg B p (m_tn B ln n p) ∧ p ≤ m_tn B ln n p :=
  cat_sg (pos := fun i => m_tn B ln i p) n (fun k hk => by
    have hT := v_Ts_at n p k h hk
    have e := m_tn_snoc B ln k p
    refine ⟨?_, ?_⟩
    · show c_tyb (v_v B ln (m_tn B ln k p)) = sg B (m_tn B ln k p) (m_tn B ln (k + 1) p)
      rw [c_tyb_v hB hT, e]
    · show m_tn B ln k p ≤ m_tn B ln (k + 1) p
      rw [e]; exact Nat.le_of_lt (m_te_gt B ln _))
theorem sg_list {B : Nat → Nat} {ln : Nat} (hB : v_B B ln) {rf : Bool} {lo hi p : Nat} (h : v_L B ln lo hi rf p) : c_be (B p) 1 ++ c_cat (fun i => c_tyb (v_v B ln (m_tn B ln i (p + 1)))) (B p) = sg B p (m_le B ln p) ∧ p ≤ m_le B ln p := by
  obtain ⟨a1, a2⟩ := sg_tys hB h.2.2.2
  rw [c_be_1 hB.1, a1]
  exact ⟨sg_app B (Nat.le_succ _) a2, by show p ≤ m_tn B ln (B p) (p + 1); omega⟩
theorem sg_S {B : Nat → Nat} {ln : Nat} (hB : v_B B ln) {p : Nat} (h : v_Ss B ln p) : c_eS (fun k => B (v_pS B ln (p + 1) k)) (fun k => B (v_pS B ln (p + 1) k + 1)) (fun k i => v_v B ln (m_tn B ln i (v_pS B ln (p + 1) k + 2))) (B p) = sg B p (v_pS B ln (p + 1) (B p)) ∧ p ≤ v_pS B ln (p + 1) (B p) := by
  obtain ⟨a1, a2⟩ := cat_sg (B := B) (f := c_eS1 (fun k => B (v_pS B ln (p + 1) k)) (fun k => B (v_pS B ln (p + 1) k + 1)) (fun k i => v_v B ln (m_tn B ln i (v_pS B ln (p + 1) k + 2)))) (pos := v_pS B ln (p + 1)) (B p) (fun k hk => by
    have hv := h.2.2 k hk
    obtain ⟨b1, b2⟩ := sg_list hB hv.2.2
    have e : c_eS1 (fun k => B (v_pS B ln (p + 1) k)) (fun k => B (v_pS B ln (p + 1) k + 1)) (fun k i => v_v B ln (m_tn B ln i (v_pS B ln (p + 1) k + 2))) k = c_be (B (v_pS B ln (p + 1) k)) 1 ++ (c_be (B (v_pS B ln (p + 1) k + 1)) 1 ++ c_cat (fun i => c_tyb (v_v B ln (m_tn B ln i (v_pS B ln (p + 1) k + 1 + 1)))) (B (v_pS B ln (p + 1) k + 1))) := List.append_assoc _ _ _
    rw [e, b1, c_be_1 hB.1, v_pS]
    exact ⟨sg_app B (Nat.le_succ _) b2, by omega⟩)
  unfold c_eS
  rw [a1, c_be_1 hB.1]
  exact ⟨sg_app B (Nat.le_succ _) a2, by have : v_pS B ln (p + 1) 0 = p + 1 := rfl; omega⟩
theorem sg_F {B : Nat → Nat} {ln : Nat} (hB : v_B B ln) {p : Nat} (h : v_Fs B ln p) : c_eF (fun k => c_num B (p + 1 + 4 * k) 2) (fun k => B (p + 1 + 4 * k + 2)) (fun k => B (p + 1 + 4 * k + 3)) (B p) = sg B p (p + 1 + 4 * B p) := by
  obtain ⟨a1, a2⟩ := cat_sg (B := B) (f := c_eF1 (fun k => c_num B (p + 1 + 4 * k) 2) (fun k => B (p + 1 + 4 * k + 2)) (fun k => B (p + 1 + 4 * k + 3))) (pos := fun k => p + 1 + 4 * k) (B p) (fun k hk => by
    unfold c_eF1
    rw [c_be_num hB.1, c_be_1 hB.1, c_be_1 hB.1]
    refine ⟨?_, by show p + 1 + 4 * k ≤ p + 1 + 4 * (k + 1); omega⟩
    rw [sg_app B (show p + 1 + 4 * k + 2 ≤ p + 1 + 4 * k + 2 + 1 by omega) (show p + 1 + 4 * k + 2 + 1 ≤ p + 1 + 4 * k + 3 + 1 by omega), sg_app B (by omega) (by omega)]
    congr 1)
  unfold c_eF
  rw [a1, c_be_1 hB.1]
  exact sg_app B (Nat.le_succ _) a2
theorem sg_PL {B : Nat → Nat} {ln : Nat} (hB : v_B B ln) {rf : Bool} {lo hi p : Nat} (h : v_L B ln lo hi rf p) : c_ePL (fun i => v_v B ln (m_tn B ln i (p + 1))) (B p) = sg B p (m_le B ln p) ∧ p ≤ m_le B ln p := sg_list hB h
theorem sg_H {B : Nat → Nat} {ln : Nat} (hB : v_B B ln) {p : Nat} (h : v_Hs B ln p) : c_eH (fun k => c_num B (v_pC B ln (p + 1) k) 2) (fun k => B (v_pC B ln (p + 1) k + 2)) (fun k => B (v_pC B ln (p + 1) k + 3)) (fun k => B (v_pC B ln (p + 1) k + 3 + 1)) (fun k => B (m_le B ln (v_pC B ln (p + 1) k + 3 + 1))) (fun k j => v_v B ln (m_tn B ln j (v_pC B ln (p + 1) k + 3 + 1 + 1))) (fun k j => v_v B ln (m_tn B ln j (m_le B ln (v_pC B ln (p + 1) k + 3 + 1) + 1))) (B p) = sg B p (v_pC B ln (p + 1) (B p)) ∧ p ≤ v_pC B ln (p + 1) (B p) := by
  obtain ⟨a1, a2⟩ := cat_sg (B := B) (f := c_eH1 (fun k => c_num B (v_pC B ln (p + 1) k) 2) (fun k => B (v_pC B ln (p + 1) k + 2)) (fun k => B (v_pC B ln (p + 1) k + 3)) (fun k => B (v_pC B ln (p + 1) k + 3 + 1)) (fun k => B (m_le B ln (v_pC B ln (p + 1) k + 3 + 1))) (fun k j => v_v B ln (m_tn B ln j (v_pC B ln (p + 1) k + 3 + 1 + 1))) (fun k j => v_v B ln (m_tn B ln j (m_le B ln (v_pC B ln (p + 1) k + 3 + 1) + 1)))) (pos := v_pC B ln (p + 1)) (B p) (fun k hk => by
    have hv := h.2.2 k hk
    obtain ⟨b1, b2⟩ := sg_PL hB hv.1.2
    obtain ⟨c1, c2⟩ := sg_PL hB hv.2
    unfold c_eH1
    rw [b1, c1, v_pC, c_be_num hB.1, c_be_1 hB.1, c_be_1 hB.1]
    generalize v_pC B ln (p + 1) k = q at b2 c2 ⊢
    refine ⟨?_, by omega⟩
    rw [sg_app B (show q ≤ q + 2 by omega) (show q + 2 ≤ q + 2 + 1 by omega)]
    rw [show sg B q (q + 2 + 1) ++ sg B (q + 3) (q + 3 + 1) = sg B q (q + 3 + 1) from sg_app B (show q ≤ q + 3 by omega) (by omega)]
    rw [sg_app B b2 c2, sg_app B (by omega) (by omega)])
  unfold c_eH
  rw [a1, c_be_1 hB.1]
  exact ⟨sg_app B (Nat.le_succ _) a2, by have : v_pC B ln (p + 1) 0 = p + 1 := rfl; omega⟩
theorem sg_I {B : Nat → Nat} {ln : Nat} (hB : v_B B ln) {q : Nat} (h : v_I B ln q) : c_be (B q) 1 ++ (c_be (v_o1 B q) (c_fs (c_ofN (B q))) ++ c_be (v_o2 B q) (c_ss (c_ofN (B q)))) = sg B q (q + 1 + m_ob (B q)) := by
  obtain ⟨f0, -⟩ := o_facts (B q) (by have := h.2.1; omega)
  unfold v_o1 v_o2
  rw [c_be_1 hB.1, c_be_num hB.1, c_be_num hB.1, sg_app B (by omega) (by omega), sg_app B (by omega) (by omega), ← f0]
  congr 1
  omega
theorem sg_C {B : Nat → Nat} {ln n6 : Nat} (hB : v_B B ln) {a : Nat} (h : v_C B ln n6 a) : c_eC (fun i => B (v_ip B (a + 2) i)) (fun i => v_o1 B (v_ip B (a + 2) i)) (fun i => v_o2 B (v_ip B (a + 2) i)) (m_fn B a) = sg B a (v_ip B (a + 2) (m_fn B a)) ∧ a ≤ v_ip B (a + 2) (m_fn B a) := by
  obtain ⟨a1, a2⟩ := cat_sg (B := B) (f := c_eI (fun i => B (v_ip B (a + 2) i)) (fun i => v_o1 B (v_ip B (a + 2) i)) (fun i => v_o2 B (v_ip B (a + 2) i))) (pos := v_ip B (a + 2)) (m_fn B a) (fun k hk => by
    unfold c_eI
    refine ⟨?_, by rw [v_ip]; omega⟩
    rw [v_ip]
    exact sg_I hB (h.2 k hk))
  unfold c_eC
  rw [a1, ← c_num_2, c_be_num hB.1]
  have e0 : v_ip B (a + 2) 0 = a + 2 := rfl
  rw [c_num_2]
  exact ⟨sg_app B (by omega) a2, by omega⟩
theorem sg_N {B : Nat → Nat} {ln : Nat} (hB : v_B B ln) {p : Nat} (h : v_Ns B ln p) : c_eN (fun f => B (v_pN B ln (p + 1) f)) (fun f k => B (m_ln B ln k (v_pN B ln (p + 1) f + 1))) (fun f k j => v_v B ln (m_tn B ln j (m_ln B ln k (v_pN B ln (p + 1) f + 1) + 1))) (fun f => v_ct B ln (v_pN B ln (p + 1) f)) (fun f i => B (v_ip B (v_fa B ln (v_pN B ln (p + 1) f) + 2) i)) (fun f i => v_o1 B (v_ip B (v_fa B ln (v_pN B ln (p + 1) f) + 2) i)) (fun f i => v_o2 B (v_ip B (v_fa B ln (v_pN B ln (p + 1) f) + 2) i)) (B p) = sg B p (v_pN B ln (p + 1) (B p)) := by
  obtain ⟨a1, a2⟩ := cat_sg (B := B) (f := c_eN1 (fun f => B (v_pN B ln (p + 1) f)) (fun f k => B (m_ln B ln k (v_pN B ln (p + 1) f + 1))) (fun f k j => v_v B ln (m_tn B ln j (m_ln B ln k (v_pN B ln (p + 1) f + 1) + 1))) (fun f => v_ct B ln (v_pN B ln (p + 1) f)) (fun f i => B (v_ip B (v_fa B ln (v_pN B ln (p + 1) f) + 2) i)) (fun f i => v_o1 B (v_ip B (v_fa B ln (v_pN B ln (p + 1) f) + 2) i)) (fun f i => v_o2 B (v_ip B (v_fa B ln (v_pN B ln (p + 1) f) + 2) i))) (pos := v_pN B ln (p + 1)) (B p) (fun k hk => by
    have hv := h.2.2 k hk
    obtain ⟨b1, b2⟩ := sg_PL hB hv.1.1.1.2
    obtain ⟨c1, c2⟩ := sg_PL hB hv.1.1.2
    obtain ⟨d1, d2⟩ := sg_PL hB hv.1.2
    obtain ⟨e1, e2⟩ := sg_C hB hv.2
    rw [v_pN]
    unfold c_eN1
    dsimp only
    generalize v_pN B ln (p + 1) k = q at b1 b2 c1 c2 d1 d2 e1 e2 ⊢
    have x0 : m_ln B ln 0 (q + 1) = q + 1 := rfl
    have x1 : m_ln B ln 1 (q + 1) = m_le B ln (q + 1) := rfl
    have x2 : m_ln B ln 2 (q + 1) = m_le B ln (m_le B ln (q + 1)) := rfl
    have x3 : v_fa B ln q = m_le B ln (m_le B ln (m_le B ln (q + 1))) := rfl
    have ect : v_ct B ln q = m_fn B (v_fa B ln q) := rfl
    rw [x0, x1, x2, b1, c1, d1, ect, e1, c_be_1 hB.1]
    rw [x3] at e2 ⊢
    refine ⟨?_, by omega⟩
    rw [sg_app B d2 e2, sg_app B c2 (by omega), sg_app B b2 (by omega), sg_app B (by omega) (by omega)])
  unfold c_eN
  rw [a1, c_be_1 hB.1]
  exact sg_app B (Nat.le_succ _) a2
theorem sg_mk {B : Nat → Nat} {ln : Nat} (hB : v_B B ln) (h : v_hd B ln) : c_mkL 4 ++ c_be (m_fn B 4) 2 = sg B 0 6 := by
  have e1 : c_mkL 4 = sg B 0 4 := by
    refine (cat_sg (B := B) (f := fun i => c_be (c_mkN i) 1) (pos := fun i => i) 4 (fun k hk => ⟨?_, Nat.le_succ _⟩)).1
    have hk4 : B k = c_mkN k := by
      have : k = 0 ∨ k = 1 ∨ k = 2 ∨ k = 3 := by omega
      rcases this with e | e | e | e <;> subst e
      · exact h.1.1.1.1.2
      · exact h.1.1.1.2.2
      · exact h.1.1.2.2
      · exact h.1.2.2
    show c_be (c_mkN k) 1 = sg B k (k + 1)
    rw [← hk4, c_be_1 hB.1]
  rw [e1, ← c_num_2, c_be_num hB.1]
  exact sg_app B (by decide) (by decide)
