/-! THE READER'S CURSOR: at, why, where, as naturals -/
abbrev c_Cu : Type := Nat × Nat × Nat
def c_sc (I : Nat → Nat → Int32) (c : c_Cu) : Nat → Nat → Int32 := ct_u2 (ct_u2 (ct_u2 I 23 5 (nI c.1)) 23 7 (nI c.2.1)) 23 8 (nI c.2.2)
theorem c_sc_get (I : Nat → Nat → Int32) (c : c_Cu) (h k : Nat) : c_sc I c h k = if h = 23 ∧ k = 8 then nI c.2.2 else if h = 23 ∧ k = 7 then nI c.2.1 else if h = 23 ∧ k = 5 then nI c.1 else I h k := rfl
theorem c_sc_5 (I : Nat → Nat → Int32) (c : c_Cu) : c_sc I c 23 5 = nI c.1 := rfl
theorem c_sc_7 (I : Nat → Nat → Int32) (c : c_Cu) : c_sc I c 23 7 = nI c.2.1 := rfl
theorem c_sc_8 (I : Nat → Nat → Int32) (c : c_Cu) : c_sc I c 23 8 = nI c.2.2 := rfl
theorem c_sc_4 (I : Nat → Nat → Int32) (c : c_Cu) : c_sc I c 23 4 = I 23 4 := rfl
theorem c_sc_6 (I : Nat → Nat → Int32) (c : c_Cu) : c_sc I c 23 6 = I 23 6 := rfl
theorem c_sc_ne (I : Nat → Nat → Int32) (c : c_Cu) {h : Nat} (k : Nat) (hh : ¬ h = 23) : c_sc I c h k = I h k := by simp only [c_sc_get, hh, false_and, if_false]
theorem c_sc_at (I : Nat → Nat → Int32) (c : c_Cu) (a : Nat) : ct_u2 (c_sc I c) 23 5 (nI a) = c_sc I (a, c.2) := by
  funext h k
  simp only [ct_u2_get, c_sc_get]
  by_cases e : h = 23
  · by_cases e1 : k = 5
    · subst e; subst e1; simp
    · simp [e, e1]
  · simp [e]
theorem c_sc_fl (I : Nat → Nat → Int32) (c : c_Cu) (r s : Nat) : ct_u2 (ct_u2 (c_sc I c) 23 7 (nI r)) 23 8 (nI s) = c_sc I (c.1, r, s) := by
  funext h k
  simp only [ct_u2_get, c_sc_get]
  by_cases e : h = 23
  · by_cases e1 : k = 8
    · simp [e, e1]
    · by_cases e2 : k = 7 <;> simp [e, e1, e2]
  · simp [e]
theorem c_sc_sc (I : Nat → Nat → Int32) (c d : c_Cu) : c_sc (c_sc I c) d = c_sc I d := by
  funext h k
  simp only [c_sc_get]
  by_cases e : h = 23
  · by_cases e1 : k = 8
    · simp [e, e1]
    · by_cases e2 : k = 7
      · simp [e, e2]
      · by_cases e3 : k = 5 <;> simp [e, e1, e2, e3]
  · simp [e]
theorem c_sc_u2 (I : Nat → Nat → Int32) (c : c_Cu) {h : Nat} (k : Nat) (x : Int32) (hh : ¬ h = 23) : ct_u2 (c_sc I c) h k x = c_sc (ct_u2 I h k x) c := by
  funext a b
  simp only [ct_u2_get, c_sc_get]
  by_cases e : a = h
  · subst e; simp [hh]
  · simp [e]
/-- the tape's bytes -/
def c_B (I : Nat → Nat → Int32) (j : Nat) : Nat := (I 11 j).toBitVec.toNat % 256
theorem c_B_and (I : Nat → Nat → Int32) (j : Nat) : I 11 j &&& 255 = nI (c_B I j) := pk_and (I 11 j) 8 rfl
theorem c_B_lt (I : Nat → Nat → Int32) (j : Nat) : c_B I j < 256 := Nat.mod_lt _ (by decide)
/-- n bytes from a on, the higher ones first -/
def c_num (B : Nat → Nat) (a : Nat) : Nat → Nat
  | 0 => 0
  | n + 1 => c_num B a n * 256 + B (a + n)
theorem c_num_lt {B : Nat → Nat} (hB : ∀ j, B j < 256) (a : Nat) : ∀ n, c_num B a n < 256 ^ n
  | 0 => Nat.one_pos
  | n + 1 => by
    have h1 := c_num_lt hB a n
    have h2 := hB (a + n)
    rw [Nat.pow_succ]
    show c_num B a n * 256 + B (a + n) < 256 ^ n * 256
    omega
theorem c_num_1 (B : Nat → Nat) (a : Nat) : c_num B a 1 = B a := by simp [c_num]
theorem c_p256 : ∀ n, n ≤ 8 → 256 ^ n ≤ 2 ^ 64 := by
  intro n hn
  calc 256 ^ n ≤ 256 ^ 8 := Nat.pow_le_pow_right (by decide) hn
    _ = 2 ^ 64 := by decide
theorem c_shor {v b : Nat} (hb : b < 256) (h : v * 256 + b < 2 ^ 64) : lN v <<< ((8 : Int32).toInt64 &&& 63) ||| (nI b).toInt64 = lN (v * 256 + b) := by
  rw [nI_l (by omega), show lN v <<< ((8 : Int32).toInt64 &&& 63) = lN (v * 2 ^ 8) from wb_shl v (k := 8) (by decide)]
  exact g_or (k := 8) rfl hb h
def c_fl (r s : Nat) (c : c_Cu) : c_Cu := if c.2.1 = 0 then (c.1, r, s) else c
/-- take: the number, the cursor behind it -/
def c_tk (B : Nat → Nat) (ln sz : Nat) (c : c_Cu) : Nat × c_Cu := if c.2.1 = 0 then (if c.1 + sz ≤ ln then (c_num B c.1 sz, (c.1 + sz, c.2)) else (0, (c.1, 2, ln))) else (0, c)
/-- the cursor lies in the tape, the reason is one of the fourteen -/
def c_ok (ln : Nat) (c : c_Cu) : Prop := c.1 ≤ ln ∧ c.2.1 ≤ 14 ∧ c.2.2 ≤ ln
theorem c_nI0 {n : Nat} (h : n < 2 ^ 31) : nI n = 0 ↔ n = 0 := nI_eq (b := 0) h (by decide)
theorem c_ok.fl {ln r s : Nat} {c : c_Cu} (h : c_ok ln c) (hr : r ≤ 14) (hs : s ≤ ln) : c_ok ln (c_fl r s c) := by
  unfold c_fl
  split
  · exact ⟨h.1, hr, hs⟩
  · exact h
theorem c_ok.tk {B : Nat → Nat} {ln sz : Nat} {c : c_Cu} (h : c_ok ln c) : c_ok ln (c_tk B ln sz c).2 := by
  unfold c_tk
  split
  · split
    · rename_i h2; exact ⟨h2, h.2⟩
    · exact ⟨h.1, by show (2 : Nat) ≤ 14; omega, Nat.le_refl _⟩
  · exact h
theorem c_tk_lt {B : Nat → Nat} (hB : ∀ j, B j < 256) {ln sz : Nat} {c : c_Cu} : (c_tk B ln sz c).1 < 256 ^ sz := by
  unfold c_tk
  split
  · split
    · exact c_num_lt hB _ _
    · exact Nat.pow_pos (by decide)
  · exact Nat.pow_pos (by decide)
/-- takeWithin: a number in its bounds, or a fault at its first byte -/
def c_tw (B : Nat → Nat) (ln sz lo hi : Nat) (c : c_Cu) : Nat × c_Cu := if (c_tk B ln sz c).1 < lo ∨ hi < (c_tk B ln sz c).1 then (0, c_fl 3 c.1 (c_tk B ln sz c).2) else c_tk B ln sz c
