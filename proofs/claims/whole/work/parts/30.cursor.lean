/-! THE READER'S CURSOR: at, why, where, as naturals -/
abbrev c_Cu : Type := Nat × Nat × Nat
def c_sc (I : Nat → Nat → Int32) (c : c_Cu) : Nat → Nat → Int32 := ct_u2 (ct_u2 (ct_u2 I 23 5 (nI c.1)) 23 7 (nI c.2.1)) 23 8 (nI c.2.2)
theorem c_sc_get (I : Nat → Nat → Int32) (c : c_Cu) (h k : Nat) : c_sc I c h k = if h = 23 ∧ k = 8 then nI c.2.2 else if h = 23 ∧ k = 7 then nI c.2.1 else if h = 23 ∧ k = 5 then nI c.1 else I h k := rfl
theorem c_sc_5 (I : Nat → Nat → Int32) (c : c_Cu) : c_sc I c 23 5 = nI c.1 := rfl
theorem c_sc_7 (I : Nat → Nat → Int32) (c : c_Cu) : c_sc I c 23 7 = nI c.2.1 := rfl
theorem c_sc_8 (I : Nat → Nat → Int32) (c : c_Cu) : c_sc I c 23 8 = nI c.2.2 := rfl
theorem c_sc_4 (I : Nat → Nat → Int32) (c : c_Cu) : c_sc I c 23 4 = I 23 4 := rfl
theorem c_sc_6 (I : Nat → Nat → Int32) (c : c_Cu) : c_sc I c 23 6 = I 23 6 := rfl
theorem c_sc_ne (I : Nat → Nat → Int32) (c : c_Cu) {h : Nat} (k : Nat) (hh : ¬ h = 23) : c_sc I c h k = I h k := by simp only [c_sc_get, hh, false_and, if_false]
theorem c_sc_at (I : Nat → Nat → Int32) (c : c_Cu) (a : Nat) : ct_u2 (c_sc I c) 23 5 (nI a) = c_sc I (a, c.2) := by
  funext h k
  simp only [ct_u2_get, c_sc_get]
  by_cases e : h = 23
  · by_cases e1 : k = 5
    · subst e; subst e1; simp
    · simp [e, e1]
  · simp [e]
theorem c_sc_fl (I : Nat → Nat → Int32) (c : c_Cu) (r s : Nat) : ct_u2 (ct_u2 (c_sc I c) 23 7 (nI r)) 23 8 (nI s) = c_sc I (c.1, r, s) := by
  funext h k
  simp only [ct_u2_get, c_sc_get]
  by_cases e : h = 23
  · by_cases e1 : k = 8
    · simp [e, e1]
    · by_cases e2 : k = 7 <;> simp [e, e1, e2]
  · simp [e]
theorem c_sc_sc (I : Nat → Nat → Int32) (c d : c_Cu) : c_sc (c_sc I c) d = c_sc I d := by
  funext h k
  simp only [c_sc_get]
  by_cases e : h = 23
  · by_cases e1 : k = 8
    · simp [e, e1]
    · by_cases e2 : k = 7
      · simp [e, e2]
      · by_cases e3 : k = 5 <;> simp [e, e1, e2, e3]
  · simp [e]
theorem c_sc_u2 (I : Nat → Nat → Int32) (c : c_Cu) {h : Nat} (k : Nat) (x : Int32) (hh : ¬ h = 23) : ct_u2 (c_sc I c) h k x = c_sc (ct_u2 I h k x) c := by
  funext a b
  simp only [ct_u2_get, c_sc_get]
  by_cases e : a = h
  · subst e; simp [hh]
  · simp [e]
/-- the tape's bytes -/
def c_B (I : Nat → Nat → Int32) (j : Nat) : Nat := (I 11 j).toBitVec.toNat % 256
theorem c_B_and (I : Nat → Nat → Int32) (j : Nat) : I 11 j &&& 255 = nI (c_B I j) := pk_and (I 11 j) 8 rfl
theorem c_B_lt (I : Nat → Nat → Int32) (j : Nat) : c_B I j < 256 := Nat.mod_lt _ (by decide)
/-- n bytes from a on, the higher ones first -/
def c_num (B : Nat → Nat) (a : Nat) : Nat → Nat
  | 0 => 0
  | n + 1 => c_num B a n * 256 + B (a + n)
theorem c_num_lt {B : Nat → Nat} (hB : ∀ j, B j < 256) (a : Nat) : ∀ n, c_num B a n < 256 ^ n
  | 0 => Nat.one_pos
  | n + 1 => by
    have h1 := c_num_lt hB a n
    have h2 := hB (a + n)
    rw [Nat.pow_succ]
    show c_num B a n * 256 + B (a + n) < 256 ^ n * 256
    omega
theorem c_num_1 (B : Nat → Nat) (a : Nat) : c_num B a 1 = B a := by simp [c_num]
theorem c_p256 : ∀ n, n ≤ 8 → 256 ^ n ≤ 2 ^ 64 := by
  intro n hn
  calc 256 ^ n ≤ 256 ^ 8 := Nat.pow_le_pow_right (by decide) hn
    _ = 2 ^ 64 := by decide
theorem c_shor {v b : Nat} (hb : b < 256) (h : v * 256 + b < 2 ^ 64) : lN v <<< ((8 : Int32).toInt64 &&& 63) ||| (nI b).toInt64 = lN (v * 256 + b) := by
  rw [nI_l (by omega), show lN v <<< ((8 : Int32).toInt64 &&& 63) = lN (v * 2 ^ 8) from wb_shl v (k := 8) (by decide)]
  exact g_or (k := 8) rfl hb h
def c_fl (r s : Nat) (c : c_Cu) : c_Cu := if c.2.1 = 0 then (c.1, r, s) else c
/-- take: the number, the cursor behind it -/
def c_tk (B : Nat → Nat) (ln sz : Nat) (c : c_Cu) : Nat × c_Cu := if c.2.1 = 0 then (if c.1 + sz ≤ ln then (c_num B c.1 sz, (c.1 + sz, c.2)) else (0, (c.1, 2, ln))) else (0, c)
/-- the cursor lies in the tape, the reason is one of the fourteen -/
def c_ok (ln : Nat) (c : c_Cu) : Prop := c.1 ≤ ln ∧ c.2.1 ≤ 14 ∧ c.2.2 ≤ ln
theorem c_nI0 {n : Nat} (h : n < 2 ^ 31) : nI n = 0 ↔ n = 0 := nI_eq (b := 0) h (by decide)
theorem c_ok.fl {ln r s : Nat} {c : c_Cu} (h : c_ok ln c) (hr : r ≤ 14) (hs : s ≤ ln) : c_ok ln (c_fl r s c) := by
  unfold c_fl
  split
  · exact ⟨h.1, hr, hs⟩
  · exact h
theorem c_ok.tk {B : Nat → Nat} {ln sz : Nat} {c : c_Cu} (h : c_ok ln c) : c_ok ln (c_tk B ln sz c).2 := by
  unfold c_tk
  split
  · split
    · rename_i h2; exact ⟨h2, h.2⟩
    · exact ⟨h.1, by show (2 : Nat) ≤ 14; omega, Nat.le_refl _⟩
  · exact h
theorem c_tk_lt {B : Nat → Nat} (hB : ∀ j, B j < 256) {ln sz : Nat} {c : c_Cu} : (c_tk B ln sz c).1 < 256 ^ sz := by
  unfold c_tk
  split
  · split
    · exact c_num_lt hB _ _
    · exact Nat.pow_pos (by decide)
  · exact Nat.pow_pos (by decide)
/-- takeWithin: a number in its bounds, or a fault at its first byte -/
def c_tw (B : Nat → Nat) (ln sz lo hi : Nat) (c : c_Cu) : Nat × c_Cu := if (c_tk B ln sz c).1 < lo ∨ hi < (c_tk B ln sz c).1 then (0, c_fl 3 c.1 (c_tk B ln sz c).2) else c_tk B ln sz c
def c_nb (B : Nat → Nat) (ln : Nat) (c : c_Cu) : Nat := if c.2.1 = 0 ∧ c.1 < ln then B c.1 else 0
/-- takeName: hm says how many there are -/
def c_tn (B : Nat → Nat) (ln : Nat) (lu : Bool) (sz : Nat) (hm : Int32) (r : Nat) (c : c_Cu) : Nat × c_Cu := if lu = true ∧ ¬ nI (c_tk B ln sz c).1 < hm then ((c_tk B ln sz c).1, c_fl r c.1 (c_tk B ln sz c).2) else c_tk B ln sz c
def c_to (B : Nat → Nat) (ln : Nat) (c : c_Cu) : Nat × c_Cu := if 59 < (c_tk B ln 1 c).1 then (0, c_fl 5 c.1 (c_tk B ln 1 c).2) else c_tk B ln 1 c
def c_os (B : Nat → Nat) (ln : Nat) (lu : Bool) (n1 na : Nat) (c : c_Cu) : Nat × c_Cu := if lu = true ∧ n1 ≤ (c_tk B ln 1 c).1 then ((c_tk B ln 1 c).1, c_fl (if (c_tk B ln 1 c).1 < na then 8 else 7) c.1 (c_tk B ln 1 c).2) else c_tk B ln 1 c
/-- the cursor behind a type's kind -/
def c_k2 (B : Nat → Nat) (ln : Nat) (c : c_Cu) : c_Cu := if (c_tk B ln 1 c).1 < 1 ∨ 6 < (c_tk B ln 1 c).1 then c_fl 4 c.1 (c_tk B ln 1 c).2 else (c_tk B ln 1 c).2
/-- a type from its kind on; v: the bytes before -/
def c_tt (B : Nat → Nat) (ln : Nat) (lu : Bool) (na v : Nat) (c : c_Cu) : Nat × c_Cu :=
  if (c_tk B ln 1 c).1 = 6 then ((v * 256 + (c_tk B ln 1 c).1) * 256 + (c_tk B ln 1 (c_k2 B ln c)).1, if lu = true ∧ na ≤ (c_tk B ln 1 (c_k2 B ln c)).1 then c_fl 7 (c_k2 B ln c).1 (c_tk B ln 1 (c_k2 B ln c)).2 else (c_tk B ln 1 (c_k2 B ln c)).2)
  else (v * 256 + (c_tk B ln 1 c).1, c_k2 B ln c)
/-- up to n sevens -/
def c_sev (B : Nat → Nat) (ln : Nat) : Nat → Nat → c_Cu → Nat × c_Cu
  | 0, v, c => (v, c)
  | n + 1, v, c => if c_nb B ln c = 7 then c_sev B ln n (v * 256 + (c_tk B ln 1 c).1) (c_tk B ln 1 c).2 else (v, c)
/-- the first byte of a reference -/
def c_rf (B : Nat → Nat) (ln : Nat) (rf : Bool) (c : c_Cu) : Nat × c_Cu := if rf = true ∧ (c_nb B ln c = 8 ∨ c_nb B ln c = 9) then c_tk B ln 1 c else (0, c)
def c_ty (B : Nat → Nat) (ln : Nat) (lu : Bool) (na : Nat) (rf : Bool) (c : c_Cu) : Nat × c_Cu :=
  c_tt B ln lu na (c_sev B ln 4 (c_rf B ln rf c).1 (c_rf B ln rf c).2).1 (c_sev B ln 4 (c_rf B ln rf c).1 (c_rf B ln rf c).2).2
theorem c_ok.k2 {B : Nat → Nat} {ln : Nat} {c : c_Cu} (h : c_ok ln c) : c_ok ln (c_k2 B ln c) := by
  unfold c_k2
  split
  · exact h.tk.fl (by decide) h.1
  · exact h.tk
theorem c_ok.tt {B : Nat → Nat} {ln : Nat} {lu : Bool} {na v : Nat} {c : c_Cu} (h : c_ok ln c) : c_ok ln (c_tt B ln lu na v c).2 := by
  unfold c_tt
  split
  · show c_ok ln (if _ then _ else _)
    split
    · exact h.k2.tk.fl (by decide) h.k2.1
    · exact h.k2.tk
  · exact h.k2
theorem c_ok.sev {B : Nat → Nat} {ln : Nat} : ∀ (n v : Nat) {c : c_Cu}, c_ok ln c → c_ok ln (c_sev B ln n v c).2
  | 0, _, _, h => h
  | n + 1, v, c, h => by
    unfold c_sev
    split
    · exact c_ok.sev n _ h.tk
    · exact h
theorem c_ok.rf {B : Nat → Nat} {ln : Nat} {rf : Bool} {c : c_Cu} (h : c_ok ln c) : c_ok ln (c_rf B ln rf c).2 := by
  unfold c_rf
  split
  · exact h.tk
  · exact h
theorem c_ok.ty {B : Nat → Nat} {ln : Nat} {lu : Bool} {na : Nat} {rf : Bool} {c : c_Cu} (h : c_ok ln c) : c_ok ln (c_ty B ln lu na rf c).2 := (h.rf.sev 4 _).tt
theorem c_ok.tw {B : Nat → Nat} {ln sz lo hi : Nat} {c : c_Cu} (h : c_ok ln c) : c_ok ln (c_tw B ln sz lo hi c).2 := by
  unfold c_tw
  split
  · exact h.tk.fl (by decide) h.1
  · exact h.tk
theorem c_ok.tn {B : Nat → Nat} {ln : Nat} {lu : Bool} {sz : Nat} {hm : Int32} {r : Nat} {c : c_Cu} (h : c_ok ln c) (hr : r ≤ 14) : c_ok ln (c_tn B ln lu sz hm r c).2 := by
  unfold c_tn
  split
  · exact h.tk.fl hr h.1
  · exact h.tk
theorem c_ok.to {B : Nat → Nat} {ln : Nat} {c : c_Cu} (h : c_ok ln c) : c_ok ln (c_to B ln c).2 := by
  unfold c_to
  split
  · exact h.tk.fl (by decide) h.1
  · exact h.tk
theorem c_ok.os {B : Nat → Nat} {ln : Nat} {lu : Bool} {n1 na : Nat} {c : c_Cu} (h : c_ok ln c) : c_ok ln (c_os B ln lu n1 na c).2 := by
  unfold c_os
  split
  · exact h.tk.fl (by split <;> decide) h.1
  · exact h.tk
theorem c_tk1_lt {B : Nat → Nat} (hB : ∀ j, B j < 256) {ln : Nat} {c : c_Cu} : (c_tk B ln 1 c).1 < 256 := c_tk_lt hB
theorem c_lc_lt {a b : Nat} (ha : a < 2 ^ 63) (hb : b < 2 ^ 63) : lg_cmp (lN a) (lN b) < 0 ↔ a < b := by
  unfold lg_cmp
  have h1 := pk_lLT hb ha
  have h2 := pk_lEQ ha hb
  by_cases q : b < a
  · rw [if_pos (h1.mpr q)]
    exact ⟨fun z => absurd z (by decide), fun z => by omega⟩
  · rw [if_neg (fun z => q (h1.mp z))]
    by_cases e : a = b
    · rw [if_pos (h2.mpr e)]
      exact ⟨fun z => absurd z (by decide), fun z => by omega⟩
    · rw [if_neg (fun z => e (h2.mp z))]
      exact ⟨fun _ => by omega, fun _ => by decide⟩
theorem c_lc_le {a b : Nat} (ha : a < 2 ^ 63) (hb : b < 2 ^ 63) : lg_cmp (lN a) (lN b) ≤ 0 ↔ a ≤ b := by
  unfold lg_cmp
  have h1 := pk_lLT hb ha
  have h2 := pk_lEQ ha hb
  by_cases q : b < a
  · rw [if_pos (h1.mpr q)]
    exact ⟨fun z => absurd z (by decide), fun z => by omega⟩
  · rw [if_neg (fun z => q (h1.mp z))]
    by_cases e : a = b
    · rw [if_pos (h2.mpr e)]
      exact ⟨fun _ => by omega, fun _ => by decide⟩
    · rw [if_neg (fun z => e (h2.mp z))]
      exact ⟨fun _ => by omega, fun _ => by decide⟩
theorem c_lc_eq {a b : Nat} (ha : a < 2 ^ 63) (hb : b < 2 ^ 63) : lg_cmp (lN a) (lN b) = 0 ↔ a = b := by
  unfold lg_cmp
  have h1 := pk_lLT hb ha
  have h2 := pk_lEQ ha hb
  by_cases q : b < a
  · rw [if_pos (h1.mpr q)]
    exact ⟨fun z => absurd z (by decide), fun z => by omega⟩
  · rw [if_neg (fun z => q (h1.mp z))]
    by_cases e : a = b
    · rw [if_pos (h2.mpr e)]
      exact ⟨fun _ => e, fun _ => rfl⟩
    · rw [if_neg (fun z => e (h2.mp z))]
      exact ⟨fun z => absurd z (by decide), fun z => absurd z e⟩
theorem c_shor' {v b : Nat} (hb : b < 256) (h : v * 256 + b < 2 ^ 64) : lN v <<< ((8 : Int32).toInt64 &&& 63) ||| lN b = lN (v * 256 + b) := by
  have := c_shor hb h
  rwa [nI_l (by omega)] at this
