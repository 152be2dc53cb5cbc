/-! THE LAYOUT: the class has the cells 10 .. 28, the reference 29 .. 39 -/
def c_sh (h : Nat) : Nat × Nat := if h = 10 then (10, 7) else if h = 11 then (2, 4096) else if h = 12 then (11, 10) else if h = 13 then (1, 7) else if h = 14 then (1, 256) else if h = 15 then (3, 512) else if h = 16 then (1, 672) else if h = 17 then (3, 4608) else if h = 18 then (3, 32) else if h = 19 then (1, 64) else if h = 20 then (2, 8192) else if h = 21 then (3, 8192) else if h = 22 then (3, 8192) else if h = 23 then (12, 9) else if h = 24 then (1, 32) else if h = 25 then (1, 32) else if h = 26 then (2, 0) else if h = 27 then (13, 3) else if h = 28 then (2, 4096) else if h = 29 then (14, 24) else if h = 30 then (2, 65536) else if h = 31 then (2, 65536) else if h = 32 then (1, 64) else if h = 33 then (1, 32) else if h = 34 then (1, 32) else if h = 35 then (1, 64) else if h = 36 then (1, 65) else if h = 37 then (1, 8193) else if h = 38 then (2, 65536) else if h = 39 then (4, 32) else (0, 0)
/-- references; b: the reader has been given the tape -/
def c_R (b : Bool) (h k : Nat) : Option Nat := if h = 23 ∧ k = 3 then (if b = true then some 11 else some 26) else if h = 10 ∧ k = 0 then some 11 else if h = 10 ∧ k = 4 then some 12 else if h = 10 ∧ k = 5 then some 23 else if h = 10 ∧ k = 6 then some 27 else if h = 12 ∧ k = 0 then some 13 else if h = 12 ∧ k = 1 then some 14 else if h = 12 ∧ k = 2 then some 15 else if h = 12 ∧ k = 3 then some 16 else if h = 12 ∧ k = 4 then some 17 else if h = 12 ∧ k = 5 then some 18 else if h = 12 ∧ k = 6 then some 19 else if h = 12 ∧ k = 7 then some 20 else if h = 12 ∧ k = 8 then some 21 else if h = 12 ∧ k = 9 then some 22 else if h = 23 ∧ k = 0 then some 12 else if h = 23 ∧ k = 1 then some 24 else if h = 23 ∧ k = 2 then some 25 else if h = 27 ∧ k = 0 then some 12 else if h = 27 ∧ k = 1 then some 28 else if h = 29 ∧ k = 0 then some 30 else if h = 29 ∧ k = 2 then some 31 else if h = 29 ∧ k = 15 then some 32 else if h = 29 ∧ k = 16 then some 33 else if h = 29 ∧ k = 17 then some 34 else if h = 29 ∧ k = 18 then some 35 else if h = 29 ∧ k = 19 then some 36 else if h = 29 ∧ k = 20 then some 37 else if h = 29 ∧ k = 21 then some 38 else if h = 29 ∧ k = 23 then some 39 else none
theorem c_sh_10 : c_sh 10 = (10, 7) := rfl
theorem c_sh_11 : c_sh 11 = (2, 4096) := rfl
theorem c_sh_12 : c_sh 12 = (11, 10) := rfl
theorem c_sh_13 : c_sh 13 = (1, 7) := rfl
theorem c_sh_14 : c_sh 14 = (1, 256) := rfl
theorem c_sh_15 : c_sh 15 = (3, 512) := rfl
theorem c_sh_16 : c_sh 16 = (1, 672) := rfl
theorem c_sh_17 : c_sh 17 = (3, 4608) := rfl
theorem c_sh_18 : c_sh 18 = (3, 32) := rfl
theorem c_sh_19 : c_sh 19 = (1, 64) := rfl
theorem c_sh_20 : c_sh 20 = (2, 8192) := rfl
theorem c_sh_21 : c_sh 21 = (3, 8192) := rfl
theorem c_sh_22 : c_sh 22 = (3, 8192) := rfl
theorem c_sh_23 : c_sh 23 = (12, 9) := rfl
theorem c_sh_24 : c_sh 24 = (1, 32) := rfl
theorem c_sh_25 : c_sh 25 = (1, 32) := rfl
theorem c_sh_26 : c_sh 26 = (2, 0) := rfl
theorem c_sh_27 : c_sh 27 = (13, 3) := rfl
theorem c_sh_28 : c_sh 28 = (2, 4096) := rfl
theorem c_sh_29 : c_sh 29 = (14, 24) := rfl
theorem c_sh_30 : c_sh 30 = (2, 65536) := rfl
theorem c_sh_31 : c_sh 31 = (2, 65536) := rfl
theorem c_sh_32 : c_sh 32 = (1, 64) := rfl
theorem c_sh_33 : c_sh 33 = (1, 32) := rfl
theorem c_sh_34 : c_sh 34 = (1, 32) := rfl
theorem c_sh_35 : c_sh 35 = (1, 64) := rfl
theorem c_sh_36 : c_sh 36 = (1, 65) := rfl
theorem c_sh_37 : c_sh 37 = (1, 8193) := rfl
theorem c_sh_38 : c_sh 38 = (2, 65536) := rfl
theorem c_sh_39 : c_sh 39 = (4, 32) := rfl
theorem c_R_10_0 (b : Bool) : c_R b 10 0 = some 11 := by cases b <;> rfl
theorem c_R_10_4 (b : Bool) : c_R b 10 4 = some 12 := by cases b <;> rfl
theorem c_R_10_5 (b : Bool) : c_R b 10 5 = some 23 := by cases b <;> rfl
theorem c_R_10_6 (b : Bool) : c_R b 10 6 = some 27 := by cases b <;> rfl
theorem c_R_12_0 (b : Bool) : c_R b 12 0 = some 13 := by cases b <;> rfl
theorem c_R_12_1 (b : Bool) : c_R b 12 1 = some 14 := by cases b <;> rfl
theorem c_R_12_2 (b : Bool) : c_R b 12 2 = some 15 := by cases b <;> rfl
theorem c_R_12_3 (b : Bool) : c_R b 12 3 = some 16 := by cases b <;> rfl
theorem c_R_12_4 (b : Bool) : c_R b 12 4 = some 17 := by cases b <;> rfl
theorem c_R_12_5 (b : Bool) : c_R b 12 5 = some 18 := by cases b <;> rfl
theorem c_R_12_6 (b : Bool) : c_R b 12 6 = some 19 := by cases b <;> rfl
theorem c_R_12_7 (b : Bool) : c_R b 12 7 = some 20 := by cases b <;> rfl
theorem c_R_12_8 (b : Bool) : c_R b 12 8 = some 21 := by cases b <;> rfl
theorem c_R_12_9 (b : Bool) : c_R b 12 9 = some 22 := by cases b <;> rfl
theorem c_R_23_0 (b : Bool) : c_R b 23 0 = some 12 := by cases b <;> rfl
theorem c_R_23_1 (b : Bool) : c_R b 23 1 = some 24 := by cases b <;> rfl
theorem c_R_23_2 (b : Bool) : c_R b 23 2 = some 25 := by cases b <;> rfl
theorem c_R_27_0 (b : Bool) : c_R b 27 0 = some 12 := by cases b <;> rfl
theorem c_R_27_1 (b : Bool) : c_R b 27 1 = some 28 := by cases b <;> rfl
theorem c_R_29_0 (b : Bool) : c_R b 29 0 = some 30 := by cases b <;> rfl
theorem c_R_29_2 (b : Bool) : c_R b 29 2 = some 31 := by cases b <;> rfl
theorem c_R_29_15 (b : Bool) : c_R b 29 15 = some 32 := by cases b <;> rfl
theorem c_R_29_16 (b : Bool) : c_R b 29 16 = some 33 := by cases b <;> rfl
theorem c_R_29_17 (b : Bool) : c_R b 29 17 = some 34 := by cases b <;> rfl
theorem c_R_29_18 (b : Bool) : c_R b 29 18 = some 35 := by cases b <;> rfl
theorem c_R_29_19 (b : Bool) : c_R b 29 19 = some 36 := by cases b <;> rfl
theorem c_R_29_20 (b : Bool) : c_R b 29 20 = some 37 := by cases b <;> rfl
theorem c_R_29_21 (b : Bool) : c_R b 29 21 = some 38 := by cases b <;> rfl
theorem c_R_29_23 (b : Bool) : c_R b 29 23 = some 39 := by cases b <;> rfl
theorem c_R_23_3 : c_R true 23 3 = some 11 := rfl
theorem ct_u2_get {α : Type} (f : Nat → Nat → α) (h k : Nat) (x : α) (a b : Nat) : ct_u2 f h k x a b = if a = h ∧ b = k then x else f a b := rfl
abbrev c_g (I : Nat → Nat → Int32) (L : Nat → Nat → Int64) (b : Bool) : ct_Sg := (30, c_sh, I, L, c_R b)
theorem c_u2_same {α : Type} (f : Nat → Nat → α) (h k : Nat) : ct_u2 f h k (f h k) = f := by
  funext a b
  simp only [ct_u2_get]
  split
  · rename_i e; rw [e.1, e.2]
  · rfl
theorem c_u2_eq {α : Type} {f : Nat → Nat → α} {h k : Nat} {x : α} (e : x = f h k) : ct_u2 f h k x = f := by rw [e]; exact c_u2_same f h k
theorem c_u2_twice {α : Type} (f : Nat → Nat → α) (h k : Nat) (x y : α) : ct_u2 (ct_u2 f h k x) h k y = ct_u2 f h k y := by
  funext a b
  simp only [ct_u2_get]
  split <;> rfl
theorem c_u2_comm {α : Type} (f : Nat → Nat → α) {h k h' k' : Nat} (x y : α) (hne : ¬ (h = h' ∧ k = k')) : ct_u2 (ct_u2 f h k x) h' k' y = ct_u2 (ct_u2 f h' k' y) h k x := by
  funext a b
  simp only [ct_u2_get]
  by_cases h1 : a = h ∧ b = k
  · by_cases h2 : a = h' ∧ b = k'
    · exact absurd ⟨h1.1.symm.trans h2.1, h1.2.symm.trans h2.2⟩ hne
    · rw [if_neg h2, if_pos h1, if_pos h1]
  · by_cases h2 : a = h' ∧ b = k'
    · rw [if_pos h2, if_neg h1, if_pos h2]
    · rw [if_neg h2, if_neg h1, if_neg h1, if_neg h2]
