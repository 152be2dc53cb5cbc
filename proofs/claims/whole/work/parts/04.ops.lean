/-! instructions as transformers of what has to hold -/
abbrev ct_PT : Type := ct_Cf → (ct_Cf → Prop) → Prop
/-- a transformer is right for the instruction at pc -/
def ct_Sn (l : ct_Lx) (M : ct_Mt) (pc : Nat) (t : ct_PT) : Prop := ∀ (cf : ct_Cf), cf.1 = pc → ∀ (d : Nat) (Post : Option Value → ct_Sg → Prop) (K : ct_Cf → Prop), 1 ≤ d → t cf K → (∀ cf', K cf' → ct_Wp l M d Post cf') → ct_Wp l M d Post cf
def ct_lg : ct_Lv → Nat → Option Value
  | [], _ => none
  | (j, v) :: r, i => if j = i then some v else ct_lg r i
def ct_d1 : ct_Lv → Nat → ct_Lv
  | [], _ => []
  | (j, v) :: r, i => if j = i then ct_d1 r i else if j + 1 = i ∧ v.category = 2 then ct_d1 r i else (j, v) :: ct_d1 r i
def ct_d2 : ct_Lv → Nat → ct_Lv
  | [], _ => []
  | (j, v) :: r, i => if j = i then ct_d2 r i else if j = i + 1 then ct_d2 r i else if j + 1 = i ∧ v.category = 2 then ct_d2 r i else (j, v) :: ct_d2 r i
theorem ct_lg_mem : ∀ {lv : ct_Lv} {i : Nat} {v : Value}, ct_lg lv i = some v → (i, v) ∈ lv
  | [], _, _, h => by simp [ct_lg] at h
  | (j, w) :: r, i, v, h => by
    simp only [ct_lg] at h
    split at h
    · rename_i e; cases h; subst e; exact List.mem_cons_self
    · exact List.mem_cons_of_mem _ (ct_lg_mem h)
theorem ct_lg_at {G : ct_Gx} {lv : ct_Lv} {i nL : Nat} {v : Value} {ls : Array Slot} (hl : lv_has ls nL (ct_lv G lv)) (h : ct_lg lv i = some v) : ls[i]? = some (.val (ct_cv G v)) :=
  hl.2.2 (i, ct_cv G v) (List.mem_map.mpr ⟨(i, v), ct_lg_mem h, rfl⟩)
theorem ct_d1_eq (G : ct_Gx) (i : Nat) : ∀ lv : ct_Lv, (ct_lv G lv).filter (fun q => !(q.1 == i) && !(q.1 + 1 == i && q.2.category == 2)) = ct_lv G (ct_d1 lv i)
  | [] => rfl
  | (j, v) :: r => by
    have ih := ct_d1_eq G i r
    simp only [ct_lv] at ih
    simp only [ct_lv, List.map_cons, List.filter_cons, ct_cv_cat, ct_d1, ih]
    by_cases h1 : j = i
    · simp [h1]
    · by_cases h2 : j + 1 = i ∧ v.category = 2
      · rw [if_neg h1, if_pos h2]; simp [h2.1, h2.2]
      · rw [if_neg h1, if_neg h2]
        have q1 : (j == i) = false := by simpa using h1
        have q2 : (j + 1 == i && v.category == 2) = false := by
          cases hb : (j + 1 == i && v.category == 2) with
          | false => rfl
          | true => simp at hb; exact absurd hb h2
        simp only [q1, q2, Bool.not_false, Bool.and_self, if_true, List.map_cons]
theorem ct_d2_eq (G : ct_Gx) (i : Nat) : ∀ lv : ct_Lv, (ct_lv G lv).filter (fun q => !(q.1 == i) && (!(q.1 == i + 1) && !(q.1 + 1 == i && q.2.category == 2))) = ct_lv G (ct_d2 lv i)
  | [] => rfl
  | (j, v) :: r => by
    have ih := ct_d2_eq G i r
    simp only [ct_lv] at ih
    simp only [ct_lv, List.map_cons, List.filter_cons, ct_cv_cat, ct_d2, ih]
    by_cases h1 : j = i
    · simp [h1]
    · by_cases h3 : j = i + 1
      · simp [h3]
      · by_cases h2 : j + 1 = i ∧ v.category = 2
        · rw [if_neg h1, if_neg h3, if_pos h2]; simp [h2.1, h2.2]
        · rw [if_neg h1, if_neg h3, if_neg h2]
          have q1 : (j == i) = false := by simpa using h1
          have q3 : (j == i + 1) = false := by simpa using h3
          have q2 : (j + 1 == i && v.category == 2) = false := by
            cases hb : (j + 1 == i && v.category == 2) with
            | false => rfl
            | true => simp at hb; exact absurd hb h2
          simp only [q1, q2, q3, Bool.not_false, Bool.and_self, if_true, List.map_cons]
def ct_s1 (lv : ct_Lv) (i : Nat) (v : Value) : ct_Lv := (i, v) :: ct_d1 lv i
def ct_s2 (lv : ct_Lv) (i : Nat) (v : Value) : ct_Lv := (i, v) :: ct_d2 lv i
theorem ct_s1_eq (G : ct_Gx) (lv : ct_Lv) (i : Nat) (v : Value) : (i, ct_cv G v) :: (ct_lv G lv).filter (fun q => !(q.1 == i) && !(q.1 + 1 == i && q.2.category == 2)) = ct_lv G (ct_s1 lv i v) := by
  rw [ct_d1_eq]; rfl
theorem ct_s2_eq (G : ct_Gx) (lv : ct_Lv) (i : Nat) (v : Value) : (i, ct_cv G v) :: (ct_lv G lv).filter (fun q => !(q.1 == i) && (!(q.1 == i + 1) && !(q.1 + 1 == i && q.2.category == 2))) = ct_lv G (ct_s2 lv i v) := by
  rw [ct_d2_eq]; rfl
def ct_u2 {α : Type} (f : Nat → Nat → α) (h k : Nat) (x : α) : Nat → Nat → α := fun a b => if a = h ∧ b = k then x else f a b
def ct_ur {α : Type} (f : Nat → α) (h : Nat) (x : α) : Nat → α := fun a => if a = h then x else f a
variable {l : ct_Lx} {M : ct_Mt} {pc : Nat}
def o_push (v : Value) (len : Nat) (cf : ct_Cf) (K : ct_Cf → Prop) : Prop := K (cf.1 + len, cf.2.1, v :: cf.2.2.1, cf.2.2.2)
theorem so_iconst {n : Int} {v : Int32} (hdg : decode M.2.1 pc = .ok (.iconst n, 1)) (hv : Int32.ofInt n = v) : ct_Sn l M pc (o_push (.int v) 1) := by
  rintro ⟨_, lv, st, g, bc, bs⟩ rfl d Post K hd1 ht hK
  intro p e R s0 m args below meth cd G Q C hf hlo hR H locs ls cells slots hP hS hl hc hs
  exact lv_iconst C.1 C.2.1 hdg hv (hK _ ht p e R s0 m args below meth cd G Q C hf hlo hR H locs ls cells slots hP hS hl hc hs)
theorem so_bipush {n : Int} {v : Int32} (hdg : decode M.2.1 pc = .ok (.bipush n, 2)) (hv : (Int8.ofInt n).toInt32 = v) : ct_Sn l M pc (o_push (.int v) 2) := by
  rintro ⟨_, lv, st, g, bc, bs⟩ rfl d Post K hd1 ht hK
  intro p e R s0 m args below meth cd G Q C hf hlo hR H locs ls cells slots hP hS hl hc hs
  exact lv_bipush C.1 C.2.1 hdg hv (hK _ ht p e R s0 m args below meth cd G Q C hf hlo hR H locs ls cells slots hP hS hl hc hs)
theorem so_sipush {n : Int} {v : Int32} (hdg : decode M.2.1 pc = .ok (.sipush n, 3)) (hv : (Int16.ofInt n).toInt32 = v) : ct_Sn l M pc (o_push (.int v) 3) := by
  rintro ⟨_, lv, st, g, bc, bs⟩ rfl d Post K hd1 ht hK
  intro p e R s0 m args below meth cd G Q C hf hlo hR H locs ls cells slots hP hS hl hc hs
  exact lv_sipush C.1 C.2.1 hdg hv (hK _ ht p e R s0 m args below meth cd G Q C hf hlo hR H locs ls cells slots hP hS hl hc hs)
theorem so_lconst {n : Fin 2} {v : Int64} (hdg : decode M.2.1 pc = .ok (.lconst n, 1)) (hv : Int64.ofNat (n : Nat) = v) : ct_Sn l M pc (o_push (.long v) 1) := by
  rintro ⟨_, lv, st, g, bc, bs⟩ rfl d Post K hd1 ht hK
  intro p e R s0 m args below meth cd G Q C hf hlo hR H locs ls cells slots hP hS hl hc hs
  exact lv_lconst C.1 C.2.1 hdg hv (hK _ ht p e R s0 m args below meth cd G Q C hf hlo hR H locs ls cells slots hP hS hl hc hs)
theorem so_ldc {i : Nat} {v : Int32} (hw : Cond.constant M.1.cls i v ∈ ct_WS) (hdg : decode M.2.1 pc = .ok (.ldc i, 2)) : ct_Sn l M pc (o_push (.int v) 2) := by
  rintro ⟨_, lv, st, g, bc, bs⟩ rfl d Post K hd1 ht hK
  intro p e R s0 m args below meth cd G Q C hf hlo hR H locs ls cells slots hP hS hl hc hs
  exact lv_ldc C.1 C.2.1 C.2.2.2.1 (C.2.2.2.2.1 _ hw) hdg (hK _ ht p e R s0 m args below meth cd G Q C hf hlo hR H locs ls cells slots hP hS hl hc hs)
theorem so_ldcw {i : Nat} {v : Int32} (hw : Cond.constant M.1.cls i v ∈ ct_WS) (hdg : decode M.2.1 pc = .ok (.ldc_w i, 3)) : ct_Sn l M pc (o_push (.int v) 3) := by
  rintro ⟨_, lv, st, g, bc, bs⟩ rfl d Post K hd1 ht hK
  intro p e R s0 m args below meth cd G Q C hf hlo hR H locs ls cells slots hP hS hl hc hs
  exact lv_ldcw C.1 C.2.1 C.2.2.2.1 (C.2.2.2.2.1 _ hw) hdg (hK _ ht p e R s0 m args below meth cd G Q C hf hlo hR H locs ls cells slots hP hS hl hc hs)
theorem so_ldc2 {i : Nat} {v : Int64} (hw : Cond.constantLong M.1.cls i v ∈ ct_WS) (hdg : decode M.2.1 pc = .ok (.ldc2_w i, 3)) : ct_Sn l M pc (o_push (.long v) 3) := by
  rintro ⟨_, lv, st, g, bc, bs⟩ rfl d Post K hd1 ht hK
  intro p e R s0 m args below meth cd G Q C hf hlo hR H locs ls cells slots hP hS hl hc hs
  exact lv_ldc2 C.1 C.2.1 C.2.2.2.1 (C.2.2.2.2.1 _ hw) hdg (hK _ ht p e R s0 m args below meth cd G Q C hf hlo hR H locs ls cells slots hP hS hl hc hs)
def o_iload (i len : Nat) (cf : ct_Cf) (K : ct_Cf → Prop) : Prop := match ct_lg cf.2.1 i with
  | some (.int x) => K (cf.1 + len, cf.2.1, .int x :: cf.2.2.1, cf.2.2.2)
  | _ => False
theorem so_iload_n {k : Fin 4} {i : Nat} (hdg : decode M.2.1 pc = .ok (.iload_n k, 1)) (hi : (k : Nat) = i) : ct_Sn l M pc (o_iload i 1) := by
  rintro ⟨_, lv, st, g, bc, bs⟩ rfl d Post K hd1 ht hK
  dsimp only [o_iload] at ht
  split at ht
  · rename_i x hx
    intro p e R s0 m args below meth cd G Q C hf hlo hR H locs ls cells slots hP hS hl hc hs
    exact lv_iload_n C.1 C.2.1 hdg hi (ct_lg_at hl hx) (hK _ ht p e R s0 m args below meth cd G Q C hf hlo hR H locs ls cells slots hP hS hl hc hs)
  · exact ht.elim
theorem so_iload {i : Nat} (hdg : decode M.2.1 pc = .ok (.iload i, 2)) : ct_Sn l M pc (o_iload i 2) := by
  rintro ⟨_, lv, st, g, bc, bs⟩ rfl d Post K hd1 ht hK
  dsimp only [o_iload] at ht
  split at ht
  · rename_i x hx
    intro p e R s0 m args below meth cd G Q C hf hlo hR H locs ls cells slots hP hS hl hc hs
    exact lv_iload C.1 C.2.1 hdg (ct_lg_at hl hx) (hK _ ht p e R s0 m args below meth cd G Q C hf hlo hR H locs ls cells slots hP hS hl hc hs)
  · exact ht.elim
def o_lload (i len : Nat) (cf : ct_Cf) (K : ct_Cf → Prop) : Prop := match ct_lg cf.2.1 i with
  | some (.long x) => K (cf.1 + len, cf.2.1, .long x :: cf.2.2.1, cf.2.2.2)
  | _ => False
theorem so_lload_n {k : Fin 4} {i : Nat} (hdg : decode M.2.1 pc = .ok (.lload_n k, 1)) (hi : (k : Nat) = i) : ct_Sn l M pc (o_lload i 1) := by
  rintro ⟨_, lv, st, g, bc, bs⟩ rfl d Post K hd1 ht hK
  dsimp only [o_lload] at ht
  split at ht
  · rename_i x hx
    intro p e R s0 m args below meth cd G Q C hf hlo hR H locs ls cells slots hP hS hl hc hs
    exact lv_lload_n C.1 C.2.1 hdg hi (ct_lg_at hl hx) (hK _ ht p e R s0 m args below meth cd G Q C hf hlo hR H locs ls cells slots hP hS hl hc hs)
  · exact ht.elim
theorem so_lload {i : Nat} (hdg : decode M.2.1 pc = .ok (.lload i, 2)) : ct_Sn l M pc (o_lload i 2) := by
  rintro ⟨_, lv, st, g, bc, bs⟩ rfl d Post K hd1 ht hK
  dsimp only [o_lload] at ht
  split at ht
  · rename_i x hx
    intro p e R s0 m args below meth cd G Q C hf hlo hR H locs ls cells slots hP hS hl hc hs
    exact lv_lload C.1 C.2.1 hdg (ct_lg_at hl hx) (hK _ ht p e R s0 m args below meth cd G Q C hf hlo hR H locs ls cells slots hP hS hl hc hs)
  · exact ht.elim
def o_aload (i len : Nat) (cf : ct_Cf) (K : ct_Cf → Prop) : Prop := match ct_lg cf.2.1 i with
  | some (.ref x) => K (cf.1 + len, cf.2.1, .ref x :: cf.2.2.1, cf.2.2.2)
  | _ => False
theorem so_aload_n {k : Fin 4} {i : Nat} (hdg : decode M.2.1 pc = .ok (.aload_n k, 1)) (hi : (k : Nat) = i) : ct_Sn l M pc (o_aload i 1) := by
  rintro ⟨_, lv, st, g, bc, bs⟩ rfl d Post K hd1 ht hK
  dsimp only [o_aload] at ht
  split at ht
  · rename_i x hx
    intro p e R s0 m args below meth cd G Q C hf hlo hR H locs ls cells slots hP hS hl hc hs
    exact lv_aload_n C.1 C.2.1 hdg hi (ct_lg_at hl hx) (hK _ ht p e R s0 m args below meth cd G Q C hf hlo hR H locs ls cells slots hP hS hl hc hs)
  · exact ht.elim
theorem so_aload {i : Nat} (hdg : decode M.2.1 pc = .ok (.aload i, 2)) : ct_Sn l M pc (o_aload i 2) := by
  rintro ⟨_, lv, st, g, bc, bs⟩ rfl d Post K hd1 ht hK
  dsimp only [o_aload] at ht
  split at ht
  · rename_i x hx
    intro p e R s0 m args below meth cd G Q C hf hlo hR H locs ls cells slots hP hS hl hc hs
    exact lv_aload C.1 C.2.1 hdg (ct_lg_at hl hx) (hK _ ht p e R s0 m args below meth cd G Q C hf hlo hR H locs ls cells slots hP hS hl hc hs)
  · exact ht.elim
def o_istore (i len : Nat) (cf : ct_Cf) (K : ct_Cf → Prop) : Prop := match cf.2.2.1 with
  | .int x :: st => K (cf.1 + len, ct_s1 cf.2.1 i (.int x), st, cf.2.2.2)
  | _ => False
theorem so_istore_n {k : Fin 4} {i : Nat} (hdg : decode M.2.1 pc = .ok (.istore_n k, 1)) (hi : (k : Nat) = i) (hn : i < M.2.2.1) : ct_Sn l M pc (o_istore i 1) := by
  rintro ⟨_, lv, st, g, bc, bs⟩ rfl d Post K hd1 ht hK
  dsimp only [o_istore] at ht
  split at ht
  · rename_i x st
    intro p e R s0 m args below meth cd G Q C hf hlo hR H locs ls cells slots hP hS hl hc hs
    exact lv_istore_n C.1 C.2.1 hdg hi hl hn (ct_s1_eq G lv i (.int x)) fun ls' hl' => (hK _ ht p e R s0 m args below meth cd G Q C hf hlo hR H locs ls' cells slots hP hS hl' hc hs)
  · exact ht.elim
theorem so_istore {i : Nat} (hdg : decode M.2.1 pc = .ok (.istore i, 2)) (hn : i < M.2.2.1) : ct_Sn l M pc (o_istore i 2) := by
  rintro ⟨_, lv, st, g, bc, bs⟩ rfl d Post K hd1 ht hK
  dsimp only [o_istore] at ht
  split at ht
  · rename_i x st
    intro p e R s0 m args below meth cd G Q C hf hlo hR H locs ls cells slots hP hS hl hc hs
    exact lv_istore C.1 C.2.1 hdg hl hn (ct_s1_eq G lv i (.int x)) fun ls' hl' => (hK _ ht p e R s0 m args below meth cd G Q C hf hlo hR H locs ls' cells slots hP hS hl' hc hs)
  · exact ht.elim
def o_astore (i len : Nat) (cf : ct_Cf) (K : ct_Cf → Prop) : Prop := match cf.2.2.1 with
  | .ref x :: st => K (cf.1 + len, ct_s1 cf.2.1 i (.ref x), st, cf.2.2.2)
  | _ => False
theorem so_astore_n {k : Fin 4} {i : Nat} (hdg : decode M.2.1 pc = .ok (.astore_n k, 1)) (hi : (k : Nat) = i) (hn : i < M.2.2.1) : ct_Sn l M pc (o_astore i 1) := by
  rintro ⟨_, lv, st, g, bc, bs⟩ rfl d Post K hd1 ht hK
  dsimp only [o_astore] at ht
  split at ht
  · rename_i x st
    intro p e R s0 m args below meth cd G Q C hf hlo hR H locs ls cells slots hP hS hl hc hs
    exact lv_astore_n C.1 C.2.1 hdg hi hl hn (ct_s1_eq G lv i (.ref x)) fun ls' hl' => (hK _ ht p e R s0 m args below meth cd G Q C hf hlo hR H locs ls' cells slots hP hS hl' hc hs)
  · exact ht.elim
theorem so_astore {i : Nat} (hdg : decode M.2.1 pc = .ok (.astore i, 2)) (hn : i < M.2.2.1) : ct_Sn l M pc (o_astore i 2) := by
  rintro ⟨_, lv, st, g, bc, bs⟩ rfl d Post K hd1 ht hK
  dsimp only [o_astore] at ht
  split at ht
  · rename_i x st
    intro p e R s0 m args below meth cd G Q C hf hlo hR H locs ls cells slots hP hS hl hc hs
    exact lv_astore C.1 C.2.1 hdg hl hn (ct_s1_eq G lv i (.ref x)) fun ls' hl' => (hK _ ht p e R s0 m args below meth cd G Q C hf hlo hR H locs ls' cells slots hP hS hl' hc hs)
  · exact ht.elim
def o_lstore (i len : Nat) (cf : ct_Cf) (K : ct_Cf → Prop) : Prop := match cf.2.2.1 with
  | .long x :: st => K (cf.1 + len, ct_s2 cf.2.1 i (.long x), st, cf.2.2.2)
  | _ => False
theorem so_lstore_n {k : Fin 4} {i : Nat} (hdg : decode M.2.1 pc = .ok (.lstore_n k, 1)) (hi : (k : Nat) = i) (hn : i + 1 < M.2.2.1) : ct_Sn l M pc (o_lstore i 1) := by
  rintro ⟨_, lv, st, g, bc, bs⟩ rfl d Post K hd1 ht hK
  dsimp only [o_lstore] at ht
  split at ht
  · rename_i x st
    intro p e R s0 m args below meth cd G Q C hf hlo hR H locs ls cells slots hP hS hl hc hs
    exact lv_lstore_n C.1 C.2.1 hdg hi hl hn (ct_s2_eq G lv i (.long x)) fun ls' hl' => (hK _ ht p e R s0 m args below meth cd G Q C hf hlo hR H locs ls' cells slots hP hS hl' hc hs)
  · exact ht.elim
theorem so_lstore {i : Nat} (hdg : decode M.2.1 pc = .ok (.lstore i, 2)) (hn : i + 1 < M.2.2.1) : ct_Sn l M pc (o_lstore i 2) := by
  rintro ⟨_, lv, st, g, bc, bs⟩ rfl d Post K hd1 ht hK
  dsimp only [o_lstore] at ht
  split at ht
  · rename_i x st
    intro p e R s0 m args below meth cd G Q C hf hlo hR H locs ls cells slots hP hS hl hc hs
    exact lv_lstore C.1 C.2.1 hdg hl hn (ct_s2_eq G lv i (.long x)) fun ls' hl' => (hK _ ht p e R s0 m args below meth cd G Q C hf hlo hR H locs ls' cells slots hP hS hl' hc hs)
  · exact ht.elim
def o_iinc (i : Nat) (v : Int32) (cf : ct_Cf) (K : ct_Cf → Prop) : Prop := match ct_lg cf.2.1 i with
  | some (.int x) => K (cf.1 + 3, ct_s1 cf.2.1 i (.int (x + v)), cf.2.2.1, cf.2.2.2)
  | _ => False
theorem ct_lg_idx {G : ct_Gx} {lv : ct_Lv} {i : Nat} {x : Int32} (h : ct_lg lv i = some (.int x)) : ∃ k : Nat, (ct_lv G lv)[k]? = some (i, .int x) :=
  List.getElem?_of_mem (List.mem_map.mpr ⟨(i, .int x), ct_lg_mem h, rfl⟩)
theorem so_iinc {i : Nat} {n : Int} {v : Int32} (hdg : decode M.2.1 pc = .ok (.iinc i n, 3)) (hv : Int32.ofInt n = v) (hn : i < M.2.2.1) : ct_Sn l M pc (o_iinc i v) := by
  rintro ⟨_, lv, st, g, bc, bs⟩ rfl d Post K hd1 ht hK
  dsimp only [o_iinc] at ht
  split at ht
  · rename_i x hx
    intro p e R s0 m args below meth cd G Q C hf hlo hR H locs ls cells slots hP hS hl hc hs
    obtain ⟨k, hk⟩ := ct_lg_idx (G := G) hx
    exact lv_iinc C.1 C.2.1 hdg hl hk (by rw [hv]) hn (ct_s1_eq G lv i (.int (x + v))) fun ls' hl' => (hK _ ht p e R s0 m args below meth cd G Q C hf hlo hR H locs ls' cells slots hP hS hl' hc hs)
  · exact ht.elim
def o_ii (f : Int32 → Int32 → Int32) (cf : ct_Cf) (K : ct_Cf → Prop) : Prop := match cf.2.2.1 with
  | .int y :: .int x :: st => K (cf.1 + 1, cf.2.1, .int (f x y) :: st, cf.2.2.2)
  | _ => False
def o_ll (f : Int64 → Int64 → Int64) (cf : ct_Cf) (K : ct_Cf → Prop) : Prop := match cf.2.2.1 with
  | .long y :: .long x :: st => K (cf.1 + 1, cf.2.1, .long (f x y) :: st, cf.2.2.2)
  | _ => False
def o_li (f : Int64 → Int32 → Int64) (cf : ct_Cf) (K : ct_Cf → Prop) : Prop := match cf.2.2.1 with
  | .int y :: .long x :: st => K (cf.1 + 1, cf.2.1, .long (f x y) :: st, cf.2.2.2)
  | _ => False
def o_i1 (f : Int32 → Int32) (cf : ct_Cf) (K : ct_Cf → Prop) : Prop := match cf.2.2.1 with
  | .int x :: st => K (cf.1 + 1, cf.2.1, .int (f x) :: st, cf.2.2.2)
  | _ => False
def o_i2l (cf : ct_Cf) (K : ct_Cf → Prop) : Prop := match cf.2.2.1 with
  | .int x :: st => K (cf.1 + 1, cf.2.1, .long x.toInt64 :: st, cf.2.2.2)
  | _ => False
def o_l2i (cf : ct_Cf) (K : ct_Cf → Prop) : Prop := match cf.2.2.1 with
  | .long x :: st => K (cf.1 + 1, cf.2.1, .int x.toInt32 :: st, cf.2.2.2)
  | _ => False
def o_lcmp (cf : ct_Cf) (K : ct_Cf → Prop) : Prop := match cf.2.2.1 with
  | .long y :: .long x :: st => K (cf.1 + 1, cf.2.1, .int (lg_cmp x y) :: st, cf.2.2.2)
  | _ => False
theorem so_iadd (hdg : decode M.2.1 pc = .ok (.iadd, 1)) : ct_Sn l M pc (o_ii fun x y => x + y) := by
  rintro ⟨_, lv, st, g, bc, bs⟩ rfl d Post K hd1 ht hK
  dsimp only [o_ii] at ht
  split at ht
  · rename_i y x st
    intro p e R s0 m args below meth cd G Q C hf hlo hR H locs ls cells slots hP hS hl hc hs
    exact lv_iadd C.1 C.2.1 hdg (hK _ ht p e R s0 m args below meth cd G Q C hf hlo hR H locs ls cells slots hP hS hl hc hs)
  · exact ht.elim
theorem so_isub (hdg : decode M.2.1 pc = .ok (.isub, 1)) : ct_Sn l M pc (o_ii fun x y => x - y) := by
  rintro ⟨_, lv, st, g, bc, bs⟩ rfl d Post K hd1 ht hK
  dsimp only [o_ii] at ht
  split at ht
  · rename_i y x st
    intro p e R s0 m args below meth cd G Q C hf hlo hR H locs ls cells slots hP hS hl hc hs
    exact lv_isub C.1 C.2.1 hdg (hK _ ht p e R s0 m args below meth cd G Q C hf hlo hR H locs ls cells slots hP hS hl hc hs)
  · exact ht.elim
theorem so_imul (hdg : decode M.2.1 pc = .ok (.imul, 1)) : ct_Sn l M pc (o_ii fun x y => x * y) := by
  rintro ⟨_, lv, st, g, bc, bs⟩ rfl d Post K hd1 ht hK
  dsimp only [o_ii] at ht
  split at ht
  · rename_i y x st
    intro p e R s0 m args below meth cd G Q C hf hlo hR H locs ls cells slots hP hS hl hc hs
    exact lv_imul C.1 C.2.1 hdg (hK _ ht p e R s0 m args below meth cd G Q C hf hlo hR H locs ls cells slots hP hS hl hc hs)
  · exact ht.elim
theorem so_iand (hdg : decode M.2.1 pc = .ok (.iand, 1)) : ct_Sn l M pc (o_ii fun x y => x &&& y) := by
  rintro ⟨_, lv, st, g, bc, bs⟩ rfl d Post K hd1 ht hK
  dsimp only [o_ii] at ht
  split at ht
  · rename_i y x st
    intro p e R s0 m args below meth cd G Q C hf hlo hR H locs ls cells slots hP hS hl hc hs
    exact lv_iand C.1 C.2.1 hdg (hK _ ht p e R s0 m args below meth cd G Q C hf hlo hR H locs ls cells slots hP hS hl hc hs)
  · exact ht.elim
theorem so_ior (hdg : decode M.2.1 pc = .ok (.ior, 1)) : ct_Sn l M pc (o_ii fun x y => x ||| y) := by
  rintro ⟨_, lv, st, g, bc, bs⟩ rfl d Post K hd1 ht hK
  dsimp only [o_ii] at ht
  split at ht
  · rename_i y x st
    intro p e R s0 m args below meth cd G Q C hf hlo hR H locs ls cells slots hP hS hl hc hs
    exact lv_ior C.1 C.2.1 hdg (hK _ ht p e R s0 m args below meth cd G Q C hf hlo hR H locs ls cells slots hP hS hl hc hs)
  · exact ht.elim
theorem so_ixor (hdg : decode M.2.1 pc = .ok (.ixor, 1)) : ct_Sn l M pc (o_ii fun x y => x ^^^ y) := by
  rintro ⟨_, lv, st, g, bc, bs⟩ rfl d Post K hd1 ht hK
  dsimp only [o_ii] at ht
  split at ht
  · rename_i y x st
    intro p e R s0 m args below meth cd G Q C hf hlo hR H locs ls cells slots hP hS hl hc hs
    exact lv_ixor C.1 C.2.1 hdg (hK _ ht p e R s0 m args below meth cd G Q C hf hlo hR H locs ls cells slots hP hS hl hc hs)
  · exact ht.elim
theorem so_ishl (hdg : decode M.2.1 pc = .ok (.ishl, 1)) : ct_Sn l M pc (o_ii fun x y => x <<< (y &&& 31)) := by
  rintro ⟨_, lv, st, g, bc, bs⟩ rfl d Post K hd1 ht hK
  dsimp only [o_ii] at ht
  split at ht
  · rename_i y x st
    intro p e R s0 m args below meth cd G Q C hf hlo hR H locs ls cells slots hP hS hl hc hs
    exact lv_ishl C.1 C.2.1 hdg (hK _ ht p e R s0 m args below meth cd G Q C hf hlo hR H locs ls cells slots hP hS hl hc hs)
  · exact ht.elim
theorem so_ishr (hdg : decode M.2.1 pc = .ok (.ishr, 1)) : ct_Sn l M pc (o_ii fun x y => x >>> (y &&& 31)) := by
  rintro ⟨_, lv, st, g, bc, bs⟩ rfl d Post K hd1 ht hK
  dsimp only [o_ii] at ht
  split at ht
  · rename_i y x st
    intro p e R s0 m args below meth cd G Q C hf hlo hR H locs ls cells slots hP hS hl hc hs
    exact lv_ishr C.1 C.2.1 hdg (hK _ ht p e R s0 m args below meth cd G Q C hf hlo hR H locs ls cells slots hP hS hl hc hs)
  · exact ht.elim
theorem so_iushr (hdg : decode M.2.1 pc = .ok (.iushr, 1)) : ct_Sn l M pc (o_ii fun x y => (x.toUInt32 >>> (y.toUInt32 &&& Int32.toUInt32 31)).toInt32) := by
  rintro ⟨_, lv, st, g, bc, bs⟩ rfl d Post K hd1 ht hK
  dsimp only [o_ii] at ht
  split at ht
  · rename_i y x st
    intro p e R s0 m args below meth cd G Q C hf hlo hR H locs ls cells slots hP hS hl hc hs
    exact lv_iushr C.1 C.2.1 hdg rfl (hK _ ht p e R s0 m args below meth cd G Q C hf hlo hR H locs ls cells slots hP hS hl hc hs)
  · exact ht.elim
theorem so_ladd (hdg : decode M.2.1 pc = .ok (.ladd, 1)) : ct_Sn l M pc (o_ll fun x y => x + y) := by
  rintro ⟨_, lv, st, g, bc, bs⟩ rfl d Post K hd1 ht hK
  dsimp only [o_ll] at ht
  split at ht
  · rename_i y x st
    intro p e R s0 m args below meth cd G Q C hf hlo hR H locs ls cells slots hP hS hl hc hs
    exact lv_ladd C.1 C.2.1 hdg (hK _ ht p e R s0 m args below meth cd G Q C hf hlo hR H locs ls cells slots hP hS hl hc hs)
  · exact ht.elim
theorem so_lsub (hdg : decode M.2.1 pc = .ok (.lsub, 1)) : ct_Sn l M pc (o_ll fun x y => x - y) := by
  rintro ⟨_, lv, st, g, bc, bs⟩ rfl d Post K hd1 ht hK
  dsimp only [o_ll] at ht
  split at ht
  · rename_i y x st
    intro p e R s0 m args below meth cd G Q C hf hlo hR H locs ls cells slots hP hS hl hc hs
    exact lv_lsub C.1 C.2.1 hdg (hK _ ht p e R s0 m args below meth cd G Q C hf hlo hR H locs ls cells slots hP hS hl hc hs)
  · exact ht.elim
theorem so_lmul (hdg : decode M.2.1 pc = .ok (.lmul, 1)) : ct_Sn l M pc (o_ll fun x y => x * y) := by
  rintro ⟨_, lv, st, g, bc, bs⟩ rfl d Post K hd1 ht hK
  dsimp only [o_ll] at ht
  split at ht
  · rename_i y x st
    intro p e R s0 m args below meth cd G Q C hf hlo hR H locs ls cells slots hP hS hl hc hs
    exact lv_lmul C.1 C.2.1 hdg (hK _ ht p e R s0 m args below meth cd G Q C hf hlo hR H locs ls cells slots hP hS hl hc hs)
  · exact ht.elim
theorem so_land (hdg : decode M.2.1 pc = .ok (.land, 1)) : ct_Sn l M pc (o_ll fun x y => x &&& y) := by
  rintro ⟨_, lv, st, g, bc, bs⟩ rfl d Post K hd1 ht hK
  dsimp only [o_ll] at ht
  split at ht
  · rename_i y x st
    intro p e R s0 m args below meth cd G Q C hf hlo hR H locs ls cells slots hP hS hl hc hs
    exact lv_land C.1 C.2.1 hdg (hK _ ht p e R s0 m args below meth cd G Q C hf hlo hR H locs ls cells slots hP hS hl hc hs)
  · exact ht.elim
theorem so_lor (hdg : decode M.2.1 pc = .ok (.lor, 1)) : ct_Sn l M pc (o_ll fun x y => x ||| y) := by
  rintro ⟨_, lv, st, g, bc, bs⟩ rfl d Post K hd1 ht hK
  dsimp only [o_ll] at ht
  split at ht
  · rename_i y x st
    intro p e R s0 m args below meth cd G Q C hf hlo hR H locs ls cells slots hP hS hl hc hs
    exact lv_lor C.1 C.2.1 hdg (hK _ ht p e R s0 m args below meth cd G Q C hf hlo hR H locs ls cells slots hP hS hl hc hs)
  · exact ht.elim
theorem so_lxor (hdg : decode M.2.1 pc = .ok (.lxor, 1)) : ct_Sn l M pc (o_ll fun x y => x ^^^ y) := by
  rintro ⟨_, lv, st, g, bc, bs⟩ rfl d Post K hd1 ht hK
  dsimp only [o_ll] at ht
  split at ht
  · rename_i y x st
    intro p e R s0 m args below meth cd G Q C hf hlo hR H locs ls cells slots hP hS hl hc hs
    exact lv_lxor C.1 C.2.1 hdg (hK _ ht p e R s0 m args below meth cd G Q C hf hlo hR H locs ls cells slots hP hS hl hc hs)
  · exact ht.elim
theorem so_lushr (hdg : decode M.2.1 pc = .ok (.lushr, 1)) : ct_Sn l M pc (o_li fun x y => (x.toUInt64 >>> (y.toInt64.toUInt64 &&& Int64.toUInt64 63)).toInt64) := by
  rintro ⟨_, lv, st, g, bc, bs⟩ rfl d Post K hd1 ht hK
  dsimp only [o_li] at ht
  split at ht
  · rename_i y x st
    intro p e R s0 m args below meth cd G Q C hf hlo hR H locs ls cells slots hP hS hl hc hs
    exact lv_lushr C.1 C.2.1 hdg rfl (hK _ ht p e R s0 m args below meth cd G Q C hf hlo hR H locs ls cells slots hP hS hl hc hs)
  · exact ht.elim
theorem so_lshl (hdg : decode M.2.1 pc = .ok (.lshl, 1)) : ct_Sn l M pc (o_li fun x y => x <<< (y.toInt64 &&& 63)) := by
  rintro ⟨_, lv, st, g, bc, bs⟩ rfl d Post K hd1 ht hK
  dsimp only [o_li] at ht
  split at ht
  · rename_i y x st
    intro p e R s0 m args below meth cd G Q C hf hlo hR H locs ls cells slots hP hS hl hc hs
    exact lv_lshl C.1 C.2.1 hdg rfl (hK _ ht p e R s0 m args below meth cd G Q C hf hlo hR H locs ls cells slots hP hS hl hc hs)
  · exact ht.elim
theorem so_lshr (hdg : decode M.2.1 pc = .ok (.lshr, 1)) : ct_Sn l M pc (o_li fun x y => x >>> (y.toInt64 &&& 63)) := by
  rintro ⟨_, lv, st, g, bc, bs⟩ rfl d Post K hd1 ht hK
  dsimp only [o_li] at ht
  split at ht
  · rename_i y x st
    intro p e R s0 m args below meth cd G Q C hf hlo hR H locs ls cells slots hP hS hl hc hs
    exact lv_lshr C.1 C.2.1 hdg rfl (hK _ ht p e R s0 m args below meth cd G Q C hf hlo hR H locs ls cells slots hP hS hl hc hs)
  · exact ht.elim
theorem so_ineg (hdg : decode M.2.1 pc = .ok (.ineg, 1)) : ct_Sn l M pc (o_i1 fun x => -x) := by
  rintro ⟨_, lv, st, g, bc, bs⟩ rfl d Post K hd1 ht hK
  dsimp only [o_i1] at ht
  split at ht
  · rename_i x st
    intro p e R s0 m args below meth cd G Q C hf hlo hR H locs ls cells slots hP hS hl hc hs
    exact lv_ineg C.1 C.2.1 hdg (hK _ ht p e R s0 m args below meth cd G Q C hf hlo hR H locs ls cells slots hP hS hl hc hs)
  · exact ht.elim
theorem so_i2b (hdg : decode M.2.1 pc = .ok (.i2b, 1)) : ct_Sn l M pc (o_i1 fun x => x.toInt8.toInt32) := by
  rintro ⟨_, lv, st, g, bc, bs⟩ rfl d Post K hd1 ht hK
  dsimp only [o_i1] at ht
  split at ht
  · rename_i x st
    intro p e R s0 m args below meth cd G Q C hf hlo hR H locs ls cells slots hP hS hl hc hs
    exact lv_i2b C.1 C.2.1 hdg rfl (hK _ ht p e R s0 m args below meth cd G Q C hf hlo hR H locs ls cells slots hP hS hl hc hs)
  · exact ht.elim
theorem so_i2c (hdg : decode M.2.1 pc = .ok (.i2c, 1)) : ct_Sn l M pc (o_i1 fun x => (x.toUInt32 % 65536).toInt32) := by
  rintro ⟨_, lv, st, g, bc, bs⟩ rfl d Post K hd1 ht hK
  dsimp only [o_i1] at ht
  split at ht
  · rename_i x st
    intro p e R s0 m args below meth cd G Q C hf hlo hR H locs ls cells slots hP hS hl hc hs
    exact lv_i2c C.1 C.2.1 hdg rfl (hK _ ht p e R s0 m args below meth cd G Q C hf hlo hR H locs ls cells slots hP hS hl hc hs)
  · exact ht.elim
theorem so_i2s (hdg : decode M.2.1 pc = .ok (.i2s, 1)) : ct_Sn l M pc (o_i1 fun x => x.toInt16.toInt32) := by
  rintro ⟨_, lv, st, g, bc, bs⟩ rfl d Post K hd1 ht hK
  dsimp only [o_i1] at ht
  split at ht
  · rename_i x st
    intro p e R s0 m args below meth cd G Q C hf hlo hR H locs ls cells slots hP hS hl hc hs
    exact lv_i2s C.1 C.2.1 hdg rfl (hK _ ht p e R s0 m args below meth cd G Q C hf hlo hR H locs ls cells slots hP hS hl hc hs)
  · exact ht.elim
theorem so_i2l (hdg : decode M.2.1 pc = .ok (.i2l, 1)) : ct_Sn l M pc (o_i2l) := by
  rintro ⟨_, lv, st, g, bc, bs⟩ rfl d Post K hd1 ht hK
  dsimp only [o_i2l] at ht
  split at ht
  · rename_i x st
    intro p e R s0 m args below meth cd G Q C hf hlo hR H locs ls cells slots hP hS hl hc hs
    exact lv_i2l C.1 C.2.1 hdg rfl (hK _ ht p e R s0 m args below meth cd G Q C hf hlo hR H locs ls cells slots hP hS hl hc hs)
  · exact ht.elim
theorem so_l2i (hdg : decode M.2.1 pc = .ok (.l2i, 1)) : ct_Sn l M pc (o_l2i) := by
  rintro ⟨_, lv, st, g, bc, bs⟩ rfl d Post K hd1 ht hK
  dsimp only [o_l2i] at ht
  split at ht
  · rename_i x st
    intro p e R s0 m args below meth cd G Q C hf hlo hR H locs ls cells slots hP hS hl hc hs
    exact lv_l2i C.1 C.2.1 hdg rfl (hK _ ht p e R s0 m args below meth cd G Q C hf hlo hR H locs ls cells slots hP hS hl hc hs)
  · exact ht.elim
theorem so_lcmp (hdg : decode M.2.1 pc = .ok (.lcmp, 1)) : ct_Sn l M pc (o_lcmp) := by
  rintro ⟨_, lv, st, g, bc, bs⟩ rfl d Post K hd1 ht hK
  dsimp only [o_lcmp] at ht
  split at ht
  · rename_i y x st
    intro p e R s0 m args below meth cd G Q C hf hlo hR H locs ls cells slots hP hS hl hc hs
    exact W.lcmp C.1 C.2.1 hdg (hK _ ht p e R s0 m args below meth cd G Q C hf hlo hR H locs ls cells slots hP hS hl hc hs)
  · exact ht.elim
def o_dup (cf : ct_Cf) (K : ct_Cf → Prop) : Prop := match cf.2.2.1 with
  | va :: st => va.category = 1 ∧ K (cf.1 + 1, cf.2.1, va :: va :: st, cf.2.2.2)
  | _ => False
theorem so_dup (hdg : decode M.2.1 pc = .ok (.dup, 1)) : ct_Sn l M pc o_dup := by
  rintro ⟨_, lv, st, g, bc, bs⟩ rfl d Post K hd1 ht hK
  dsimp only [o_dup] at ht
  split at ht
  · rename_i va st
    obtain ⟨h0, ht⟩ := ht
    intro p e R s0 m args below meth cd G Q C hf hlo hR H locs ls cells slots hP hS hl hc hs
    exact lv_dup C.1 C.2.1 hdg ((ct_cv_cat G _).trans h0) (hK _ ht p e R s0 m args below meth cd G Q C hf hlo hR H locs ls cells slots hP hS hl hc hs)
  · exact ht.elim
def o_pop (cf : ct_Cf) (K : ct_Cf → Prop) : Prop := match cf.2.2.1 with
  | va :: st => va.category = 1 ∧ K (cf.1 + 1, cf.2.1, st, cf.2.2.2)
  | _ => False
theorem so_pop (hdg : decode M.2.1 pc = .ok (.pop, 1)) : ct_Sn l M pc o_pop := by
  rintro ⟨_, lv, st, g, bc, bs⟩ rfl d Post K hd1 ht hK
  dsimp only [o_pop] at ht
  split at ht
  · rename_i va st
    obtain ⟨h0, ht⟩ := ht
    intro p e R s0 m args below meth cd G Q C hf hlo hR H locs ls cells slots hP hS hl hc hs
    exact lv_pop C.1 C.2.1 hdg ((ct_cv_cat G _).trans h0) (hK _ ht p e R s0 m args below meth cd G Q C hf hlo hR H locs ls cells slots hP hS hl hc hs)
  · exact ht.elim
def o_dup2 (cf : ct_Cf) (K : ct_Cf → Prop) : Prop := match cf.2.2.1 with
  | va :: vb :: st => va.category = 1 ∧ vb.category = 1 ∧ K (cf.1 + 1, cf.2.1, va :: vb :: va :: vb :: st, cf.2.2.2)
  | _ => False
theorem so_dup2 (hdg : decode M.2.1 pc = .ok (.dup2, 1)) : ct_Sn l M pc o_dup2 := by
  rintro ⟨_, lv, st, g, bc, bs⟩ rfl d Post K hd1 ht hK
  dsimp only [o_dup2] at ht
  split at ht
  · rename_i va vb st
    obtain ⟨h0, h1, ht⟩ := ht
    intro p e R s0 m args below meth cd G Q C hf hlo hR H locs ls cells slots hP hS hl hc hs
    exact lv_dup2_11 C.1 C.2.1 hdg ((ct_cv_cat G _).trans h0) ((ct_cv_cat G _).trans h1) (hK _ ht p e R s0 m args below meth cd G Q C hf hlo hR H locs ls cells slots hP hS hl hc hs)
  · exact ht.elim
def o_dupx1 (cf : ct_Cf) (K : ct_Cf → Prop) : Prop := match cf.2.2.1 with
  | va :: vb :: st => va.category = 1 ∧ vb.category = 1 ∧ K (cf.1 + 1, cf.2.1, va :: vb :: va :: st, cf.2.2.2)
  | _ => False
theorem so_dupx1 (hdg : decode M.2.1 pc = .ok (.dup_x1, 1)) : ct_Sn l M pc o_dupx1 := by
  rintro ⟨_, lv, st, g, bc, bs⟩ rfl d Post K hd1 ht hK
  dsimp only [o_dupx1] at ht
  split at ht
  · rename_i va vb st
    obtain ⟨h0, h1, ht⟩ := ht
    intro p e R s0 m args below meth cd G Q C hf hlo hR H locs ls cells slots hP hS hl hc hs
    exact lv_dup_x1 C.1 C.2.1 hdg ((ct_cv_cat G _).trans h0) ((ct_cv_cat G _).trans h1) (hK _ ht p e R s0 m args below meth cd G Q C hf hlo hR H locs ls cells slots hP hS hl hc hs)
  · exact ht.elim
def o_dupx2 (cf : ct_Cf) (K : ct_Cf → Prop) : Prop := match cf.2.2.1 with
  | va :: vb :: vd :: st => va.category = 1 ∧ vb.category = 1 ∧ vd.category = 1 ∧ K (cf.1 + 1, cf.2.1, va :: vb :: vd :: va :: st, cf.2.2.2)
  | _ => False
theorem so_dupx2 (hdg : decode M.2.1 pc = .ok (.dup_x2, 1)) : ct_Sn l M pc o_dupx2 := by
  rintro ⟨_, lv, st, g, bc, bs⟩ rfl d Post K hd1 ht hK
  dsimp only [o_dupx2] at ht
  split at ht
  · rename_i va vb vd st
    obtain ⟨h0, h1, h2, ht⟩ := ht
    intro p e R s0 m args below meth cd G Q C hf hlo hR H locs ls cells slots hP hS hl hc hs
    exact lv_dup_x2 C.1 C.2.1 hdg ((ct_cv_cat G _).trans h0) ((ct_cv_cat G _).trans h1) ((ct_cv_cat G _).trans h2) (hK _ ht p e R s0 m args below meth cd G Q C hf hlo hR H locs ls cells slots hP hS hl hc hs)
  · exact ht.elim
def o_dup2l (cf : ct_Cf) (K : ct_Cf → Prop) : Prop := match cf.2.2.1 with
  | va :: st => va.category = 2 ∧ K (cf.1 + 1, cf.2.1, va :: va :: st, cf.2.2.2)
  | _ => False
theorem so_dup2l (hdg : decode M.2.1 pc = .ok (.dup2, 1)) : ct_Sn l M pc o_dup2l := by
  rintro ⟨_, lv, st, g, bc, bs⟩ rfl d Post K hd1 ht hK
  dsimp only [o_dup2l] at ht
  split at ht
  · rename_i va st
    obtain ⟨h0, ht⟩ := ht
    intro p e R s0 m args below meth cd G Q C hf hlo hR H locs ls cells slots hP hS hl hc hs
    exact lv_dup2_2 C.1 C.2.1 hdg ((ct_cv_cat G _).trans h0) (hK _ ht p e R s0 m args below meth cd G Q C hf hlo hR H locs ls cells slots hP hS hl hc hs)
  · exact ht.elim
def o_pop2l (cf : ct_Cf) (K : ct_Cf → Prop) : Prop := match cf.2.2.1 with
  | va :: st => va.category = 2 ∧ K (cf.1 + 1, cf.2.1, st, cf.2.2.2)
  | _ => False
theorem so_pop2l (hdg : decode M.2.1 pc = .ok (.pop2, 1)) : ct_Sn l M pc o_pop2l := by
  rintro ⟨_, lv, st, g, bc, bs⟩ rfl d Post K hd1 ht hK
  dsimp only [o_pop2l] at ht
  split at ht
  · rename_i va st
    obtain ⟨h0, ht⟩ := ht
    intro p e R s0 m args below meth cd G Q C hf hlo hR H locs ls cells slots hP hS hl hc hs
    exact lv_pop2_2 C.1 C.2.1 hdg ((ct_cv_cat G _).trans h0) (hK _ ht p e R s0 m args below meth cd G Q C hf hlo hR H locs ls cells slots hP hS hl hc hs)
  · exact ht.elim
def o_if (A B : Int32 → Prop) (tgt : Nat) (cf : ct_Cf) (K : ct_Cf → Prop) : Prop := match cf.2.2.1 with
  | .int x :: st => (A x → K (tgt, cf.2.1, st, cf.2.2.2)) ∧ (B x → K (cf.1 + 3, cf.2.1, st, cf.2.2.2))
  | _ => False
def o_ic (A B : Int32 → Int32 → Prop) (tgt : Nat) (cf : ct_Cf) (K : ct_Cf → Prop) : Prop := match cf.2.2.1 with
  | .int y :: .int x :: st => (A x y → K (tgt, cf.2.1, st, cf.2.2.2)) ∧ (B x y → K (cf.1 + 3, cf.2.1, st, cf.2.2.2))
  | _ => False
def o_goto (tgt : Nat) (cf : ct_Cf) (K : ct_Cf → Prop) : Prop := K (tgt, cf.2.1, cf.2.2.1, cf.2.2.2)
theorem so_if_eq {off : Int} {tgt : Nat} (hdg : decode M.2.1 pc = .ok (.ifCond .eq off, 3)) (ht0 : (pc : Int) + off = (tgt : Int)) : ct_Sn l M pc (o_if (fun x => x = 0) (fun x => ¬ x = 0) tgt) := by
  rintro ⟨_, lv, st, g, bc, bs⟩ rfl d Post K hd1 ht hK
  dsimp only [o_if] at ht
  split at ht
  · rename_i x st
    intro p e R s0 m args below meth cd G Q C hf hlo hR H locs ls cells slots hP hS hl hc hs
    exact lv_if_eq C.1 C.2.1 hdg ht0 (fun hq => (hK _ (ht.1 hq) p e R s0 m args below meth cd G Q C hf hlo hR H locs ls cells slots hP hS hl hc hs)) (fun hq => (hK _ (ht.2 hq) p e R s0 m args below meth cd G Q C hf hlo hR H locs ls cells slots hP hS hl hc hs))
  · exact ht.elim
theorem so_if_ne {off : Int} {tgt : Nat} (hdg : decode M.2.1 pc = .ok (.ifCond .ne off, 3)) (ht0 : (pc : Int) + off = (tgt : Int)) : ct_Sn l M pc (o_if (fun x => ¬ x = 0) (fun x => x = 0) tgt) := by
  rintro ⟨_, lv, st, g, bc, bs⟩ rfl d Post K hd1 ht hK
  dsimp only [o_if] at ht
  split at ht
  · rename_i x st
    intro p e R s0 m args below meth cd G Q C hf hlo hR H locs ls cells slots hP hS hl hc hs
    exact lv_if_ne C.1 C.2.1 hdg ht0 (fun hq => (hK _ (ht.1 hq) p e R s0 m args below meth cd G Q C hf hlo hR H locs ls cells slots hP hS hl hc hs)) (fun hq => (hK _ (ht.2 hq) p e R s0 m args below meth cd G Q C hf hlo hR H locs ls cells slots hP hS hl hc hs))
  · exact ht.elim
theorem so_if_lt {off : Int} {tgt : Nat} (hdg : decode M.2.1 pc = .ok (.ifCond .lt off, 3)) (ht0 : (pc : Int) + off = (tgt : Int)) : ct_Sn l M pc (o_if (fun x => x < 0) (fun x => ¬ x < 0) tgt) := by
  rintro ⟨_, lv, st, g, bc, bs⟩ rfl d Post K hd1 ht hK
  dsimp only [o_if] at ht
  split at ht
  · rename_i x st
    intro p e R s0 m args below meth cd G Q C hf hlo hR H locs ls cells slots hP hS hl hc hs
    exact lv_if_lt C.1 C.2.1 hdg ht0 (fun hq => (hK _ (ht.1 hq) p e R s0 m args below meth cd G Q C hf hlo hR H locs ls cells slots hP hS hl hc hs)) (fun hq => (hK _ (ht.2 hq) p e R s0 m args below meth cd G Q C hf hlo hR H locs ls cells slots hP hS hl hc hs))
  · exact ht.elim
theorem so_if_ge {off : Int} {tgt : Nat} (hdg : decode M.2.1 pc = .ok (.ifCond .ge off, 3)) (ht0 : (pc : Int) + off = (tgt : Int)) : ct_Sn l M pc (o_if (fun x => 0 ≤ x) (fun x => ¬ 0 ≤ x) tgt) := by
  rintro ⟨_, lv, st, g, bc, bs⟩ rfl d Post K hd1 ht hK
  dsimp only [o_if] at ht
  split at ht
  · rename_i x st
    intro p e R s0 m args below meth cd G Q C hf hlo hR H locs ls cells slots hP hS hl hc hs
    exact lv_if_ge C.1 C.2.1 hdg ht0 (fun hq => (hK _ (ht.1 hq) p e R s0 m args below meth cd G Q C hf hlo hR H locs ls cells slots hP hS hl hc hs)) (fun hq => (hK _ (ht.2 hq) p e R s0 m args below meth cd G Q C hf hlo hR H locs ls cells slots hP hS hl hc hs))
  · exact ht.elim
theorem so_if_gt {off : Int} {tgt : Nat} (hdg : decode M.2.1 pc = .ok (.ifCond .gt off, 3)) (ht0 : (pc : Int) + off = (tgt : Int)) : ct_Sn l M pc (o_if (fun x => 0 < x) (fun x => ¬ 0 < x) tgt) := by
  rintro ⟨_, lv, st, g, bc, bs⟩ rfl d Post K hd1 ht hK
  dsimp only [o_if] at ht
  split at ht
  · rename_i x st
    intro p e R s0 m args below meth cd G Q C hf hlo hR H locs ls cells slots hP hS hl hc hs
    exact lv_if_gt C.1 C.2.1 hdg ht0 (fun hq => (hK _ (ht.1 hq) p e R s0 m args below meth cd G Q C hf hlo hR H locs ls cells slots hP hS hl hc hs)) (fun hq => (hK _ (ht.2 hq) p e R s0 m args below meth cd G Q C hf hlo hR H locs ls cells slots hP hS hl hc hs))
  · exact ht.elim
theorem so_if_le {off : Int} {tgt : Nat} (hdg : decode M.2.1 pc = .ok (.ifCond .le off, 3)) (ht0 : (pc : Int) + off = (tgt : Int)) : ct_Sn l M pc (o_if (fun x => x ≤ 0) (fun x => ¬ x ≤ 0) tgt) := by
  rintro ⟨_, lv, st, g, bc, bs⟩ rfl d Post K hd1 ht hK
  dsimp only [o_if] at ht
  split at ht
  · rename_i x st
    intro p e R s0 m args below meth cd G Q C hf hlo hR H locs ls cells slots hP hS hl hc hs
    exact lv_if_le C.1 C.2.1 hdg ht0 (fun hq => (hK _ (ht.1 hq) p e R s0 m args below meth cd G Q C hf hlo hR H locs ls cells slots hP hS hl hc hs)) (fun hq => (hK _ (ht.2 hq) p e R s0 m args below meth cd G Q C hf hlo hR H locs ls cells slots hP hS hl hc hs))
  · exact ht.elim
theorem so_ic_eq {off : Int} {tgt : Nat} (hdg : decode M.2.1 pc = .ok (.if_icmp .eq off, 3)) (ht0 : (pc : Int) + off = (tgt : Int)) : ct_Sn l M pc (o_ic (fun x y => x = y) (fun x y => ¬ x = y) tgt) := by
  rintro ⟨_, lv, st, g, bc, bs⟩ rfl d Post K hd1 ht hK
  dsimp only [o_ic] at ht
  split at ht
  · rename_i y x st
    intro p e R s0 m args below meth cd G Q C hf hlo hR H locs ls cells slots hP hS hl hc hs
    exact lv_icmp_eq C.1 C.2.1 hdg ht0 (fun hq => (hK _ (ht.1 hq) p e R s0 m args below meth cd G Q C hf hlo hR H locs ls cells slots hP hS hl hc hs)) (fun hq => (hK _ (ht.2 hq) p e R s0 m args below meth cd G Q C hf hlo hR H locs ls cells slots hP hS hl hc hs))
  · exact ht.elim
theorem so_ic_ne {off : Int} {tgt : Nat} (hdg : decode M.2.1 pc = .ok (.if_icmp .ne off, 3)) (ht0 : (pc : Int) + off = (tgt : Int)) : ct_Sn l M pc (o_ic (fun x y => ¬ x = y) (fun x y => x = y) tgt) := by
  rintro ⟨_, lv, st, g, bc, bs⟩ rfl d Post K hd1 ht hK
  dsimp only [o_ic] at ht
  split at ht
  · rename_i y x st
    intro p e R s0 m args below meth cd G Q C hf hlo hR H locs ls cells slots hP hS hl hc hs
    exact lv_icmp_ne C.1 C.2.1 hdg ht0 (fun hq => (hK _ (ht.1 hq) p e R s0 m args below meth cd G Q C hf hlo hR H locs ls cells slots hP hS hl hc hs)) (fun hq => (hK _ (ht.2 hq) p e R s0 m args below meth cd G Q C hf hlo hR H locs ls cells slots hP hS hl hc hs))
  · exact ht.elim
theorem so_ic_lt {off : Int} {tgt : Nat} (hdg : decode M.2.1 pc = .ok (.if_icmp .lt off, 3)) (ht0 : (pc : Int) + off = (tgt : Int)) : ct_Sn l M pc (o_ic (fun x y => x < y) (fun x y => ¬ x < y) tgt) := by
  rintro ⟨_, lv, st, g, bc, bs⟩ rfl d Post K hd1 ht hK
  dsimp only [o_ic] at ht
  split at ht
  · rename_i y x st
    intro p e R s0 m args below meth cd G Q C hf hlo hR H locs ls cells slots hP hS hl hc hs
    exact lv_icmp_lt C.1 C.2.1 hdg ht0 (fun hq => (hK _ (ht.1 hq) p e R s0 m args below meth cd G Q C hf hlo hR H locs ls cells slots hP hS hl hc hs)) (fun hq => (hK _ (ht.2 hq) p e R s0 m args below meth cd G Q C hf hlo hR H locs ls cells slots hP hS hl hc hs))
  · exact ht.elim
theorem so_ic_ge {off : Int} {tgt : Nat} (hdg : decode M.2.1 pc = .ok (.if_icmp .ge off, 3)) (ht0 : (pc : Int) + off = (tgt : Int)) : ct_Sn l M pc (o_ic (fun x y => y ≤ x) (fun x y => ¬ y ≤ x) tgt) := by
  rintro ⟨_, lv, st, g, bc, bs⟩ rfl d Post K hd1 ht hK
  dsimp only [o_ic] at ht
  split at ht
  · rename_i y x st
    intro p e R s0 m args below meth cd G Q C hf hlo hR H locs ls cells slots hP hS hl hc hs
    exact lv_icmp_ge C.1 C.2.1 hdg ht0 (fun hq => (hK _ (ht.1 hq) p e R s0 m args below meth cd G Q C hf hlo hR H locs ls cells slots hP hS hl hc hs)) (fun hq => (hK _ (ht.2 hq) p e R s0 m args below meth cd G Q C hf hlo hR H locs ls cells slots hP hS hl hc hs))
  · exact ht.elim
theorem so_ic_gt {off : Int} {tgt : Nat} (hdg : decode M.2.1 pc = .ok (.if_icmp .gt off, 3)) (ht0 : (pc : Int) + off = (tgt : Int)) : ct_Sn l M pc (o_ic (fun x y => y < x) (fun x y => ¬ y < x) tgt) := by
  rintro ⟨_, lv, st, g, bc, bs⟩ rfl d Post K hd1 ht hK
  dsimp only [o_ic] at ht
  split at ht
  · rename_i y x st
    intro p e R s0 m args below meth cd G Q C hf hlo hR H locs ls cells slots hP hS hl hc hs
    exact lv_icmp_gt C.1 C.2.1 hdg ht0 (fun hq => (hK _ (ht.1 hq) p e R s0 m args below meth cd G Q C hf hlo hR H locs ls cells slots hP hS hl hc hs)) (fun hq => (hK _ (ht.2 hq) p e R s0 m args below meth cd G Q C hf hlo hR H locs ls cells slots hP hS hl hc hs))
  · exact ht.elim
theorem so_ic_le {off : Int} {tgt : Nat} (hdg : decode M.2.1 pc = .ok (.if_icmp .le off, 3)) (ht0 : (pc : Int) + off = (tgt : Int)) : ct_Sn l M pc (o_ic (fun x y => x ≤ y) (fun x y => ¬ x ≤ y) tgt) := by
  rintro ⟨_, lv, st, g, bc, bs⟩ rfl d Post K hd1 ht hK
  dsimp only [o_ic] at ht
  split at ht
  · rename_i y x st
    intro p e R s0 m args below meth cd G Q C hf hlo hR H locs ls cells slots hP hS hl hc hs
    exact lv_icmp_le C.1 C.2.1 hdg ht0 (fun hq => (hK _ (ht.1 hq) p e R s0 m args below meth cd G Q C hf hlo hR H locs ls cells slots hP hS hl hc hs)) (fun hq => (hK _ (ht.2 hq) p e R s0 m args below meth cd G Q C hf hlo hR H locs ls cells slots hP hS hl hc hs))
  · exact ht.elim
theorem so_goto {off : Int} {tgt : Nat} (hdg : decode M.2.1 pc = .ok (.goto off, 3)) (ht0 : (pc : Int) + off = (tgt : Int)) : ct_Sn l M pc (o_goto tgt) := by
  rintro ⟨_, lv, st, g, bc, bs⟩ rfl d Post K hd1 ht hK
  intro p e R s0 m args below meth cd G Q C hf hlo hR H locs ls cells slots hP hS hl hc hs
  exact lv_goto C.1 C.2.1 hdg ht0 (hK _ ht p e R s0 m args below meth cd G Q C hf hlo hR H locs ls cells slots hP hS hl hc hs)
def ct_sw (x : Int32) (F : Nat → Prop) (dt : Nat) : List (Int32 × Nat) → Prop
  | [] => F dt
  | (k, t) :: r => (x = k → F t) ∧ (¬ x = k → ct_sw x F dt r)
def o_sw (tb : List (Int32 × Nat)) (dt : Nat) (cf : ct_Cf) (K : ct_Cf → Prop) : Prop := match cf.2.2.1 with
  | .int x :: st => ct_sw x (fun t => K (t, cf.2.1, st, cf.2.2.2)) dt tb
  | _ => False
theorem ct_sw_lk {x : Int32} {F : Nat → Prop} {dt : Nat} {dflt : Int} {pc : Nat} (hdf : (pc : Int) + dflt = (dt : Int)) : ∀ (tb : List (Int32 × Nat)), ct_sw x F dt tb → ∃ (off : Int) (t : Nat), Op.lookupswitch.offset (tb.map fun q => (q.1.toInt, (q.2 : Int) - pc)) dflt x.toInt = off ∧ (pc : Int) + off = (t : Int) ∧ F t
  | [], h => ⟨dflt, dt, rfl, hdf, h⟩
  | (k, t) :: r, h => by
    by_cases e : x = k
    · subst e
      exact ⟨(t : Int) - pc, t, by rw [List.map_cons, Op.lookupswitch.offset_cons, if_pos rfl], by omega, h.1 rfl⟩
    · obtain ⟨off, t', h1, h2, h3⟩ := ct_sw_lk hdf r (h.2 e)
      exact ⟨off, t', by rw [List.map_cons, lv_osw e rfl]; exact h1, h2, h3⟩
theorem so_lsw {dflt : Int} {ps : Array (Int × Int)} {len dt : Nat} {tb : List (Int32 × Nat)} (hdg : decode M.2.1 pc = .ok (.lookupswitch dflt ps, len)) (hp : (ps.toList.zip (ps.toList.drop 1)).all (fun (a, next) => a.1 < next.1) = true) (htb : (tb.map fun q => (q.1.toInt, (q.2 : Int) - pc)) = ps.toList) (hdf : (pc : Int) + dflt = (dt : Int)) : ct_Sn l M pc (o_sw tb dt) := by
  rintro ⟨_, lv, st, g, bc, bs⟩ rfl d Post K hd1 ht hK
  dsimp only [o_sw] at ht
  split at ht
  · rename_i x st
    obtain ⟨off, t, h1, h2, h3⟩ := ct_sw_lk hdf tb ht
    rw [htb] at h1
    intro p e R s0 m args below meth cd G Q C hf hlo hR H locs ls cells slots hP hS hl hc hs
    exact lv_lookup C.1 C.2.1 hdg hp h1 h2 (hK _ h3 p e R s0 m args below meth cd G Q C hf hlo hR H locs ls cells slots hP hS hl hc hs)
  · exact ht.elim
theorem ct_sw_tb {x : Int32} {F : Nat → Prop} {dt : Nat} {pc : Nat} : ∀ (tb : List (Int32 × Nat)) (lo : Int) (offs : List Int), (∀ (i : Nat) (q : Int32 × Nat), tb[i]? = some q → q.1.toInt = lo + i) → tb.map (fun q => (q.2 : Int) - pc) = offs → ct_sw x F dt tb → (x.toInt < lo ∨ lo + tb.length ≤ x.toInt) ∧ F dt ∨ ∃ (off : Int) (t : Nat), ¬ x.toInt < lo ∧ x.toInt < lo + tb.length ∧ offs[(x.toInt - lo).toNat]? = some off ∧ (pc : Int) + off = (t : Int) ∧ F t
  | [], lo, offs, _, _, h => Or.inl ⟨by simp; omega, h⟩
  | (k, t) :: r, lo, offs, hk, ho, h => by
    have hk0 := hk 0 (k, t) rfl
    simp only [Int.natCast_zero, Int.add_zero] at hk0
    subst ho
    by_cases e : x = k
    · subst e
      refine Or.inr ⟨(t : Int) - pc, t, by omega, by simp; omega, ?_, by omega, h.1 rfl⟩
      rw [hk0]; simp
    · have hne : x.toInt ≠ lo := fun q => e (Int32.toInt_inj.mp (by rw [hk0]; exact q))
      rcases ct_sw_tb r (lo + 1) (r.map fun q => (q.2 : Int) - pc) (fun i q hq => by have := hk (i + 1) q hq; rw [this]; omega) rfl (h.2 e) with ⟨h1, h2⟩ | ⟨off, t', h1, h2, h3, h4, h5⟩
      · refine Or.inl ⟨?_, h2⟩
        simp only [List.length_cons]; omega
      · refine Or.inr ⟨off, t', by omega, by simp only [List.length_cons]; omega, ?_, h4, h5⟩
        have e2 : (x.toInt - lo).toNat = (x.toInt - (lo + 1)).toNat + 1 := by omega
        rw [e2, List.map_cons, List.getElem?_cons_succ]
        exact h3
theorem so_tsw {dflt lo hi : Int} {offs : Array Int} {len dt : Nat} {tb : List (Int32 × Nat)} (hdg : decode M.2.1 pc = .ok (.tableswitch dflt lo hi offs, len)) (hk : (tb.map fun q => q.1.toInt) = (List.range tb.length).map (fun (i : Nat) => lo + (i : Int))) (htb : (tb.map fun q => (q.2 : Int) - pc) = offs.toList) (hhi : lo + tb.length = hi + 1) (hdf : (pc : Int) + dflt = (dt : Int)) : ct_Sn l M pc (o_sw tb dt) := by
  rintro ⟨_, lv, st, g, bc, bs⟩ rfl d Post K hd1 ht hK
  dsimp only [o_sw] at ht
  split at ht
  · rename_i x st
    have hk' : ∀ (i : Nat) (q : Int32 × Nat), tb[i]? = some q → q.1.toInt = lo + i := by
      intro i q hq
      have h1 : (tb.map fun q => q.1.toInt)[i]? = some q.1.toInt := by rw [List.getElem?_map, hq]; rfl
      have hi : i < tb.length := (List.getElem?_eq_some_iff.mp hq).1
      rw [hk, List.getElem?_map, List.getElem?_range hi] at h1
      exact (Option.some.inj h1).symm
    rcases ct_sw_tb tb lo offs.toList hk' htb ht with ⟨h1, h2⟩ | ⟨off, t, h1, h2, h3, h4, h5⟩
    · intro p e R s0 m args below meth cd G Q C hf hlo hR H locs ls cells slots hP hS hl hc hs
      exact lv_tableOut C.1 C.2.1 hdg (by omega) hdf (hK _ h2 p e R s0 m args below meth cd G Q C hf hlo hR H locs ls cells slots hP hS hl hc hs)
    · intro p e R s0 m args below meth cd G Q C hf hlo hR H locs ls cells slots hP hS hl hc hs
      exact lv_tableIn C.1 C.2.1 hdg h1 (by omega) (by rw [Array.getElem?_toList] at h3; exact h3) h4 (hK _ h5 p e R s0 m args below meth cd G Q C hf hlo hR H locs ls cells slots hP hS hl hc hs)
  · exact ht.elim
def o_idiv (cf : ct_Cf) (K : ct_Cf → Prop) : Prop := match cf.2.2.1 with
  | .int y :: .int x :: st => (¬ y = 0) ∧ K (cf.1 + 1, cf.2.1, .int (x / y) :: st, cf.2.2.2)
  | _ => False
theorem so_idiv (hdg : decode M.2.1 pc = .ok (.idiv, 1)) : ct_Sn l M pc o_idiv := by
  rintro ⟨_, lv, st, g, bc, bs⟩ rfl d Post K hd1 ht hK
  dsimp only [o_idiv] at ht
  split at ht
  · rename_i y x st
    obtain ⟨h0, ht⟩ := ht
    intro p e R s0 m args below meth cd G Q C hf hlo hR H locs ls cells slots hP hS hl hc hs
    exact lv_idiv C.1 C.2.1 hdg h0 (hK _ ht p e R s0 m args below meth cd G Q C hf hlo hR H locs ls cells slots hP hS hl hc hs)
  · exact ht.elim
