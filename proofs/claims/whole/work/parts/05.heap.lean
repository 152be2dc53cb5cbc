/-! objects: fields -/
/-- what the tables say of class ci -/
def ct_Kc (ci : Nat) (C : String) (T : u_T) (N : Nat) : Prop := ct_cl[ci]? = some (C, T, N) ∧ (∀ w ∈ u_ws C T N, w ∈ ct_WS) ∧ (∀ k, k < N → parseFieldDescriptor (T k).2.2.1 = some (ct_ty ci k)) ∧ ∀ a, a < N → ∀ b, b < N → a ≠ b → (T a).2.1 ≠ (T b).2.1
theorem ct_ce_o {G : ct_Gx} {g : ct_Sg} {h ci N : Nat} (hs : g.2.1 h = (10 + ci, N)) : ct_ce G g h = .inr (ci, (List.range N).map (ct_fv G g ci h)) := by
  simp only [ct_ce, hs]
  rw [if_neg (by omega), if_neg (by omega), if_neg (by omega), if_neg (by omega), Nat.add_sub_cancel_left]
theorem ct_fs_get {G : ct_Gx} {g : ct_Sg} {ci h N k : Nat} (hk : k < N) : ((List.range N).map (ct_fv G g ci h))[k]? = some (ct_fv G g ci h k) := by
  rw [List.getElem?_map, List.getElem?_range hk]; rfl
theorem ct_fv_i {G : ct_Gx} {g : ct_Sg} {ci h k : Nat} (hf : ct_fk (ct_ty ci k) = 0) : ct_fv G g ci h k = .int (g.2.2.1 h k) := by simp only [ct_fv, hf, if_true]
theorem ct_fv_l {G : ct_Gx} {g : ct_Sg} {ci h k : Nat} (hf : ct_fk (ct_ty ci k) = 1) : ct_fv G g ci h k = .long (g.2.2.2.1 h k) := by simp [ct_fv, hf]
theorem ct_fv_r {G : ct_Gx} {g : ct_Sg} {ci h k : Nat} (hf : ct_fk (ct_ty ci k) = 2) : ct_fv G g ci h k = va_rf ((g.2.2.2.2 h k).map (ct_ad G)) := by simp [ct_fv, hf]
variable {l : ct_Lx} {M : ct_Mt} {pc : Nat}
def o_getI (ci N k : Nat) (cf : ct_Cf) (K : ct_Cf → Prop) : Prop := match cf.2.2.1 with
  | .ref h :: st => cf.2.2.2.1.2.1 h = (10 + ci, N) ∧ K (cf.1 + 3, cf.2.1, .int (cf.2.2.2.1.2.2.1 h k) :: st, cf.2.2.2)
  | _ => False
theorem so_getI {ci N k i : Nat} {Cn : String} {T : u_T} (hc0 : ct_Kc ci Cn T N) (hk : k < N) (hfk : ct_fk (ct_ty ci k) = 0) (hT : (T k).1 = Cn) (hw : Cond.fieldLink M.1.cls i Cn (T k).2.1 (T k).2.2.1 ∈ ct_WS) (hdg : decode M.2.1 pc = .ok (.getfield i, 3)) : ct_Sn l M pc (o_getI ci N k) := by
  rintro ⟨_, lv, st, g, bc, bs⟩ rfl d Post K hd1 ht hK
  dsimp only [o_getI] at ht
  split at ht
  · rename_i h st
    obtain ⟨h1, ht⟩ := ht
    intro p e R s0 m args below meth cd G Q C hf hlo hR H locs ls cells slots hP hS hl hc hs
    have hat := (hP.2 h (by dsimp only; rw [h1]; show 10 + ci ≠ 0; omega)).2
    dsimp only at hat
    rw [ct_ce_o h1] at hat
    exact va_get C.1 C.2.1 C.2.2.2.2.1 hc0.2.1 C.2.2.2.1 C.2.2.2.2.2.1.1 (ct_one hat) 0 rfl hc0.1 k hk (C.2.2.2.2.1 _ hw) (fun x hx => by rw [hT] at hx; exact hx) (by rw [ct_fs_get hk, ct_fv_i hfk]; rfl) hdg (hK _ ht p e R s0 m args below meth cd G Q C hf hlo hR H locs ls cells slots hP hS hl hc hs)
  · exact ht.elim
def o_getL (ci N k : Nat) (cf : ct_Cf) (K : ct_Cf → Prop) : Prop := match cf.2.2.1 with
  | .ref h :: st => cf.2.2.2.1.2.1 h = (10 + ci, N) ∧ K (cf.1 + 3, cf.2.1, .long (cf.2.2.2.1.2.2.2.1 h k) :: st, cf.2.2.2)
  | _ => False
theorem so_getL {ci N k i : Nat} {Cn : String} {T : u_T} (hc0 : ct_Kc ci Cn T N) (hk : k < N) (hfk : ct_fk (ct_ty ci k) = 1) (hT : (T k).1 = Cn) (hw : Cond.fieldLink M.1.cls i Cn (T k).2.1 (T k).2.2.1 ∈ ct_WS) (hdg : decode M.2.1 pc = .ok (.getfield i, 3)) : ct_Sn l M pc (o_getL ci N k) := by
  rintro ⟨_, lv, st, g, bc, bs⟩ rfl d Post K hd1 ht hK
  dsimp only [o_getL] at ht
  split at ht
  · rename_i h st
    obtain ⟨h1, ht⟩ := ht
    intro p e R s0 m args below meth cd G Q C hf hlo hR H locs ls cells slots hP hS hl hc hs
    have hat := (hP.2 h (by dsimp only; rw [h1]; show 10 + ci ≠ 0; omega)).2
    dsimp only at hat
    rw [ct_ce_o h1] at hat
    exact va_get C.1 C.2.1 C.2.2.2.2.1 hc0.2.1 C.2.2.2.1 C.2.2.2.2.2.1.1 (ct_one hat) 0 rfl hc0.1 k hk (C.2.2.2.2.1 _ hw) (fun x hx => by rw [hT] at hx; exact hx) (by rw [ct_fs_get hk, ct_fv_l hfk]; rfl) hdg (hK _ ht p e R s0 m args below meth cd G Q C hf hlo hR H locs ls cells slots hP hS hl hc hs)
  · exact ht.elim
def o_getR (ci N k : Nat) (cf : ct_Cf) (K : ct_Cf → Prop) : Prop := match cf.2.2.1 with
  | .ref h :: st => cf.2.2.2.1.2.1 h = (10 + ci, N) ∧ (match cf.2.2.2.1.2.2.2.2 h k with
    | some r => K (cf.1 + 3, cf.2.1, .ref r :: st, cf.2.2.2)
    | none => K (cf.1 + 3, cf.2.1, .null :: st, cf.2.2.2))
  | _ => False
theorem so_getR {ci N k i : Nat} {Cn : String} {T : u_T} (hc0 : ct_Kc ci Cn T N) (hk : k < N) (hfk : ct_fk (ct_ty ci k) = 2) (hT : (T k).1 = Cn) (hw : Cond.fieldLink M.1.cls i Cn (T k).2.1 (T k).2.2.1 ∈ ct_WS) (hdg : decode M.2.1 pc = .ok (.getfield i, 3)) : ct_Sn l M pc (o_getR ci N k) := by
  rintro ⟨_, lv, st, g, bc, bs⟩ rfl d Post K hd1 ht hK
  dsimp only [o_getR] at ht
  split at ht
  · rename_i h st
    obtain ⟨h1, ht⟩ := ht
    intro p e R s0 m args below meth cd G Q C hf hlo hR H locs ls cells slots hP hS hl hc hs
    have hat := (hP.2 h (by dsimp only; rw [h1]; show 10 + ci ≠ 0; omega)).2
    dsimp only at hat
    rw [ct_ce_o h1] at hat
    split at ht
    · rename_i r hr
      exact va_get (v := .ref (ct_ad G r)) C.1 C.2.1 C.2.2.2.2.1 hc0.2.1 C.2.2.2.1 C.2.2.2.2.2.1.1 (ct_one hat) 0 rfl hc0.1 k hk (C.2.2.2.2.1 _ hw) (fun x hx => by rw [hT] at hx; exact hx) (by rw [ct_fs_get hk, ct_fv_r hfk, hr]; rfl) hdg (hK _ ht p e R s0 m args below meth cd G Q C hf hlo hR H locs ls cells slots hP hS hl hc hs)
    · rename_i hr
      exact va_get (v := .null) C.1 C.2.1 C.2.2.2.2.1 hc0.2.1 C.2.2.2.1 C.2.2.2.2.2.1.1 (ct_one hat) 0 rfl hc0.1 k hk (C.2.2.2.2.1 _ hw) (fun x hx => by rw [hT] at hx; exact hx) (by rw [ct_fs_get hk, ct_fv_r hfk, hr]; rfl) hdg (hK _ ht p e R s0 m args below meth cd G Q C hf hlo hR H locs ls cells slots hP hS hl hc hs)
  · exact ht.elim
section CtPut
variable {p : Program} {l0 : Launch} {e : Env} {R : Room} {s : State} {m : MethodId} {args : Array Value} {below : List Frame} {meth : Method} {c : Code} {H : Heap} {locs : List Loc} {cells slots : Nat} {Q : State → Prop}
variable {cc : ByteArray} {ls : Array Slot} {rest : List Value} {D : va_G} {cl : List vw_C} {a : Nat} {tys : List (ClassId × FieldType)}
theorem ct_Wput (hexec : p.tables.exec = Jvm.exec) (hb : c.code = cc) {own ref C : String} {T : u_T} {N ci index : Nat} {Ts : List Cond} (hts : ∀ w ∈ Ts, w.before args s = true) (hin : ∀ w ∈ u_ws C T N, w ∈ Ts) (ty0 : Nat → FieldType) (hty : ∀ k, k < N → parseFieldDescriptor (T k).2.2.1 = some (ty0 k)) (hnm : ∀ a, a < N → ∀ b, b < N → a ≠ b → (T a).2.1 ≠ (T b).2.1) (hown : s.vm.findClass own = some m.cls) (hK : va_K D cl tys s) {fs : List Value} (hP : va_at D cl (a, .inr (ci, fs)) H) (hc : cl[ci]? = some (C, T, N)) (k : Nat) (hk : k < N) (hlink : (Cond.fieldLink own index ref (T k).2.1 (T k).2.2.1).before args s = true) (hsame : ∀ x, s.fieldFound? (T k).1 (T k).2.1 (T k).2.2.1 = some x → s.fieldFound? ref (T k).2.1 (T k).2.2.1 = some x) (hfin : (T k).2.2.2 = false ∨ ((T k).2.2.2 = true ∧ meth.name = "<init>" ∧ (T k).1 = own)) {ty : FieldType} {v : Value} (hd : parseFieldDescriptor (T k).2.2.1 = some ty) (hn : narrow ty v = v) (hfit : fits ty v = true) (hl : k < fs.length)
    (hdg : decode cc pc = .ok (.putfield index, 3)) (kk : ∀ (H1 : Heap) (i : Nat), va_at D cl (a, .inr (ci, fs.set k v)) H1 → H1.size = H.size → (∀ q : Nat, q ≠ a → H1[q]? = H[q]?) → W p l0 e R s m args below meth c H1 (locs ++ [⟨a, i⟩]) cells slots Q (F0 m (pc + 3) ls rest)) : W p l0 e R s m args below meth c H locs cells slots Q (F0 m pc ls (v :: .ref a :: rest)) := by
  have hap := va_apart (own := own) hts hin ty0 hty hnm hK hc
  obtain ⟨r, h1, cell, q1, q2, q3, q4⟩ := hP
  have hr : r = (C, T, N) := Option.some.inj (h1.symm.trans hc)
  subst hr
  obtain ⟨hS, hfc, kC, hkC, hkind⟩ := hK.1 ci _ hc
  obtain ⟨cf, kf, fi, f, hi, hsl⟩ := hS k hk
  have hlay := hts _ (hin _ (u_in_lay hk))
  unfold u_lay at hlay
  have hst := (u_facts hfc hkC (u_lays hts hin hk) hi).1
  rcases hfin with hfin | ⟨hfin, hin2, hdecl⟩
  · rw [if_neg (by rw [hfin]; decide)] at hlay
    have h6 := u_store hfc hkC hkind hlay hi hd hn hfit
    refine W.putK hexec hb (f := f) ⟨hown, hlink, ⟨_, _, _, hsame _ hi⟩, hst⟩ (by rw [q2]; exact h6) q1 q3 (by rw [hsl]; exact k2_hasslot (q4 k hk)) rfl rfl hdg fun H' e1 e2 e3 => ?_
    rw [hsl] at e1 ⊢
    exact kk H' _ ⟨_, hc, t_OB.to (V := updV (vp_V fs) k v) ⟨_, e1, q2, q3, t_set q4 hap hk v⟩ (fun j _ => vp_updV_set hl v j)⟩ e2 e3
  · rw [if_pos hfin] at hlay
    have hcf : m.cls = cf := by
      obtain ⟨_, _, c', _, _, _, -, -, hf', -, -, -, hown2, -⟩ := Cond.laysFinal_spec hlay
      have e1 : c' = cf := by have := hi.symm.trans hf'; simp at this; exact this.1.symm
      rw [hdecl] at hown2
      rw [← e1]; exact Option.some.inj (hown.symm.trans hown2)
    have h6 := u_fits hfc hkC hkind (Or.inr hlay) hi hd hn hfit
    refine W.putFinK hexec hb hown hlink (hsame _ hi) hst hcf hin2 (by rw [q2]; exact h6) q1 q3 (by rw [hsl]; exact k2_hasslot (q4 k hk)) rfl rfl hdg fun H' e1 e2 e3 => ?_
    rw [hsl] at e1 ⊢
    exact kk H' _ ⟨_, hc, t_OB.to (V := updV (vp_V fs) k v) ⟨_, e1, q2, q3, t_set q4 hap hk v⟩ (fun j _ => vp_updV_set hl v j)⟩ e2 e3
end CtPut
theorem ct_ce_oth {G : ct_Gx} {g g' : ct_Sg} {h k : Nat} (hsh : g'.2.1 = g.2.1) (hne : k ≠ h) (h1 : ∀ a, a ≠ h → g'.2.2.1 a = g.2.2.1 a) (h2 : ∀ a, a ≠ h → g'.2.2.2.1 a = g.2.2.2.1 a) (h3 : ∀ a, a ≠ h → g'.2.2.2.2 a = g.2.2.2.2 a) : ct_ce G g' k = ct_ce G g k := by
  have e : ∀ ci, ct_fv G g' ci k = ct_fv G g ci k := by
    intro ci; funext j; simp only [ct_fv, h1 k hne, h2 k hne, h3 k hne]
  simp only [ct_ce, hsh, h1 k hne, h2 k hne, e]
theorem ct_u2_row {α : Type} {f : Nat → Nat → α} {h k a : Nat} {x : α} (hne : a ≠ h) : ct_u2 f h k x a = f a := by
  funext b; simp [ct_u2, hne]
theorem ct_u2_self {α : Type} {f : Nat → Nat → α} {h k : Nat} {x : α} : ct_u2 f h k x h = fun b => if b = k then x else f h b := by
  funext b; simp [ct_u2]
theorem ct_set_map {α : Type} {F F' : Nat → α} {N k : Nat} (hk : k < N) (hF : ∀ j, j ≠ k → F' j = F j) : ((List.range N).map F).set k (F' k) = (List.range N).map F' := by
  apply List.ext_getElem?
  intro i
  by_cases e : i = k
  · subst e
    rw [List.getElem?_set_self (by simpa using hk), List.getElem?_map, List.getElem?_range hk]; rfl
  · rw [List.getElem?_set_ne (Ne.symm e), List.getElem?_map, List.getElem?_map]
    by_cases hi : i < N
    · rw [List.getElem?_range hi]; simp [hF i e]
    · rw [List.getElem?_eq_none (by simpa using hi)]; rfl
def o_putI (ci N k : Nat) (cf : ct_Cf) (K : ct_Cf → Prop) : Prop := match cf.2.2.1 with
  | .int x :: .ref h :: st => cf.2.2.2.1.2.1 h = (10 + ci, N) ∧ K (cf.1 + 3, cf.2.1, st, (cf.2.2.2.1.1, cf.2.2.2.1.2.1, ct_u2 cf.2.2.2.1.2.2.1 h k x, cf.2.2.2.1.2.2.2.1, cf.2.2.2.1.2.2.2.2), cf.2.2.2.2)
  | _ => False
theorem so_putI {ci N k i : Nat} {Cn : String} {T : u_T} (hc0 : ct_Kc ci Cn T N) (hk : k < N) (hty : ct_ty ci k = .int) (hT : (T k).1 = Cn) (hfin : (T k).2.2.2 = false ∨ ((T k).2.2.2 = true ∧ M.1.name = "<init>" ∧ (T k).1 = M.1.cls)) (hw : Cond.fieldLink M.1.cls i Cn (T k).2.1 (T k).2.2.1 ∈ ct_WS) (hdg : decode M.2.1 pc = .ok (.putfield i, 3)) : ct_Sn l M pc (o_putI ci N k) := by
  rintro ⟨_, lv, st, g, bc, bs⟩ rfl d Post K hd1 ht hK
  dsimp only [o_putI] at ht
  split at ht
  · rename_i x h st
    obtain ⟨h1, ht⟩ := ht
    intro p e R s0 m args below meth cd G Q C hf hlo hR H locs ls cells slots hP hS hl hc hs
    have h0 : (g.2.1 h).1 ≠ 0 := by rw [h1]; show 10 + ci ≠ 0; omega
    have hat := (hP.2 h h0).2
    dsimp only at hat
    rw [ct_ce_o h1] at hat
    have hfk : ct_fk (ct_ty ci k) = 0 := by rw [hty]; rfl
    refine ct_Wput C.1 C.2.1 C.2.2.2.2.1 hc0.2.1 (ct_ty ci) hc0.2.2.1 hc0.2.2.2 C.2.2.2.1 C.2.2.2.2.2.1.1 hat hc0.1 k hk (C.2.2.2.2.1 _ hw) (fun x hx => by rw [hT] at hx; exact hx) (hfin.imp id fun q => ⟨q.1, C.2.2.2.2.2.2.1 q.2.1, q.2.2⟩) (v := .int x) (hc0.2.2.1 k hk) (by rw [hty]; rfl) (by rw [hty]; rfl) (by simpa using hk) hdg fun H1 i1 a1 a2 a3 => ?_
    have hg : ct_Rl G (g.1, g.2.1, ct_u2 g.2.2.1 h k x, g.2.2.2.1, g.2.2.2.2) H1 := by
      refine hP.set (h := h) h0 rfl rfl (fun q hq => ct_ce_oth rfl hq (fun a ha => ct_u2_row ha) (fun a ha => rfl) (fun a ha => rfl)) ?_ a2 a3
      rw [ct_ce_o (g := (g.1, g.2.1, ct_u2 g.2.2.1 h k x, g.2.2.2.1, g.2.2.2.2)) h1]
      rw [← ct_set_map (F := ct_fv G g ci h) hk (fun j hj => ?_)]
      · rw [show ct_fv G (g.1, g.2.1, ct_u2 g.2.2.1 h k x, g.2.2.2.1, g.2.2.2.2) ci h k = .int x from by rw [ct_fv_i hfk]; simp [ct_u2]]
        exact a1
      · simp [ct_fv, ct_u2, hj]
    exact hK _ ht p e R s0 m args below meth cd G Q C hf hlo hR H1 _ ls cells slots hg (hS.put a2 a3 (hP.A h0)) hl hc hs
  · exact ht.elim
def o_putZ (ci N k : Nat) (cf : ct_Cf) (K : ct_Cf → Prop) : Prop := match cf.2.2.1 with
  | .int x :: .ref h :: st => cf.2.2.2.1.2.1 h = (10 + ci, N) ∧ (x = 0 ∨ x = 1) ∧ K (cf.1 + 3, cf.2.1, st, (cf.2.2.2.1.1, cf.2.2.2.1.2.1, ct_u2 cf.2.2.2.1.2.2.1 h k x, cf.2.2.2.1.2.2.2.1, cf.2.2.2.1.2.2.2.2), cf.2.2.2.2)
  | _ => False
theorem so_putZ {ci N k i : Nat} {Cn : String} {T : u_T} (hc0 : ct_Kc ci Cn T N) (hk : k < N) (hty : ct_ty ci k = .boolean) (hT : (T k).1 = Cn) (hfin : (T k).2.2.2 = false ∨ ((T k).2.2.2 = true ∧ M.1.name = "<init>" ∧ (T k).1 = M.1.cls)) (hw : Cond.fieldLink M.1.cls i Cn (T k).2.1 (T k).2.2.1 ∈ ct_WS) (hdg : decode M.2.1 pc = .ok (.putfield i, 3)) : ct_Sn l M pc (o_putZ ci N k) := by
  rintro ⟨_, lv, st, g, bc, bs⟩ rfl d Post K hd1 ht hK
  dsimp only [o_putZ] at ht
  split at ht
  · rename_i x h st
    obtain ⟨h1, hex, ht⟩ := ht
    intro p e R s0 m args below meth cd G Q C hf hlo hR H locs ls cells slots hP hS hl hc hs
    have h0 : (g.2.1 h).1 ≠ 0 := by rw [h1]; show 10 + ci ≠ 0; omega
    have hat := (hP.2 h h0).2
    dsimp only at hat
    rw [ct_ce_o h1] at hat
    have hfk : ct_fk (ct_ty ci k) = 0 := by rw [hty]; rfl
    refine ct_Wput C.1 C.2.1 C.2.2.2.2.1 hc0.2.1 (ct_ty ci) hc0.2.2.1 hc0.2.2.2 C.2.2.2.1 C.2.2.2.2.2.1.1 hat hc0.1 k hk (C.2.2.2.2.1 _ hw) (fun x hx => by rw [hT] at hx; exact hx) (hfin.imp id fun q => ⟨q.1, C.2.2.2.2.2.2.1 q.2.1, q.2.2⟩) (v := .int x) (hc0.2.2.1 k hk) (by rw [hty]; rcases hex with rfl | rfl <;> decide) (by rw [hty]; rcases hex with rfl | rfl <;> decide) (by simpa using hk) hdg fun H1 i1 a1 a2 a3 => ?_
    have hg : ct_Rl G (g.1, g.2.1, ct_u2 g.2.2.1 h k x, g.2.2.2.1, g.2.2.2.2) H1 := by
      refine hP.set (h := h) h0 rfl rfl (fun q hq => ct_ce_oth rfl hq (fun a ha => ct_u2_row ha) (fun a ha => rfl) (fun a ha => rfl)) ?_ a2 a3
      rw [ct_ce_o (g := (g.1, g.2.1, ct_u2 g.2.2.1 h k x, g.2.2.2.1, g.2.2.2.2)) h1]
      rw [← ct_set_map (F := ct_fv G g ci h) hk (fun j hj => ?_)]
      · rw [show ct_fv G (g.1, g.2.1, ct_u2 g.2.2.1 h k x, g.2.2.2.1, g.2.2.2.2) ci h k = .int x from by rw [ct_fv_i hfk]; simp [ct_u2]]
        exact a1
      · simp [ct_fv, ct_u2, hj]
    exact hK _ ht p e R s0 m args below meth cd G Q C hf hlo hR H1 _ ls cells slots hg (hS.put a2 a3 (hP.A h0)) hl hc hs
  · exact ht.elim
def o_putL (ci N k : Nat) (cf : ct_Cf) (K : ct_Cf → Prop) : Prop := match cf.2.2.1 with
  | .long x :: .ref h :: st => cf.2.2.2.1.2.1 h = (10 + ci, N) ∧ K (cf.1 + 3, cf.2.1, st, (cf.2.2.2.1.1, cf.2.2.2.1.2.1, cf.2.2.2.1.2.2.1, ct_u2 cf.2.2.2.1.2.2.2.1 h k x, cf.2.2.2.1.2.2.2.2), cf.2.2.2.2)
  | _ => False
theorem so_putL {ci N k i : Nat} {Cn : String} {T : u_T} (hc0 : ct_Kc ci Cn T N) (hk : k < N) (hty : ct_ty ci k = .long) (hT : (T k).1 = Cn) (hfin : (T k).2.2.2 = false ∨ ((T k).2.2.2 = true ∧ M.1.name = "<init>" ∧ (T k).1 = M.1.cls)) (hw : Cond.fieldLink M.1.cls i Cn (T k).2.1 (T k).2.2.1 ∈ ct_WS) (hdg : decode M.2.1 pc = .ok (.putfield i, 3)) : ct_Sn l M pc (o_putL ci N k) := by
  rintro ⟨_, lv, st, g, bc, bs⟩ rfl d Post K hd1 ht hK
  dsimp only [o_putL] at ht
  split at ht
  · rename_i x h st
    obtain ⟨h1, ht⟩ := ht
    intro p e R s0 m args below meth cd G Q C hf hlo hR H locs ls cells slots hP hS hl hc hs
    have h0 : (g.2.1 h).1 ≠ 0 := by rw [h1]; show 10 + ci ≠ 0; omega
    have hat := (hP.2 h h0).2
    dsimp only at hat
    rw [ct_ce_o h1] at hat
    have hfk : ct_fk (ct_ty ci k) = 1 := by rw [hty]; rfl
    refine ct_Wput C.1 C.2.1 C.2.2.2.2.1 hc0.2.1 (ct_ty ci) hc0.2.2.1 hc0.2.2.2 C.2.2.2.1 C.2.2.2.2.2.1.1 hat hc0.1 k hk (C.2.2.2.2.1 _ hw) (fun x hx => by rw [hT] at hx; exact hx) (hfin.imp id fun q => ⟨q.1, C.2.2.2.2.2.2.1 q.2.1, q.2.2⟩) (v := .long x) (hc0.2.2.1 k hk) (by rw [hty]; rfl) (by rw [hty]; rfl) (by simpa using hk) hdg fun H1 i1 a1 a2 a3 => ?_
    have hg : ct_Rl G (g.1, g.2.1, g.2.2.1, ct_u2 g.2.2.2.1 h k x, g.2.2.2.2) H1 := by
      refine hP.set (h := h) h0 rfl rfl (fun q hq => ct_ce_oth rfl hq (fun a ha => rfl) (fun a ha => ct_u2_row ha) (fun a ha => rfl)) ?_ a2 a3
      rw [ct_ce_o (g := (g.1, g.2.1, g.2.2.1, ct_u2 g.2.2.2.1 h k x, g.2.2.2.2)) h1]
      rw [← ct_set_map (F := ct_fv G g ci h) hk (fun j hj => ?_)]
      · rw [show ct_fv G (g.1, g.2.1, g.2.2.1, ct_u2 g.2.2.2.1 h k x, g.2.2.2.2) ci h k = .long x from by rw [ct_fv_l hfk]; simp [ct_u2]]
        exact a1
      · simp [ct_fv, ct_u2, hj]
    exact hK _ ht p e R s0 m args below meth cd G Q C hf hlo hR H1 _ ls cells slots hg (hS.put a2 a3 (hP.A h0)) hl hc hs
  · exact ht.elim
def o_putR (ci N k : Nat) (cf : ct_Cf) (K : ct_Cf → Prop) : Prop := match cf.2.2.1 with
  | .ref x :: .ref h :: st => cf.2.2.2.1.2.1 h = (10 + ci, N) ∧ K (cf.1 + 3, cf.2.1, st, (cf.2.2.2.1.1, cf.2.2.2.1.2.1, cf.2.2.2.1.2.2.1, cf.2.2.2.1.2.2.2.1, ct_u2 cf.2.2.2.1.2.2.2.2 h k (some x)), cf.2.2.2.2)
  | _ => False
theorem so_putR {ci N k i : Nat} {Cn : String} {T : u_T} (hc0 : ct_Kc ci Cn T N) (hk : k < N) (hty : (∃ n, ct_ty ci k = .object n) ∨ ∃ t, ct_ty ci k = .array t) (hT : (T k).1 = Cn) (hfin : (T k).2.2.2 = false ∨ ((T k).2.2.2 = true ∧ M.1.name = "<init>" ∧ (T k).1 = M.1.cls)) (hw : Cond.fieldLink M.1.cls i Cn (T k).2.1 (T k).2.2.1 ∈ ct_WS) (hdg : decode M.2.1 pc = .ok (.putfield i, 3)) : ct_Sn l M pc (o_putR ci N k) := by
  rintro ⟨_, lv, st, g, bc, bs⟩ rfl d Post K hd1 ht hK
  dsimp only [o_putR] at ht
  split at ht
  · rename_i x h st
    obtain ⟨h1, ht⟩ := ht
    intro p e R s0 m args below meth cd G Q C hf hlo hR H locs ls cells slots hP hS hl hc hs
    have h0 : (g.2.1 h).1 ≠ 0 := by rw [h1]; show 10 + ci ≠ 0; omega
    have hat := (hP.2 h h0).2
    dsimp only at hat
    rw [ct_ce_o h1] at hat
    have hfk : ct_fk (ct_ty ci k) = 2 := by rcases hty with ⟨n, e⟩ | ⟨n, e⟩ <;> rw [e] <;> rfl
    refine ct_Wput C.1 C.2.1 C.2.2.2.2.1 hc0.2.1 (ct_ty ci) hc0.2.2.1 hc0.2.2.2 C.2.2.2.1 C.2.2.2.2.2.1.1 hat hc0.1 k hk (C.2.2.2.2.1 _ hw) (fun x hx => by rw [hT] at hx; exact hx) (hfin.imp id fun q => ⟨q.1, C.2.2.2.2.2.2.1 q.2.1, q.2.2⟩) (v := .ref (ct_ad G x)) (hc0.2.2.1 k hk) (by rcases hty with ⟨n, e⟩ | ⟨n, e⟩ <;> rw [e] <;> rfl) (by rcases hty with ⟨n, e⟩ | ⟨n, e⟩ <;> rw [e] <;> rfl) (by simpa using hk) hdg fun H1 i1 a1 a2 a3 => ?_
    have hg : ct_Rl G (g.1, g.2.1, g.2.2.1, g.2.2.2.1, ct_u2 g.2.2.2.2 h k (some x)) H1 := by
      refine hP.set (h := h) h0 rfl rfl (fun q hq => ct_ce_oth rfl hq (fun a ha => rfl) (fun a ha => rfl) (fun a ha => ct_u2_row ha)) ?_ a2 a3
      rw [ct_ce_o (g := (g.1, g.2.1, g.2.2.1, g.2.2.2.1, ct_u2 g.2.2.2.2 h k (some x))) h1]
      rw [← ct_set_map (F := ct_fv G g ci h) hk (fun j hj => ?_)]
      · rw [show ct_fv G (g.1, g.2.1, g.2.2.1, g.2.2.2.1, ct_u2 g.2.2.2.2 h k (some x)) ci h k = .ref (ct_ad G x) from by rw [ct_fv_r hfk]; simp [ct_u2, va_rf]]
        exact a1
      · simp [ct_fv, ct_u2, hj]
    exact hK _ ht p e R s0 m args below meth cd G Q C hf hlo hR H1 _ ls cells slots hg (hS.put a2 a3 (hP.A h0)) hl hc hs
  · exact ht.elim
/-! arrays -/
theorem ct_ce_1 {G : ct_Gx} {g : ct_Sg} {h : Nat} (hs : (g.2.1 h).1 = 1) : ct_ce G g h = .inl (G.2.2.2.1 0, (g.2.1 h).2, .inl (g.2.2.1 h)) := by simp only [ct_ce, hs, if_true]
theorem ct_ce_2 {G : ct_Gx} {g : ct_Sg} {h : Nat} (hs : (g.2.1 h).1 = 2) : ct_ce G g h = .inl (G.2.2.2.1 1, (g.2.1 h).2, .inl (g.2.2.1 h)) := by simp [ct_ce, hs]
theorem ct_ce_4 {G : ct_Gx} {g : ct_Sg} {h : Nat} (hs : (g.2.1 h).1 = 4) : ct_ce G g h = .inl (G.2.2.2.1 3, (g.2.1 h).2, .inl (g.2.2.1 h)) := by simp [ct_ce, hs]
theorem ct_ce_3 {G : ct_Gx} {g : ct_Sg} {h : Nat} (hs : (g.2.1 h).1 = 3) : ct_ce G g h = .inl (G.2.2.2.1 2, (g.2.1 h).2, .inr (.inl (g.2.2.2.1 h))) := by simp [ct_ce, hs]
def o_iald (cf : ct_Cf) (K : ct_Cf → Prop) : Prop := match cf.2.2.1 with
  | .int i :: .ref h :: st => (cf.2.2.2.1.2.1 h).1 = 1 ∧ vp_in i (cf.2.2.2.1.2.1 h).2 ∧ K (cf.1 + 1, cf.2.1, .int (cf.2.2.2.1.2.2.1 h i.toNatClampNeg) :: st, cf.2.2.2)
  | _ => False
theorem so_iald (hdg : decode M.2.1 pc = .ok (.iaload, 1)) : ct_Sn l M pc o_iald := by
  rintro ⟨_, lv, st, g, bc, bs⟩ rfl d Post K hd1 ht hK
  dsimp only [o_iald] at ht
  split at ht
  · rename_i i h st
    obtain ⟨h1, h2, ht⟩ := ht
    intro p e R s0 m args below meth cd G Q C hf hlo hR H locs ls cells slots hP hS hl hc hs
    have hat := (hP.2 h (by dsimp only; rw [h1]; decide)).2
    dsimp only at hat
    rw [ct_ce_1 h1] at hat
    exact va_iald C.1 C.2.1 C.2.2.2.2.2.1.1 (ct_one hat) 0 0 rfl rfl h2 hdg (hK _ ht p e R s0 m args below meth cd G Q C hf hlo hR H locs ls cells slots hP hS hl hc hs)
  · exact ht.elim
def o_bald (cf : ct_Cf) (K : ct_Cf → Prop) : Prop := match cf.2.2.1 with
  | .int i :: .ref h :: st => (cf.2.2.2.1.2.1 h).1 = 2 ∧ vp_in i (cf.2.2.2.1.2.1 h).2 ∧ K (cf.1 + 1, cf.2.1, .int (cf.2.2.2.1.2.2.1 h i.toNatClampNeg) :: st, cf.2.2.2)
  | _ => False
theorem so_bald (hdg : decode M.2.1 pc = .ok (.baload, 1)) : ct_Sn l M pc o_bald := by
  rintro ⟨_, lv, st, g, bc, bs⟩ rfl d Post K hd1 ht hK
  dsimp only [o_bald] at ht
  split at ht
  · rename_i i h st
    obtain ⟨h1, h2, ht⟩ := ht
    intro p e R s0 m args below meth cd G Q C hf hlo hR H locs ls cells slots hP hS hl hc hs
    have hat := (hP.2 h (by dsimp only; rw [h1]; decide)).2
    dsimp only at hat
    rw [ct_ce_2 h1] at hat
    exact va_bald C.1 C.2.1 C.2.2.2.2.2.1.1 (ct_one hat) 0 1 rfl rfl h2 hdg (hK _ ht p e R s0 m args below meth cd G Q C hf hlo hR H locs ls cells slots hP hS hl hc hs)
  · exact ht.elim
def o_zald (cf : ct_Cf) (K : ct_Cf → Prop) : Prop := match cf.2.2.1 with
  | .int i :: .ref h :: st => (cf.2.2.2.1.2.1 h).1 = 4 ∧ vp_in i (cf.2.2.2.1.2.1 h).2 ∧ K (cf.1 + 1, cf.2.1, .int (cf.2.2.2.1.2.2.1 h i.toNatClampNeg) :: st, cf.2.2.2)
  | _ => False
theorem so_zald (hdg : decode M.2.1 pc = .ok (.baload, 1)) : ct_Sn l M pc o_zald := by
  rintro ⟨_, lv, st, g, bc, bs⟩ rfl d Post K hd1 ht hK
  dsimp only [o_zald] at ht
  split at ht
  · rename_i i h st
    obtain ⟨h1, h2, ht⟩ := ht
    intro p e R s0 m args below meth cd G Q C hf hlo hR H locs ls cells slots hP hS hl hc hs
    have hat := (hP.2 h (by dsimp only; rw [h1]; decide)).2
    dsimp only at hat
    rw [ct_ce_4 h1] at hat
    exact va_zald C.1 C.2.1 C.2.2.2.2.2.1.1 (ct_one hat) 0 3 rfl rfl h2 hdg (hK _ ht p e R s0 m args below meth cd G Q C hf hlo hR H locs ls cells slots hP hS hl hc hs)
  · exact ht.elim
def o_lald (cf : ct_Cf) (K : ct_Cf → Prop) : Prop := match cf.2.2.1 with
  | .int i :: .ref h :: st => (cf.2.2.2.1.2.1 h).1 = 3 ∧ vp_in i (cf.2.2.2.1.2.1 h).2 ∧ K (cf.1 + 1, cf.2.1, .long (cf.2.2.2.1.2.2.2.1 h i.toNatClampNeg) :: st, cf.2.2.2)
  | _ => False
theorem so_lald (hdg : decode M.2.1 pc = .ok (.laload, 1)) : ct_Sn l M pc o_lald := by
  rintro ⟨_, lv, st, g, bc, bs⟩ rfl d Post K hd1 ht hK
  dsimp only [o_lald] at ht
  split at ht
  · rename_i i h st
    obtain ⟨h1, h2, ht⟩ := ht
    intro p e R s0 m args below meth cd G Q C hf hlo hR H locs ls cells slots hP hS hl hc hs
    have hat := (hP.2 h (by dsimp only; rw [h1]; decide)).2
    dsimp only at hat
    rw [ct_ce_3 h1] at hat
    exact va_lald C.1 C.2.1 C.2.2.2.2.2.1.1 (ct_one hat) 0 2 rfl rfl h2 hdg (hK _ ht p e R s0 m args below meth cd G Q C hf hlo hR H locs ls cells slots hP hS hl hc hs)
  · exact ht.elim
def o_alen (cf : ct_Cf) (K : ct_Cf → Prop) : Prop := match cf.2.2.1 with
  | .ref h :: st => ((cf.2.2.2.1.2.1 h).1 = 1 ∨ (cf.2.2.2.1.2.1 h).1 = 2 ∨ (cf.2.2.2.1.2.1 h).1 = 3 ∨ (cf.2.2.2.1.2.1 h).1 = 4) ∧ K (cf.1 + 1, cf.2.1, .int (Int32.ofNat (cf.2.2.2.1.2.1 h).2) :: st, cf.2.2.2)
  | _ => False
theorem so_alen (hdg : decode M.2.1 pc = .ok (.arraylength, 1)) : ct_Sn l M pc o_alen := by
  rintro ⟨_, lv, st, g, bc, bs⟩ rfl d Post K hd1 ht hK
  dsimp only [o_alen] at ht
  split at ht
  · rename_i h st
    obtain ⟨h1, ht⟩ := ht
    intro p e R s0 m args below meth cd G Q C hf hlo hR H locs ls cells slots hP hS hl hc hs
    have hat := (hP.2 h (by dsimp only; omega)).2
    dsimp only at hat
    rcases h1 with h1 | h1 | h1 | h1
    · rw [ct_ce_1 h1] at hat
      exact va_alen C.1 C.2.1 C.2.2.2.2.2.1.1 (ct_one hat) 0 0 rfl rfl rfl hdg (hK _ ht p e R s0 m args below meth cd G Q C hf hlo hR H locs ls cells slots hP hS hl hc hs)
    · rw [ct_ce_2 h1] at hat
      exact va_alen C.1 C.2.1 C.2.2.2.2.2.1.1 (ct_one hat) 0 1 rfl rfl rfl hdg (hK _ ht p e R s0 m args below meth cd G Q C hf hlo hR H locs ls cells slots hP hS hl hc hs)
    · rw [ct_ce_3 h1] at hat
      exact va_alen C.1 C.2.1 C.2.2.2.2.2.1.1 (ct_one hat) 0 2 rfl rfl rfl hdg (hK _ ht p e R s0 m args below meth cd G Q C hf hlo hR H locs ls cells slots hP hS hl hc hs)
    · rw [ct_ce_4 h1] at hat
      exact va_alen C.1 C.2.1 C.2.2.2.2.2.1.1 (ct_one hat) 0 3 rfl rfl rfl hdg (hK _ ht p e R s0 m args below meth cd G Q C hf hlo hR H locs ls cells slots hP hS hl hc hs)
  · exact ht.elim
def o_iast (cf : ct_Cf) (K : ct_Cf → Prop) : Prop := match cf.2.2.1 with
  | .int x :: .int i :: .ref h :: st => (cf.2.2.2.1.2.1 h).1 = 1 ∧ vp_in i (cf.2.2.2.1.2.1 h).2 ∧ K (cf.1 + 1, cf.2.1, st, (cf.2.2.2.1.1, cf.2.2.2.1.2.1, ct_u2 cf.2.2.2.1.2.2.1 h i.toNatClampNeg x, cf.2.2.2.1.2.2.2.1, cf.2.2.2.1.2.2.2.2), cf.2.2.2.2)
  | _ => False
theorem so_iast (hdg : decode M.2.1 pc = .ok (.iastore, 1)) : ct_Sn l M pc o_iast := by
  rintro ⟨_, lv, st, g, bc, bs⟩ rfl d Post K hd1 ht hK
  dsimp only [o_iast] at ht
  split at ht
  · rename_i x i h st
    obtain ⟨h1, h2, ht⟩ := ht
    intro p e R s0 m args below meth cd G Q C hf hlo hR H locs ls cells slots hP hS hl hc hs
    have h0 : (g.2.1 h).1 ≠ 0 := by rw [h1]; decide
    have hat := (hP.2 h h0).2
    dsimp only at hat
    rw [ct_ce_1 h1] at hat
    refine W.iast C.1 C.2.1 hat ((C.2.2.2.2.2.1.1.2 0 _ rfl).1 (g.2.1 h).2 (fun j => .int (g.2.2.1 h j))) (fun q => by cases q) (by show ¬ (i < 0 ∨ (arrV _ _ _).slots.size ≤ _); rw [arrV_size]; exact h2) rfl rfl hdg fun H1 e1 z1 o1 => ?_
    have hg : ct_Rl G (g.1, g.2.1, ct_u2 g.2.2.1 h i.toNatClampNeg x, g.2.2.2.1, g.2.2.2.2) H1 := by
      refine hP.set (h := h) h0 rfl rfl (fun q hq => ct_ce_oth rfl hq (fun a ha => ct_u2_row ha) (fun a ha => rfl) (fun a ha => rfl)) ?_ z1 o1
      rw [ct_ce_1 (g := (g.1, g.2.1, ct_u2 g.2.2.1 h i.toNatClampNeg x, g.2.2.2.1, g.2.2.2.2)) h1]
      show H1[ct_ad G h]? = some (vp_cell _ _)
      rw [e1]
      rw [vp_cell_i, vp_cell_i, arrV_store]
      congr 2
      funext q
      by_cases hq : q = i.toNatClampNeg
      · subst hq
        simp [updV, ct_u2, vp_nar, narrow]
      · simp [updV, ct_u2, hq]
    exact hK _ ht p e R s0 m args below meth cd G Q C hf hlo hR H1 _ ls cells slots hg (hS.put z1 o1 (hP.A h0)) hl hc hs
  · exact ht.elim
def o_bast (cf : ct_Cf) (K : ct_Cf → Prop) : Prop := match cf.2.2.1 with
  | .int x :: .int i :: .ref h :: st => (cf.2.2.2.1.2.1 h).1 = 2 ∧ vp_in i (cf.2.2.2.1.2.1 h).2 ∧ K (cf.1 + 1, cf.2.1, st, (cf.2.2.2.1.1, cf.2.2.2.1.2.1, ct_u2 cf.2.2.2.1.2.2.1 h i.toNatClampNeg (vp_nar .byte x), cf.2.2.2.1.2.2.2.1, cf.2.2.2.1.2.2.2.2), cf.2.2.2.2)
  | _ => False
theorem so_bast (hdg : decode M.2.1 pc = .ok (.bastore, 1)) : ct_Sn l M pc o_bast := by
  rintro ⟨_, lv, st, g, bc, bs⟩ rfl d Post K hd1 ht hK
  dsimp only [o_bast] at ht
  split at ht
  · rename_i x i h st
    obtain ⟨h1, h2, ht⟩ := ht
    intro p e R s0 m args below meth cd G Q C hf hlo hR H locs ls cells slots hP hS hl hc hs
    have h0 : (g.2.1 h).1 ≠ 0 := by rw [h1]; decide
    have hat := (hP.2 h h0).2
    dsimp only at hat
    rw [ct_ce_2 h1] at hat
    refine W.bast C.1 C.2.1 hat ((C.2.2.2.2.2.1.1.2 1 _ rfl).1 (g.2.1 h).2 (fun j => .int (g.2.2.1 h j))) (fun q => by cases q) (by show ¬ (i < 0 ∨ (arrV _ _ _).slots.size ≤ _); rw [arrV_size]; exact h2) rfl rfl hdg fun H1 e1 z1 o1 => ?_
    have hg : ct_Rl G (g.1, g.2.1, ct_u2 g.2.2.1 h i.toNatClampNeg (vp_nar .byte x), g.2.2.2.1, g.2.2.2.2) H1 := by
      refine hP.set (h := h) h0 rfl rfl (fun q hq => ct_ce_oth rfl hq (fun a ha => ct_u2_row ha) (fun a ha => rfl) (fun a ha => rfl)) ?_ z1 o1
      rw [ct_ce_2 (g := (g.1, g.2.1, ct_u2 g.2.2.1 h i.toNatClampNeg (vp_nar .byte x), g.2.2.2.1, g.2.2.2.2)) h1]
      show H1[ct_ad G h]? = some (vp_cell _ _)
      rw [e1]
      rw [vp_cell_i, vp_cell_i, arrV_store]
      congr 2
      funext q
      by_cases hq : q = i.toNatClampNeg
      · subst hq
        simp [updV, ct_u2, vp_nar, narrow]
      · simp [updV, ct_u2, hq]
    exact hK _ ht p e R s0 m args below meth cd G Q C hf hlo hR H1 _ ls cells slots hg (hS.put z1 o1 (hP.A h0)) hl hc hs
  · exact ht.elim
def o_zast (cf : ct_Cf) (K : ct_Cf → Prop) : Prop := match cf.2.2.1 with
  | .int x :: .int i :: .ref h :: st => (cf.2.2.2.1.2.1 h).1 = 4 ∧ vp_in i (cf.2.2.2.1.2.1 h).2 ∧ K (cf.1 + 1, cf.2.1, st, (cf.2.2.2.1.1, cf.2.2.2.1.2.1, ct_u2 cf.2.2.2.1.2.2.1 h i.toNatClampNeg (vp_nar .boolean x), cf.2.2.2.1.2.2.2.1, cf.2.2.2.1.2.2.2.2), cf.2.2.2.2)
  | _ => False
theorem so_zast (hdg : decode M.2.1 pc = .ok (.bastore, 1)) : ct_Sn l M pc o_zast := by
  rintro ⟨_, lv, st, g, bc, bs⟩ rfl d Post K hd1 ht hK
  dsimp only [o_zast] at ht
  split at ht
  · rename_i x i h st
    obtain ⟨h1, h2, ht⟩ := ht
    intro p e R s0 m args below meth cd G Q C hf hlo hR H locs ls cells slots hP hS hl hc hs
    have h0 : (g.2.1 h).1 ≠ 0 := by rw [h1]; decide
    have hat := (hP.2 h h0).2
    dsimp only at hat
    rw [ct_ce_4 h1] at hat
    refine W.zast C.1 C.2.1 hat ((C.2.2.2.2.2.1.1.2 3 _ rfl).1 (g.2.1 h).2 (fun j => .int (g.2.2.1 h j))) (fun q => by cases q) (by show ¬ (i < 0 ∨ (arrV _ _ _).slots.size ≤ _); rw [arrV_size]; exact h2) rfl rfl hdg fun H1 e1 z1 o1 => ?_
    have hg : ct_Rl G (g.1, g.2.1, ct_u2 g.2.2.1 h i.toNatClampNeg (vp_nar .boolean x), g.2.2.2.1, g.2.2.2.2) H1 := by
      refine hP.set (h := h) h0 rfl rfl (fun q hq => ct_ce_oth rfl hq (fun a ha => ct_u2_row ha) (fun a ha => rfl) (fun a ha => rfl)) ?_ z1 o1
      rw [ct_ce_4 (g := (g.1, g.2.1, ct_u2 g.2.2.1 h i.toNatClampNeg (vp_nar .boolean x), g.2.2.2.1, g.2.2.2.2)) h1]
      show H1[ct_ad G h]? = some (vp_cell _ _)
      rw [e1]
      rw [vp_cell_i, vp_cell_i, arrV_store]
      congr 2
      funext q
      by_cases hq : q = i.toNatClampNeg
      · subst hq
        simp [updV, ct_u2, vp_nar, narrow]
      · simp [updV, ct_u2, hq]
    exact hK _ ht p e R s0 m args below meth cd G Q C hf hlo hR H1 _ ls cells slots hg (hS.put z1 o1 (hP.A h0)) hl hc hs
  · exact ht.elim
def o_last (cf : ct_Cf) (K : ct_Cf → Prop) : Prop := match cf.2.2.1 with
  | .long x :: .int i :: .ref h :: st => (cf.2.2.2.1.2.1 h).1 = 3 ∧ vp_in i (cf.2.2.2.1.2.1 h).2 ∧ K (cf.1 + 1, cf.2.1, st, (cf.2.2.2.1.1, cf.2.2.2.1.2.1, cf.2.2.2.1.2.2.1, ct_u2 cf.2.2.2.1.2.2.2.1 h i.toNatClampNeg x, cf.2.2.2.1.2.2.2.2), cf.2.2.2.2)
  | _ => False
theorem so_last (hdg : decode M.2.1 pc = .ok (.lastore, 1)) : ct_Sn l M pc o_last := by
  rintro ⟨_, lv, st, g, bc, bs⟩ rfl d Post K hd1 ht hK
  dsimp only [o_last] at ht
  split at ht
  · rename_i x i h st
    obtain ⟨h1, h2, ht⟩ := ht
    intro p e R s0 m args below meth cd G Q C hf hlo hR H locs ls cells slots hP hS hl hc hs
    have h0 : (g.2.1 h).1 ≠ 0 := by rw [h1]; decide
    have hat := (hP.2 h h0).2
    dsimp only at hat
    rw [ct_ce_3 h1] at hat
    refine W.last C.1 C.2.1 hat ((C.2.2.2.2.2.1.1.2 2 _ rfl).1 (g.2.1 h).2 (fun j => .long (g.2.2.2.1 h j))) (fun q => by cases q) (by show ¬ (i < 0 ∨ (arrV _ _ _).slots.size ≤ _); rw [arrV_size]; exact h2) rfl rfl hdg fun H1 e1 z1 o1 => ?_
    have hg : ct_Rl G (g.1, g.2.1, g.2.2.1, ct_u2 g.2.2.2.1 h i.toNatClampNeg x, g.2.2.2.2) H1 := by
      refine hP.set (h := h) h0 rfl rfl (fun q hq => ct_ce_oth rfl hq (fun a ha => rfl) (fun a ha => ct_u2_row ha) (fun a ha => rfl)) ?_ z1 o1
      rw [ct_ce_3 (g := (g.1, g.2.1, g.2.2.1, ct_u2 g.2.2.2.1 h i.toNatClampNeg x, g.2.2.2.2)) h1]
      show H1[ct_ad G h]? = some (vp_cell _ _)
      rw [e1]
      rw [vp_cell_l, vp_cell_l, arrV_store]
      congr 2
      funext q
      by_cases hq : q = i.toNatClampNeg
      · subst hq
        simp [updV, ct_u2, vp_nar, narrow]
      · simp [updV, ct_u2, hq]
    exact hK _ ht p e R s0 m args below meth cd G Q C hf hlo hR H1 _ ls cells slots hg (hS.put z1 o1 (hP.A h0)) hl hc hs
  · exact ht.elim
/-! new cells -/
def ct_mk (g : ct_Sg) (kd N : Nat) : ct_Sg := (g.1 + 1, ct_ur g.2.1 (g.1 + 10) (kd, N), ct_ur g.2.2.1 (g.1 + 10) (fun _ => 0), ct_ur g.2.2.2.1 (g.1 + 10) (fun _ => 0), ct_ur g.2.2.2.2 (g.1 + 10) (fun _ => none))
theorem ct_ad_new (G : ct_Gx) (n : Nat) : ct_ad G (n + 10) = G.1 + n := by rw [ct_ad_ge (by omega)]; omega
theorem ct_Rl.mk {G : ct_Gx} {g : ct_Sg} {H H1 : Heap} {kd N : Nat} (hR : ct_Rl G g H) (hz : H1.size = H.size + 1) (ho : ∀ q, q < H.size → H1[q]? = H[q]?) (hat : va_at (G.2.1, G.2.2.1) ct_cl (G.1 + g.1, ct_ce G (ct_mk g kd N) (g.1 + 10)) H1) : ct_Rl G (ct_mk g kd N) H1 := by
  refine ⟨by rw [hz, hR.1]; show G.1 + g.1 + 1 = G.1 + (g.1 + 1); omega, fun h hh => ?_⟩
  by_cases e : h = g.1 + 10
  · subst e
    exact ⟨⟨by omega, by show g.1 + 10 < g.1 + 1 + 10; omega⟩, by rw [ct_ad_new]; exact hat⟩
  · have hs : (ct_mk g kd N).2.1 h = g.2.1 h := if_neg e
    rw [hs] at hh
    obtain ⟨⟨k1, k2⟩, k3⟩ := hR.2 h hh
    refine ⟨⟨k1, by show h < g.1 + 1 + 10; omega⟩, ?_⟩
    have ec : ct_ce G (ct_mk g kd N) h = ct_ce G g h := by
      have e1 : (ct_mk g kd N).2.2.1 h = g.2.2.1 h := if_neg e
      have e2 : (ct_mk g kd N).2.2.2.1 h = g.2.2.2.1 h := if_neg e
      have e3 : (ct_mk g kd N).2.2.2.2 h = g.2.2.2.2 h := if_neg e
      have e4 : ∀ ci, ct_fv G (ct_mk g kd N) ci h = ct_fv G g ci h := by
        intro ci; funext j; simp only [ct_fv, e1, e2, e3]
      simp only [ct_ce, hs, e1, e2, e4]
    rw [ec]
    exact k3.kept (ho _ k3.lt)
theorem ct_S_new {G : ct_Gx} {H0 H H1 : Heap} {locs : List Loc} (hS : va_S (ct_A G) H0 H locs) (hz : H1.size = H.size + 1) (ho : ∀ q, q < H.size → H1[q]? = H[q]?) : va_S (ct_A G) H0 H1 locs :=
  ⟨Nat.le_trans hS.1 (by omega), fun x h1 h2 => (ho x (Nat.lt_of_lt_of_le h1 hS.1)).trans (hS.2.1 x h1 h2), hS.2.2⟩
def o_new (ci N : Nat) (cf : ct_Cf) (K : ct_Cf → Prop) : Prop := 1 ≤ cf.2.2.2.2.1 ∧ N ≤ cf.2.2.2.2.2 ∧ K (cf.1 + 3, cf.2.1, .ref (cf.2.2.2.1.1 + 10) :: cf.2.2.1, ct_mk cf.2.2.2.1 (10 + ci) N, cf.2.2.2.2.1 - 1, cf.2.2.2.2.2 - N)
theorem so_new {ci N i : Nat} {Cn : String} {T : u_T} (hc0 : ct_Kc ci Cn T N) (hw1 : Cond.classLink M.1.cls i Cn ∈ ct_WS) (hw2 : Cond.instantiable Cn N ∈ ct_WS) (hw3 : Cond.initialized Cn ∈ ct_WS) (hdf : ∀ j, j < N → defaultValue (ct_ty ci j) = (if ct_fk (ct_ty ci j) = 0 then .int 0 else if ct_fk (ct_ty ci j) = 1 then .long 0 else .null)) (hdg : decode M.2.1 pc = .ok (.new i, 3)) : ct_Sn l M pc (o_new ci N) := by
  rintro ⟨_, lv, st, g, bc, bs⟩ rfl d Post K hd1 ht hK
  obtain ⟨h1, h2, ht⟩ := ht
  dsimp only at h1 h2
  intro p e R s0 m args below meth cd G Q C hf hlo hR H locs ls cells slots hP hS hl hc hs
  dsimp only at hc hs
  have hKn := C.2.2.2.2.2.1.1.1 ci _ hc0.1
  refine W.newcK C.1 C.2.1 C.2.2.2.1 (C.2.2.2.2.1 _ hw1) (C.2.2.2.2.1 _ hw2) (C.2.2.2.2.1 _ hw3) rfl hdg (by omega) (by omega) hKn.2.1 rfl fun H1 kC hkC e1 z1 o1 => ?_
  have hg : ct_Rl G (ct_mk g (10 + ci) N) H1 := by
    refine hP.mk z1 o1 ?_
    have es : (ct_mk g (10 + ci) N).2.1 (g.1 + 10) = (10 + ci, N) := if_pos rfl
    rw [ct_ce_o es]
    have e1' : H1[G.1 + g.1]? = some (blank (G.2.1 ci) kC) := by rw [← (show H.size = G.1 + g.1 from hP.1)]; exact e1
    have hb := u_born (ct_ty ci) C.2.2.2.2.1 hc0.2.1 hKn hkC e1' hc0.2.2.1
    refine ⟨_, hc0.1, t_OB.to hb fun k hk => ?_⟩
    rw [hdf k hk]
    show _ = vp_V _ k
    rw [vp_V, List.getD_eq_getElem?_getD, ct_fs_get hk]
    simp only [ct_fv, ct_mk, ct_ur, if_true, Option.getD_some, Option.map_none, va_rf]
  have ha : ct_cv G (.ref (g.1 + 10)) = .ref H.size := by show Value.ref _ = _; rw [ct_ad_new, hP.1]
  have := hK _ ht p e R s0 m args below meth cd G Q C hf hlo hR H1 locs ls (cells + 1) (slots + N) hg (ct_S_new hS z1 o1) hl (by show cells + 1 + (bc - 1) ≤ _; omega) (by show slots + N + (bs - N) ≤ _; omega)
  rw [List.map_cons, ha] at this
  exact this
def o_newa (kd : Nat) (cf : ct_Cf) (K : ct_Cf → Prop) : Prop := match cf.2.2.1 with
  | .int n :: st => ¬ n < 0 ∧ n.toNatClampNeg ≤ 1000000 ∧ 1 ≤ cf.2.2.2.2.1 ∧ n.toNatClampNeg ≤ cf.2.2.2.2.2 ∧ K (cf.1 + 2, cf.2.1, .ref (cf.2.2.2.1.1 + 10) :: st, ct_mk cf.2.2.2.1 kd n.toNatClampNeg, cf.2.2.2.2.1 - 1, cf.2.2.2.2.2 - n.toNatClampNeg)
  | _ => False
theorem so_newa {kd : Nat} {ty : FieldType} {at0 : ArrayType} (hkd : (kd = 1 ∧ ty = .int) ∨ (kd = 2 ∧ ty = .byte) ∨ (kd = 3 ∧ ty = .long) ∨ (kd = 4 ∧ ty = .boolean)) (hty : newarray.typeOf at0 = ty) (hw : Cond.arrayClass ty ∈ ct_WS) (hdg : decode M.2.1 pc = .ok (.newarray at0, 2)) : ct_Sn l M pc (o_newa kd) := by
  rintro ⟨_, lv, st, g, bc, bs⟩ rfl d Post K hd1 ht hK
  dsimp only [o_newa] at ht
  split at ht
  · rename_i n st
    obtain ⟨h1, h2, h3, h4, ht⟩ := ht
    intro p e R s0 m args below meth cd G Q C hf hlo hR H locs ls cells slots hP hS hl hc hs
    dsimp only at hc hs
    subst hty
    refine va_newaK C.1 C.2.1 (C.2.2.2.2.1 _ hw) rfl hdg rfl h1 rfl (by
      have : componentBytes (newarray.typeOf at0) ≤ 8 := by rcases hkd with ⟨-, e⟩ | ⟨-, e⟩ | ⟨-, e⟩ | ⟨-, e⟩ <;> rw [e] <;> decide
      calc _ ≤ 1000000 * 8 := Nat.mul_le_mul h2 this
        _ ≤ _ := by decide) (by omega) (by omega) rfl fun H1 cA e1 z1 o1 hAr hNm => ?_
    have hg : ct_Rl G (ct_mk g kd n.toNatClampNeg) H1 := by
      refine hP.mk z1 o1 ?_
      have es : (ct_mk g kd n.toNatClampNeg).2.1 (g.1 + 10) = (kd, n.toNatClampNeg) := if_pos rfl
      rw [← hP.1]
      rcases hkd with ⟨e, e2⟩ | ⟨e, e2⟩ | ⟨e, e2⟩ | ⟨e, e2⟩
      · subst e
        rw [ct_ce_1 (by rw [es]), es]
        have hcA : cA = G.2.2.2.1 0 := by
          have q := (C.2.2.2.2.2.1.1.2 0 _ rfl).2
          rw [e2] at hNm
          exact Option.some.inj (hNm.symm.trans q)
        show H1[H.size]? = some (vp_cell _ _)
        rw [e1, e2, hcA, vp_cell_i]
        simp [ct_mk, ct_ur, defaultValue]
      · subst e
        rw [ct_ce_2 (by rw [es]), es]
        have hcA : cA = G.2.2.2.1 1 := by
          have q := (C.2.2.2.2.2.1.1.2 1 _ rfl).2
          rw [e2] at hNm
          exact Option.some.inj (hNm.symm.trans q)
        show H1[H.size]? = some (vp_cell _ _)
        rw [e1, e2, hcA, vp_cell_i]
        simp [ct_mk, ct_ur, defaultValue]
      · subst e
        rw [ct_ce_3 (by rw [es]), es]
        have hcA : cA = G.2.2.2.1 2 := by
          have q := (C.2.2.2.2.2.1.1.2 2 _ rfl).2
          rw [e2] at hNm
          exact Option.some.inj (hNm.symm.trans q)
        show H1[H.size]? = some (vp_cell _ _)
        rw [e1, e2, hcA, vp_cell_l]
        simp [ct_mk, ct_ur, defaultValue]
      · subst e
        rw [ct_ce_4 (by rw [es]), es]
        have hcA : cA = G.2.2.2.1 3 := by
          have q := (C.2.2.2.2.2.1.1.2 3 _ rfl).2
          rw [e2] at hNm
          exact Option.some.inj (hNm.symm.trans q)
        show H1[H.size]? = some (vp_cell _ _)
        rw [e1, e2, hcA, vp_cell_i]
        simp [ct_mk, ct_ur, defaultValue]
    have ha : ct_cv G (.ref (g.1 + 10)) = .ref H.size := by show Value.ref _ = _; rw [ct_ad_new, hP.1]
    have := hK _ ht p e R s0 m args below meth cd G Q C hf hlo hR H1 locs ls (cells + 1) (slots + n.toNatClampNeg) hg (ct_S_new hS z1 o1) hl (by show cells + 1 + (bc - 1) ≤ _; omega) (by show slots + n.toNatClampNeg + (bs - n.toNatClampNeg) ≤ _; omega)
    rw [List.map_cons, ha] at this
    exact this
  · exact ht.elim
def o_oinit (cf : ct_Cf) (K : ct_Cf → Prop) : Prop := match cf.2.2.1 with
  | .ref _ :: st => st.length ≤ 8 ∧ K (cf.1 + 3, cf.2.1, st, cf.2.2.2)
  | _ => False
theorem ct_catsum (G : ct_Gx) : ∀ st : List Value, ((st.map (ct_cv G)).map fun v => v.category).sum = (st.map fun v => v.category).sum
  | [] => rfl
  | v :: r => by simp only [List.map_cons, List.sum_cons, ct_cv_cat, ct_catsum G r]
theorem ct_catlen : ∀ st : List Value, (st.map fun v => v.category).sum ≤ 2 * st.length
  | [] => Nat.le_refl _
  | v :: r => by
    have h := ct_catlen r
    have hv : v.category ≤ 2 := by rcases lv_cat v with q | q <;> omega
    simp only [List.map_cons, List.sum_cons, List.length_cons]
    omega
theorem so_oinit {i : Nat} (hw1 : Cond.methodLink M.1.cls i Lib.objectInit ∈ ct_WS) (hw2 : Cond.instanceMethod Lib.objectInit ∈ ct_WS) (hw3 : Cond.code Lib.objectInit ⟨#[0xb1]⟩ 1 none ∈ ct_WS) (hdg : decode M.2.1 pc = .ok (.invokespecial i, 3)) : ct_Sn l M pc o_oinit := by
  rintro ⟨_, lv, st, g, bc, bs⟩ rfl d Post K hd1 ht hK
  dsimp only [o_oinit] at ht
  split at ht
  · rename_i h st
    obtain ⟨h1, ht⟩ := ht
    intro p e R s0 m args below meth cd G Q C hf hlo hR H locs ls cells slots hP hS hl hc hs
    exact W.objInit C.1 C.2.1 C.2.2.2.1 (C.2.2.2.2.1 _ hw1) (C.2.2.2.2.1 _ hw2) (C.2.2.2.2.1 _ hw3) rfl (by rw [C.2.2.1]; exact hl.1) rfl hdg (by omega) (by
      have q1 := ct_catlen st
      have q2 := ct_catsum G st
      show 2 * 0 + ((st.map (ct_cv G)).map fun v => v.category).sum + 12 ≤ _
      omega) (hK _ ht p e R s0 m args below meth cd G Q C hf hlo hR H locs ls cells slots hP hS hl hc hs)
  · exact ht.elim
/-! what was there before: the mark (handle 0), the script (handle 1) -/
theorem so_gmark {i : Nat} {host : String} (hw : Cond.fieldLinkNest M.1.cls i "CodeTables" "MARK" "[I" host ∈ ct_NW) (hdg : decode M.2.1 pc = .ok (.getstatic i, 3)) : ct_Sn l M pc (o_push (.ref 0) 3) := by
  rintro ⟨_, lv, st, g, bc, bs⟩ rfl d Post K hd1 ht hK
  intro p e R s0 m args below meth cd G Q C hf hlo hR H locs ls cells slots hP hS hl hc hs
  exact va_getsN C.1 C.2.1 C.2.2.2.2.2.1.2.2.1 hS C.2.2.2.1 (va_Nw.use rfl (C.2.2.2.2.2.1.2.1 _ hw)) (fun _ h => h) hdg (hK _ ht p e R s0 m args below meth cd G Q C hf hlo hR H locs ls cells slots hP hS hl hc hs)
def o_mald (cf : ct_Cf) (K : ct_Cf → Prop) : Prop := match cf.2.2.1 with
  | .int i :: .ref h :: st => h = 0 ∧ vp_in i 4 ∧ K (cf.1 + 1, cf.2.1, .int (ct_mark i.toNatClampNeg) :: st, cf.2.2.2)
  | _ => False
theorem so_mald (hdg : decode M.2.1 pc = .ok (.iaload, 1)) : ct_Sn l M pc o_mald := by
  rintro ⟨_, lv, st, g, bc, bs⟩ rfl d Post K hd1 ht hK
  dsimp only [o_mald] at ht
  split at ht
  · rename_i i h st
    obtain ⟨rfl, h2, ht⟩ := ht
    intro p e R s0 m args below meth cd G Q C hf hlo hR H locs ls cells slots hP hS hl hc hs
    exact va_ti C.1 C.2.1 C.2.2.2.2.2.1.2.2.2.1 hS h2 rfl hdg (hK _ ht p e R s0 m args below meth cd G Q C hf hlo hR H locs ls cells slots hP hS hl hc hs)
  · exact ht.elim
def o_mlen (cf : ct_Cf) (K : ct_Cf → Prop) : Prop := match cf.2.2.1 with
  | .ref h :: st => h = 0 ∧ K (cf.1 + 1, cf.2.1, .int 4 :: st, cf.2.2.2)
  | _ => False
theorem so_mlen (hdg : decode M.2.1 pc = .ok (.arraylength, 1)) : ct_Sn l M pc o_mlen := by
  rintro ⟨_, lv, st, g, bc, bs⟩ rfl d Post K hd1 ht hK
  dsimp only [o_mlen] at ht
  split at ht
  · rename_i h st
    obtain ⟨rfl, ht⟩ := ht
    intro p e R s0 m args below meth cd G Q C hf hlo hR H locs ls cells slots hP hS hl hc hs
    exact va_tlen C.1 C.2.1 C.2.2.2.2.2.1.2.2.2.1 hS rfl hdg (hK _ ht p e R s0 m args below meth cd G Q C hf hlo hR H locs ls cells slots hP hS hl hc hs)
  · exact ht.elim
def o_sald (L : Nat) (xs : Nat → Int32) (cf : ct_Cf) (K : ct_Cf → Prop) : Prop := match cf.2.2.1 with
  | .int i :: .ref h :: st => h = 1 ∧ vp_in i L ∧ K (cf.1 + 1, cf.2.1, .int (xs i.toNatClampNeg) :: st, cf.2.2.2)
  | _ => False
theorem so_sald (hdg : decode M.2.1 pc = .ok (.iaload, 1)) : ct_Sn l M pc (o_sald l.2.1 l.2.2) := by
  rintro ⟨_, lv, st, g, bc, bs⟩ rfl d Post K hd1 ht hK
  dsimp only [o_sald] at ht
  split at ht
  · rename_i i h st
    obtain ⟨rfl, h2, ht⟩ := ht
    intro p e R s0 m args below meth cd G Q C hf hlo hR H locs ls cells slots hP hS hl hc hs
    have hX := C.2.2.2.2.2.1.2.2.2.2
    exact va_sld C.1 C.2.1 hX.1 (ct_X_lt hX.1) hX.2 hS h2 hdg (hK _ ht p e R s0 m args below meth cd G Q C hf hlo hR H locs ls cells slots hP hS hl hc hs)
  · exact ht.elim
def o_slen (L : Nat) (cf : ct_Cf) (K : ct_Cf → Prop) : Prop := match cf.2.2.1 with
  | .ref h :: st => h = 1 ∧ K (cf.1 + 1, cf.2.1, .int (Int32.ofNat L) :: st, cf.2.2.2)
  | _ => False
theorem so_slen (hdg : decode M.2.1 pc = .ok (.arraylength, 1)) : ct_Sn l M pc (o_slen l.2.1) := by
  rintro ⟨_, lv, st, g, bc, bs⟩ rfl d Post K hd1 ht hK
  dsimp only [o_slen] at ht
  split at ht
  · rename_i h st
    obtain ⟨rfl, ht⟩ := ht
    intro p e R s0 m args below meth cd G Q C hf hlo hR H locs ls cells slots hP hS hl hc hs
    have hX := C.2.2.2.2.2.1.2.2.2.2
    exact va_slen C.1 C.2.1 hX.1 (ct_X_lt hX.1) hX.2 hS hdg (hK _ ht p e R s0 m args below meth cd G Q C hf hlo hR H locs ls cells slots hP hS hl hc hs)
  · exact ht.elim
