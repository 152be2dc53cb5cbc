/-- which words are a nest mate's links -/
def ct_isN : Cond → Bool
  | .fieldLinkNest _ _ _ _ _ _ => true
  | .methodLinkNest _ _ _ _ => true
  | _ => false
def ct_NW : List Cond := lw_tbl.filter ct_isN
theorem ct_NW_in {w : Cond} (h : w ∈ lw_tbl) (g : ct_isN w = true) : w ∈ ct_NW := List.mem_filter.mpr ⟨h, g⟩
theorem ct_NW_warm {w : Cond} (hw : ct_isN w = true) {s U : State} (hW : s.WarmedH U.vm) (h : va_Nw w s) : va_Nw w U := by
  cases w <;> first | exact va_Nw.warmF hW h | exact va_Nw.warmM hW h | (simp [ct_isN] at hw)
theorem ct_NW_same {w : Cond} (hw : ct_isN w = true) {u U : State} (he : u.vm = U.vm) (h : va_Nw w u) : va_Nw w U := by
  cases w <;> first | exact va_Nw.same rfl he h | (simp [ct_isN] at hw)
def ct_mark (j : Nat) : Int32 := if j = 0 then 82 else if j = 1 then 76 else if j = 2 then 77 else 49
/-- the mark's array (address sa 0), the script (address sa 1) -/
def ct_Sx (l : Launch × Nat × (Nat → Int32)) (A : Nat → Prop) (sa : Nat → Nat) (U : State) : Prop := va_Z "CodeTables" "MARK" "[I" (.ref (sa 0)) A U U.heap ∧ va_T .int (sa 0) 4 (fun j => .int (ct_mark j)) A U U.heap ∧ va_X (sa 1) l.2.1 l.2.2 U U.heap ∧ ¬ A (sa 1)
theorem ct_X_lt {b L : Nat} {xs : Nat → Int32} {U : State} {H : Heap} (h : va_X b L xs U H) : b < H.size := by
  obtain ⟨scr, h1, -⟩ := h
  exact (Array.getElem?_eq_some_iff.mp h1).1
theorem ct_Sx.warm {l : Launch × Nat × (Nat → Int32)} {A : Nat → Prop} {sa : Nat → Nat} {s U : State} (h : ct_Sx l A sa s) (hW : s.WarmedH U.vm) (hq : ∀ a : Nat, a < s.heap.size → ¬ A a → U.heap[a]? = s.heap[a]?) : ct_Sx l A sa U :=
  ⟨(h.1.moved hW.alike).kept hq, (h.2.1.moved hW.alike).kept hq, (h.2.2.1.moved hW.alike).kept (hq _ (ct_X_lt h.2.2.1) h.2.2.2), h.2.2.2⟩
theorem ct_Sx.calling {l : Launch × Nat × (Nat → Int32)} {A : Nat → Prop} {sa : Nat → Nat} {U : State} {g : JFrame} {mk : MethodId} {a : Array Value} (h : ct_Sx l A sa U) : ct_Sx l A sa (U.calling g mk a) :=
  ⟨h.1.moved (U := U.calling g mk a) (Vm.Alike.refl U.vm), h.2.1.moved (U := U.calling g mk a) (Vm.Alike.refl U.vm), h.2.2.1.moved (U := U.calling g mk a) (Vm.Alike.refl U.vm), h.2.2.2⟩
/-! THE MACHINE OVER HANDLES: a world of cells that bear numbers (handles) from 10 on; a weakest precondition 'ct_Wp' of a method's body over it; one rule an instruction; contracts 'ct_Me' -/
/-- the launch, the script's length and ints -/
abbrev ct_Lx : Type := Launch × Nat × (Nat → Int32)
/-- the words that every method is given -/
def ct_WS : List Cond := lw_tbl.filter goodWord
theorem ct_WS_in {w : Cond} (h : w ∈ lw_tbl) (g : goodWord w = true) : w ∈ ct_WS := List.mem_filter.mpr ⟨h, g⟩
theorem ct_WS_good {w : Cond} (h : w ∈ ct_WS) : (w.onTables && w.keeps) = true ∨ ∃ ty, w = .arrayClass ty := good_of_word (List.mem_filter.mp h).2
/-- how many cells; a cell's kind and size; ints, longs, references in it -/
abbrev ct_Sg : Type := Nat × (Nat → Nat × Nat) × (Nat → Nat → Int32) × (Nat → Nat → Int64) × (Nat → Nat → Option Nat)
abbrev ct_Lv : Type := List (Nat × Value)
/-- a point of a method: pc, locals, stack, world, cells and slots that may still be made -/
abbrev ct_Cf : Type := Nat × ct_Lv × List Value × ct_Sg × Nat × Nat
/-- where the world lies: its first address; class numbers, slots; array classes; addresses of what was there before -/
abbrev ct_Gx : Type := Nat × (Nat → ClassId) × (Nat → Nat → Nat) × (Nat → ClassId) × (Nat → Nat)
abbrev ct_Mt : Type := MethodName × ByteArray × Nat × Option FieldType
def ct_ad (G : ct_Gx) (h : Nat) : Nat := if h < 10 then G.2.2.2.2 h else G.1 + (h - 10)
def ct_cv (G : ct_Gx) : Value → Value
  | .ref h => .ref (ct_ad G h)
  | .int x => .int x
  | .long x => .long x
  | .float x => .float x
  | .double x => .double x
  | .null => .null
  | .retAddr x => .retAddr x
theorem ct_cv_cat (G : ct_Gx) (v : Value) : (ct_cv G v).category = v.category := by cases v <;> rfl
theorem ct_ad_ge {G : ct_Gx} {h : Nat} (hh : 10 ≤ h) : ct_ad G h = G.1 + (h - 10) := if_neg (by omega)
def ct_fk : FieldType → Nat
  | .long => 1
  | .object _ => 2
  | .array _ => 2
  | _ => 0
def ct_fv (G : ct_Gx) (g : ct_Sg) (ci h j : Nat) : Value := if ct_fk (ct_ty ci j) = 0 then .int (g.2.2.1 h j) else if ct_fk (ct_ty ci j) = 1 then .long (g.2.2.2.1 h j) else va_rf ((g.2.2.2.2 h j).map (ct_ad G))
def ct_ce (G : ct_Gx) (g : ct_Sg) (h : Nat) : va_E :=
  if (g.2.1 h).1 = 1 then .inl (G.2.2.2.1 0, (g.2.1 h).2, .inl (g.2.2.1 h))
  else if (g.2.1 h).1 = 2 then .inl (G.2.2.2.1 1, (g.2.1 h).2, .inl (g.2.2.1 h))
  else if (g.2.1 h).1 = 3 then .inl (G.2.2.2.1 2, (g.2.1 h).2, .inr (.inl (g.2.2.2.1 h)))
  else if (g.2.1 h).1 = 4 then .inl (G.2.2.2.1 3, (g.2.1 h).2, .inl (g.2.2.1 h))
  else .inr ((g.2.1 h).1 - 10, (List.range (g.2.1 h).2).map (ct_fv G g ((g.2.1 h).1 - 10) h))
def ct_tys (G : ct_Gx) : List (ClassId × FieldType) := [(G.2.2.2.1 0, .int), (G.2.2.2.1 1, .byte), (G.2.2.2.1 2, .long), (G.2.2.2.1 3, .boolean)]
/-- the heap holds the world -/
def ct_Rl (G : ct_Gx) (g : ct_Sg) (H : Heap) : Prop := H.size = G.1 + g.1 ∧ ∀ h : Nat, (g.2.1 h).1 ≠ 0 → (10 ≤ h ∧ h < g.1 + 10) ∧ va_at (G.2.1, G.2.2.1) ct_cl (ct_ad G h, ct_ce G g h) H
abbrev ct_A (G : ct_Gx) : Nat → Prop := fun q => G.1 ≤ q
theorem ct_Rl.set {G : ct_Gx} {g g' : ct_Sg} {H H1 : Heap} {h : Nat} (hR : ct_Rl G g H) (hs : (g.2.1 h).1 ≠ 0) (hn : g'.1 = g.1) (hsh : g'.2.1 = g.2.1) (hoth : ∀ k, k ≠ h → ct_ce G g' k = ct_ce G g k) (hat : va_at (G.2.1, G.2.2.1) ct_cl (ct_ad G h, ct_ce G g' h) H1) (hsz : H1.size = H.size) (oq : ∀ q : Nat, q ≠ ct_ad G h → H1[q]? = H[q]?) : ct_Rl G g' H1 := by
  have h0 := (hR.2 h hs).1
  refine ⟨by rw [hsz, hR.1, hn], fun k hk => ?_⟩
  rw [hsh] at hk
  obtain ⟨⟨k1, k2⟩, k3⟩ := hR.2 k hk
  refine ⟨⟨k1, by rw [hn]; exact k2⟩, ?_⟩
  by_cases e : k = h
  · subst e; exact hat
  · rw [hoth k e]
    exact k3.kept (oq _ (by rw [ct_ad_ge k1, ct_ad_ge h0.1]; omega))
theorem ct_Rl.A {G : ct_Gx} {g : ct_Sg} {H : Heap} {h : Nat} (hR : ct_Rl G g H) (hs : (g.2.1 h).1 ≠ 0) : ct_A G (ct_ad G h) := by
  rw [ct_ad_ge (hR.2 h hs).1.1]; exact Nat.le_add_right _ _
/-- a world of one cell -/
theorem ct_one {D : va_G} {cl : List vw_C} {q : Nat × va_E} {H : Heap} (h : va_at D cl q H) : va_P D cl [q] H := by
  intro k x hx
  match k, hx with
  | 0, hx => cases hx; exact h
  | k + 1, hx => simp at hx
/-! what holds of the tables and of what was there before -/
def ct_Kx (l : ct_Lx) (G : ct_Gx) (U : State) : Prop := va_K (G.2.1, G.2.2.1) ct_cl (ct_tys G) U ∧ (∀ w ∈ ct_NW, va_Nw w U) ∧ ct_Sx l (ct_A G) G.2.2.2.2 U
def ct_Cx (l : ct_Lx) (M : ct_Mt) (p : Program) (s : State) (m : MethodId) (args : Array Value) (meth : Method) (c : Code) (G : ct_Gx) : Prop :=
  p.tables.exec = Jvm.exec ∧ c.code = M.2.1 ∧ c.maxLocals = M.2.2.1 ∧ s.vm.findClass M.1.cls = some m.cls ∧ (∀ w ∈ ct_WS, w.before args s = true) ∧ ct_Kx l G s ∧ (M.1.name = "<init>" → meth.name = "<init>") ∧ G.1 ≤ s.heap.size
/-- which instruction gives an answer back -/
def ct_rd (code : ByteArray) (pc : Nat) (v : Option Value) : Prop := match v with
  | none => decode code pc = .ok (.return_, 1)
  | some (.int _) => decode code pc = .ok (.ireturn, 1)
  | some (.long _) => decode code pc = .ok (.lreturn, 1)
  | some (.ref _) => decode code pc = .ok (.areturn, 1)
  | some .null => decode code pc = .ok (.areturn, 1)
  | _ => False
def ct_Rt (l : ct_Lx) (M : ct_Mt) (p : Program) (e : Env) (R : Room) (s : State) (m : MethodId) (args : Array Value) (below : List Frame) (meth : Method) (c : Code) (G : ct_Gx) (Q : State → Prop) (Post : Option Value → ct_Sg → Prop) : Prop :=
  ∀ (v : Option Value) (g : ct_Sg) (pc : Nat) (H : Heap) (locs : List Loc) (ls : Array Slot) (cells slots : Nat), Post v g → ct_Rl G g H → va_S (ct_A G) s.heap H locs → cells ≤ R.cells → slots ≤ R.slots → ct_rd M.2.1 pc v →
    W p l.1 e R s m args below meth c H locs cells slots Q (F0 m pc ls (v.toList.map (ct_cv G)))
def ct_lv (G : ct_Gx) (lv : ct_Lv) : ct_Lv := lv.map fun q => (q.1, ct_cv G q.2)
/-- from here the body ends, with Post -/
def ct_Wp (l : ct_Lx) (M : ct_Mt) (d : Nat) (Post : Option Value → ct_Sg → Prop) (cf : ct_Cf) : Prop :=
  ∀ (p : Program) (e : Env) (R : Room) (s : State) (m : MethodId) (args : Array Value) (below : List Frame) (meth : Method) (c : Code) (G : ct_Gx) (Q : State → Prop), ct_Cx l M p s m args meth c G → d ≤ R.frames → 36 * d ≤ R.locals → ct_Rt l M p e R s m args below meth c G Q Post →
    ∀ (H : Heap) (locs : List Loc) (ls : Array Slot) (cells slots : Nat), ct_Rl G cf.2.2.2.1 H → va_S (ct_A G) s.heap H locs → lv_has ls M.2.2.1 (ct_lv G cf.2.1) → cells + cf.2.2.2.2.1 ≤ R.cells → slots + cf.2.2.2.2.2 ≤ R.slots →
      W p l.1 e R s m args below meth c H locs cells slots Q (F0 m cf.1 ls (cf.2.2.1.map (ct_cv G)))
/-- a method's contract -/
def ct_Me (l : ct_Lx) (M : ct_Mt) (d c s : Nat) (args : List Value) (g : ct_Sg) (Post : Option Value → ct_Sg → Prop) : Prop :=
  ∀ G : ct_Gx, Met l.1 M.1 (.code M.1 M.2.1 M.2.2.1 M.2.2.2 :: ct_WS) { frames := d, cells := c, slots := s, locals := 36 * d } (va_Pc (args.map (ct_cv G)) (fun U => ct_Rl G g U.heap ∧ ct_Kx l G U))
    (fun _ st o t => ∃ (v : Option Value) (g' : ct_Sg), o = .returned (v.map (ct_cv G)) ∧ Post v g' ∧ ct_Rl G g' t.heap ∧ va_F (ct_A G) st t) c s (ct_A G)
def ct_rt (ret : Option FieldType) (v : Option Value) : Prop := match v with
  | none => ret = none
  | some (.int x) => ret = some .int ∨ (ret = some .boolean ∧ (x = 0 ∨ x = 1))
  | some (.long _) => ret = some .long
  | some (.ref _) => ∃ rt, ret = some rt ∧ ((∃ n, rt = .object n) ∨ ∃ t, rt = .array t)
  | some .null => ∃ rt, ret = some rt ∧ ((∃ n, rt = .object n) ∨ ∃ t, rt = .array t)
  | _ => False
theorem ct_sl_len (G : ct_Gx) (vs : List Value) : (lg_sl (vs.map (ct_cv G))).length = (lg_sl vs).length := by
  induction vs with
  | nil => rfl
  | cons v vs ih =>
    have e : ∀ (a : Value) (r : List Value), (lg_sl (a :: r)).length = (if a.category = 2 then 2 else 1) + (lg_sl r).length := by
      intro a r
      by_cases h : a.category = 2 <;> simp [lg_sl, h] <;> omega
    rw [List.map_cons, e, e, ct_cv_cat, ih]
theorem ct_args (G : ct_Gx) (vs : List Value) : ∀ i, lv_args i (vs.map (ct_cv G)) = ct_lv G (lv_args i vs) := by
  induction vs with
  | nil => intro i; rfl
  | cons v vs ih =>
    intro i
    simp only [List.map_cons, lv_args, ct_cv_cat, ih, ct_lv]
theorem ct_Me.of {l : ct_Lx} {M : ct_Mt} {d c s : Nat} {args : List Value} {g : ct_Sg} {Post : Option Value → ct_Sg → Prop} (hp : plainName M.1.cls = true) (hn : (lg_sl args).length ≤ M.2.2.1) (hret : ∀ v g, Post v g → ct_rt M.2.2.2 v)
    (h : ct_Wp l M d Post (0, lv_args 0 args, [], g, c, s)) : ct_Me l M d c s args g Post := by
  intro G
  refine Met.ofW (cc := M.2.1) (maxL := M.2.2.1) (ret := M.2.2.2) hp rfl ?_
  intro p e st m av below meth cd s₁ B hml hv
  obtain ⟨rfl, hR, hK⟩ := hv
  have hts := atoms_spec (ws := .code M.1 M.2.1 M.2.2.1 M.2.2.2 :: ct_WS) B.pre
  have hl := lv_entry (args.map (ct_cv G)) (n := M.2.2.1) (by rw [ct_sl_len]; exact hn)
  rw [lg_entry_eq]
  rw [ct_args] at hl
  have hlocks := B.notSynchronized
  have hx := B.exec
  have hb := B.bytes
  have hr := B.returns
  refine h p e _ st m _ below meth cd G _ ⟨B.exec, B.bytes, hml, findClass_of_methodNamed B.named, fun w hw => hts w (List.mem_cons_of_mem _ hw), hK, fun q => (name_of_methodNamed B.named B.method).1.trans q, by rw [hR.1]; exact Nat.le_add_right _ _⟩ (Nat.le_refl _) (Nat.le_refl _) ?_ st.heap [] _ 0 0 hR va_S.rf hl (by show 0 + c ≤ c; omega) (by show 0 + s ≤ s; omega)
  intro v g' pc H locs ls cells slots hPost hR' hS hc hs hd
  refine W.widen (k := c) (n := s) hc hs ?_
  have hq : ∀ t : State, t.heap = H → st.WarmedH t.vm → ∃ (v2 : Option Value) (g2 : ct_Sg), Outcome.returned (v.map (ct_cv G)) = .returned (v2.map (ct_cv G)) ∧ Post v2 g2 ∧ ct_Rl G g2 t.heap ∧ va_F (ct_A G) st t :=
    fun t ht _ => ⟨v, g', rfl, hPost, by rw [ht]; exact hR', hS.F ht⟩
  have hrt := hret v g' hPost
  match v, hd, hrt, hq with
  | none, hd, hrt, hq => exact W.vret hx hb (by rw [hr]; exact hrt) hq hS.2.2 hd
  | some (.int x), hd, hrt, hq =>
    rcases hrt with hrt | ⟨hrt, hx01⟩
    · exact W.iret (v := x) hx hb (by rw [hr]; exact hrt) hq hS.2.2 hd
    · exact W.zret (v := x) hx hb (by rw [hr]; exact hrt) (by rcases hx01 with rfl | rfl <;> decide) hq hS.2.2 hd
  | some (.long x), hd, hrt, hq => exact W.lret (v := x) hx hb (by rw [hr]; exact hrt) hq hS.2.2 hd
  | some (.ref x), hd, hrt, hq =>
    obtain ⟨rt, h1, h2⟩ := hrt
    exact W.aret (v := .ref (ct_ad G x)) hx hb (by rw [hr]; exact h1) h2 (Or.inr ⟨_, rfl⟩) hq hS.2.2 hd
  | some .null, hd, hrt, hq =>
    obtain ⟨rt, h1, h2⟩ := hrt
    exact W.aret (v := .null) hx hb (by rw [hr]; exact h1) h2 (Or.inl rfl) hq hS.2.2 hd
/-- the body's end -/
theorem ct_Wp.ret {l : ct_Lx} {M : ct_Mt} {d : Nat} {Post : Option Value → ct_Sg → Prop} {pc : Nat} {lv : ct_Lv} {st : List Value} {g : ct_Sg} {c s : Nat} (v : Option Value) (hst : st = v.toList) (hd : ct_rd M.2.1 pc v) (h : Post v g) : ct_Wp l M d Post (pc, lv, st, g, c, s) := by
  subst hst
  intro p e R s0 m args below meth cd G Q C hf hlo hR H locs ls cells slots hP hS hl hc hs
  exact hR v g pc H locs ls cells slots h hP hS (Nat.le_trans (Nat.le_add_right _ _) hc) (Nat.le_trans (Nat.le_add_right _ _) hs) hd
