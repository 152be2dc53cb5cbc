/-! what holds of the tables goes on -/
theorem ct_Kx.warm {l : ct_Lx} {G : ct_Gx} {s U : State} (hK : ct_Kx l G s) (hW : s.WarmedH U.vm) (hq : ∀ a : Nat, a < s.heap.size → ¬ ct_A G a → U.heap[a]? = s.heap[a]?) : ct_Kx l G U :=
  ⟨va_K.moved hW.alike hK.1, fun w hw => ct_NW_warm (List.mem_filter.mp hw).2 hW (hK.2.1 w hw), hK.2.2.warm hW hq⟩
theorem ct_Kx.calling {l : ct_Lx} {G : ct_Gx} {U : State} {g : JFrame} {mk : MethodId} {a : Array Value} (hK : ct_Kx l G U) : ct_Kx l G (U.calling g mk a) :=
  ⟨va_K.moved (u := U) (U := U.calling g mk a) (Vm.Alike.refl U.vm) hK.1, fun w hw => ct_NW_same (u := U) (U := U.calling g mk a) (List.mem_filter.mp hw).2 rfl (hK.2.1 w hw), hK.2.2.calling⟩
theorem ct_blind {l : ct_Lx} {G : ct_Gx} {av : List Value} {g : ct_Sg} : FrameBlind (va_Pc av (fun U => ct_Rl G g U.heap ∧ ct_Kx l G U)) :=
  fun _ _ _ _ h => ⟨h.1, h.2.1, h.2.2.calling⟩
section CtCall
variable {p : Program} {l : ct_Lx} {e : Env} {R : Room} {s : State} {m : MethodId} {args : Array Value} {below : List Frame} {meth : Method} {c : Code} {H : Heap} {locs : List Loc} {cells slots : Nat} {Q : State → Prop} {G : ct_Gx}
theorem ct_core {pc c1 s1 : Nat} {ls : Array Slot} {st0 st : List Value} {Post1 : Option Value → ct_Sg → Prop} (hr : va_Run p l.1 e R s m args below meth c H locs cells slots c1 s1 (F0 m pc ls st0) (st.map (ct_cv G)) (fun st o t => ∃ (v : Option Value) (g' : ct_Sg), o = .returned (v.map (ct_cv G)) ∧ Post1 v g' ∧ ct_Rl G g' t.heap ∧ va_F (ct_A G) st t) (ct_A G)) (hS : va_S (ct_A G) s.heap H locs)
    (kk : ∀ (v : Option Value) (g' : ct_Sg) (H1 : Heap) (locs1 : List Loc), Post1 v g' → ct_Rl G g' H1 → va_S (ct_A G) s.heap H1 locs1 → W p l.1 e R s m args below meth c H1 locs1 (cells + c1) (slots + s1) Q (F0 m (pc + 3) ls ((v.toList ++ st).map (ct_cv G)))) : W p l.1 e R s m args below meth c H locs cells slots Q (F0 m pc ls st0) := by
  intro T hT X
  obtain ⟨v, st₀, t, T', L, h0, X', hL, e1, e2, ⟨v', g', hv, hPost, hRl, hz, hk⟩, hst⟩ := hr T hT X
  rw [h0] at hz hk
  have hv := Outcome.returned.inj hv
  subst hv
  obtain ⟨t2, a1, b1⟩ := kk v' g' T'.heap (locs ++ L) hPost (by rw [e1]; exact hRl)
    ⟨Nat.le_trans hS.1 (by rw [e1]; exact hz), fun q h1 h2 => by rw [e1, hk q (Nat.lt_of_lt_of_le h1 hS.1) h2]; exact hS.2.1 q h1 h2, fun q hq => by
      rcases List.mem_append.mp hq with h | h
      · exact hS.2.2 q h
      · exact hL q h⟩ T' rfl X'
  refine ⟨t2, hst t2 ?_, b1⟩
  have e3 : (v'.toList ++ st).map (ct_cv G) = (v'.map (ct_cv G)).toList ++ st.map (ct_cv G) := by cases v' <;> simp
  rw [e3] at a1
  exact a1
theorem ct_pre {M1 : ct_Mt} {g : ct_Sg} {av : List Value} (hK : ct_Kx l G s) (hP : ct_Rl G g H) (hS : va_S (ct_A G) s.heap H locs) : ∀ U : State, U.heap = H → s.WarmedH U.vm → va_Pc av (fun U => ct_Rl G g U.heap ∧ ct_Kx l G U) av.toArray U :=
  fun U hU hW => ⟨rfl, by rw [hU]; exact hP, hK.warm hW fun a h1 h2 => by rw [hU]; exact hS.2.1 a h1 h2⟩
end CtCall
theorem ct_good {M1 : ct_Mt} (h : Cond.code M1.1 M1.2.1 M1.2.2.1 M1.2.2.2 ∈ ct_WS) : GoodIn ct_WS (.code M1.1 M1.2.1 M1.2.2.1 M1.2.2.2 :: ct_WS) := by
  intro w hw
  have : w ∈ ct_WS := by
    rcases List.mem_cons.mp hw with e | e
    · rw [e]; exact h
    · exact e
  exact ⟨this, ct_WS_good this⟩
/-- the words of a call: the method's code; not a handle's; how many it takes; its locals -/
def ct_Lk (M1 : ct_Mt) (n : Nat) : Prop := Cond.code M1.1 M1.2.1 M1.2.2.1 M1.2.2.2 ∈ ct_WS ∧ Cond.initialized M1.1.cls ∈ ct_WS ∧ (M1.1.cls ≠ "java/lang/invoke/MethodHandle" ∧ M1.1.cls ≠ "java/lang/invoke/VarHandle" ∧ (parseMethodDescriptor M1.1.desc).map (fun d => d.parameters.length) = some n) ∧ M1.2.2.1 ≤ 17
/-- how a call finds its method: by a plain link, or as a nest mate's -/
def ct_ln (M : ct_Mt) (i : Nat) (M1 : ct_Mt) : Prop := Cond.methodLink M.1.cls i M1.1 ∈ ct_WS ∨ ∃ host, Cond.methodLinkNest M.1.cls i M1.1 host ∈ ct_NW
section CtRules
variable {l : ct_Lx} {M M1 : ct_Mt} {d d1 : Nat} {Post Post1 : Option Value → ct_Sg → Prop} {pc i n : Nat} {lv : ct_Lv} {st As : List Value} {g : ct_Sg} {bc bs c1 s1 : Nat}
theorem ct_Wp.callS (hlk : ct_Lk M1 n) (hln : ct_ln M i M1) (hst : Cond.static M1.1 ∈ ct_WS) (hdg : decode M.2.1 pc = .ok (.invokestatic i, 3)) (hM : ct_Me l M1 d1 c1 s1 As g Post1) (hn : As.length = n) (hdd : d1 + 1 ≤ d) (hk : (st.map fun v => v.category).sum ≤ 8) (hcc : c1 ≤ bc) (hss : s1 ≤ bs)
    (kk : ∀ (v : Option Value) (g' : ct_Sg), Post1 v g' → ct_Wp l M d Post (pc + 3, lv, v.toList ++ st, g', bc - c1, bs - s1)) : ct_Wp l M d Post (pc, lv, As.reverse ++ st, g, bc, bs) := by
  intro p e R s0 m args below meth cd G Q C hf hlo hR H locs ls cells slots hP hS hl hc hs
  dsimp only at hP hl hc hs ⊢
  have hroom : d1 + 1 ≤ R.frames ∧ 8 + (M1.2.2.1 + 11) + 36 * d1 ≤ R.locals := ⟨by omega, by have := hlk.2.2.2; omega⟩
  have hW : 2 * (F0 m pc ls ((As.reverse ++ st).map (ct_cv G))).monitorRoom + ((st.map (ct_cv G)).map fun v => v.category).sum ≤ 8 := lv_room (by rw [ct_catsum]; exact hk)
  have hst0 : (As.reverse ++ st).map (ct_cv G) = (As.map (ct_cv G)).reverse ++ st.map (ct_cv G) := by rw [List.map_append, List.map_reverse]
  refine ct_core (Post1 := Post1) (c1 := c1) (s1 := s1) (st := st) ?_ hS fun v g' H1 locs1 h1 h2 h3 => kk v g' h1 p e R s0 m args below meth cd G Q C hf hlo hR H1 locs1 ls (cells + c1) (slots + s1) h2 h3 hl (by dsimp only; omega) (by dsimp only; omega)
  have hp := ct_pre (M1 := M1) (av := As.map (ct_cv G)) C.2.2.2.2.2.1 hP hS
  rcases hln with hln | ⟨host, hln⟩
  · exact va_runS (Ts := ct_WS) ⟨C.1, C.2.1, C.2.2.1, C.2.2.2.1, C.2.2.2.2.1⟩ (hM G) ⟨callB_of n C.2.2.2.2.1 (ct_good hlk.1) rfl rfl rfl (C.2.2.2.2.1 _ hlk.2.1) (C.2.2.2.2.1 _ hln) hlk.2.2.1 hroom, C.2.2.2.2.1 _ hst⟩ ⟨ct_blind, hp⟩ rfl (by rw [List.length_map]; exact hn) hl.1 hst0 hW hdg ⟨by omega, by omega⟩
  · exact va_runSN (Ts := ct_WS) ⟨C.1, C.2.1, C.2.2.1, C.2.2.2.1, C.2.2.2.2.1⟩ (hM G) ⟨va_cnB n C.2.2.2.2.1 (ct_good hlk.1) rfl rfl rfl (C.2.2.2.2.2.1.2.1 _ hln) (C.2.2.2.2.1 _ hlk.2.1) hlk.2.2.1 hroom, C.2.2.2.2.1 _ hst, trivial⟩ ⟨ct_blind, hp⟩ rfl (by rw [List.length_map]; exact hn) hl.1 hst0 hW hdg ⟨by omega, by omega⟩
theorem ct_Wp.callI {h : Nat} (hlk : ct_Lk M1 n) (hln : ct_ln M i M1) (hret : M1.2.2.2 = none) (hin : M1.1.name = "<init>") (hst : Cond.instanceMethod M1.1 ∈ ct_WS) (hdg : decode M.2.1 pc = .ok (.invokespecial i, 3)) (hM : ct_Me l M1 d1 c1 s1 (.ref h :: As) g Post1) (hn : As.length = n) (hdd : d1 + 1 ≤ d) (hk : (st.map fun v => v.category).sum ≤ 8) (hcc : c1 ≤ bc) (hss : s1 ≤ bs)
    (kk : ∀ (v : Option Value) (g' : ct_Sg), Post1 v g' → ct_Wp l M d Post (pc + 3, lv, v.toList ++ st, g', bc - c1, bs - s1)) : ct_Wp l M d Post (pc, lv, As.reverse ++ .ref h :: st, g, bc, bs) := by
  intro p e R s0 m args below meth cd G Q C hf hlo hR H locs ls cells slots hP hS hl hc hs
  dsimp only at hP hl hc hs ⊢
  obtain ⟨y1, code1, nL1, ret1⟩ := M1
  dsimp only at hret hin
  subst hret
  have hroom : d1 + 1 ≤ R.frames ∧ 8 + (nL1 + 11) + 36 * d1 ≤ R.locals := ⟨by omega, by have := hlk.2.2.2; dsimp only at this; omega⟩
  have hW : 2 * (F0 m pc ls ((As.reverse ++ .ref h :: st).map (ct_cv G))).monitorRoom + ((st.map (ct_cv G)).map fun v => v.category).sum ≤ 8 := lv_room (by rw [ct_catsum]; exact hk)
  have hst0 : (As.reverse ++ .ref h :: st).map (ct_cv G) = (As.map (ct_cv G)).reverse ++ .ref (ct_ad G h) :: st.map (ct_cv G) := by rw [List.map_append, List.map_reverse]; rfl
  refine ct_core (Post1 := Post1) (c1 := c1) (s1 := s1) (st := st) ?_ hS fun v g' H1 locs1 h1 h2 h3 => kk v g' h1 p e R s0 m args below meth cd G Q C hf hlo hR H1 locs1 ls (cells + c1) (slots + s1) h2 h3 hl (by dsimp only; omega) (by dsimp only; omega)
  have hp := ct_pre (M1 := (y1, code1, nL1, none)) (av := (Value.ref h :: As).map (ct_cv G)) C.2.2.2.2.2.1 hP hS
  rcases hln with hln | ⟨host, hln⟩
  · exact va_runI (Ts := ct_WS) (As := As.map (ct_cv G)) ⟨C.1, C.2.1, C.2.2.1, C.2.2.2.1, C.2.2.2.2.1⟩ (hM G) ⟨callB_of n C.2.2.2.2.1 (ct_good hlk.1) rfl rfl rfl (C.2.2.2.2.1 _ hlk.2.1) (C.2.2.2.2.1 _ hln) hlk.2.2.1 hroom, hin, C.2.2.2.2.1 _ hst⟩ ⟨ct_blind, hp⟩ rfl (by rw [List.length_map]; exact hn) hl.1 hst0 hW hdg ⟨by omega, by omega⟩
  · exact va_runIN (Ts := ct_WS) (As := As.map (ct_cv G)) ⟨C.1, C.2.1, C.2.2.1, C.2.2.2.1, C.2.2.2.2.1⟩ (hM G) ⟨va_cnB n C.2.2.2.2.1 (ct_good hlk.1) rfl rfl rfl (C.2.2.2.2.2.1.2.1 _ hln) (C.2.2.2.2.1 _ hlk.2.1) hlk.2.2.1 hroom, hin, C.2.2.2.2.1 _ hst⟩ ⟨ct_blind, hp⟩ rfl (by rw [List.length_map]; exact hn) hl.1 hst0 hW hdg ⟨by omega, by omega⟩
theorem ct_Wp.callV {h ci N : Nat} {T : u_T} (hlk : ct_Lk M1 n) (hln : ct_ln M i M1) (hst : Cond.instanceMethod M1.1 ∈ ct_WS) (hsel : Cond.selects M1.1.cls M1.1 M1.1 ∈ ct_WS) (hcl : ct_cl[ci]? = some (M1.1.cls, T, N)) (hdg : decode M.2.1 pc = .ok (.invokevirtual i, 3)) (hsh : g.2.1 h = (10 + ci, N)) (hM : ct_Me l M1 d1 c1 s1 (.ref h :: As) g Post1) (hn : As.length = n) (hdd : d1 + 1 ≤ d) (hk : (st.map fun v => v.category).sum ≤ 8) (hcc : c1 ≤ bc) (hss : s1 ≤ bs)
    (kk : ∀ (v : Option Value) (g' : ct_Sg), Post1 v g' → ct_Wp l M d Post (pc + 3, lv, v.toList ++ st, g', bc - c1, bs - s1)) : ct_Wp l M d Post (pc, lv, As.reverse ++ .ref h :: st, g, bc, bs) := by
  intro p e R s0 m args below meth cd G Q C hf hlo hR H locs ls cells slots hP hS hl hc hs
  dsimp only at hP hl hc hs ⊢
  have hroom : d1 + 1 ≤ R.frames ∧ 8 + (M1.2.2.1 + 11) + 36 * d1 ≤ R.locals := ⟨by omega, by have := hlk.2.2.2; omega⟩
  have hW : 2 * (F0 m pc ls ((As.reverse ++ .ref h :: st).map (ct_cv G))).monitorRoom + ((st.map (ct_cv G)).map fun v => v.category).sum ≤ 8 := lv_room (by rw [ct_catsum]; exact hk)
  have hst0 : (As.reverse ++ .ref h :: st).map (ct_cv G) = (As.map (ct_cv G)).reverse ++ .ref (ct_ad G h) :: st.map (ct_cv G) := by rw [List.map_append, List.map_reverse]; rfl
  refine ct_core (Post1 := Post1) (c1 := c1) (s1 := s1) (st := st) ?_ hS fun v g' H1 locs1 h1 h2 h3 => kk v g' h1 p e R s0 m args below meth cd G Q C hf hlo hR H1 locs1 ls (cells + c1) (slots + s1) h2 h3 hl (by dsimp only; omega) (by dsimp only; omega)
  have hp := ct_pre (M1 := M1) (av := (Value.ref h :: As).map (ct_cv G)) C.2.2.2.2.2.1 hP hS
  have hat := (hP.2 h (by rw [hsh]; show 10 + ci ≠ 0; omega)).2
  rw [ct_ce_o hsh] at hat
  have hrc : ∃ cell : Cell, H[ct_ad G h]? = some cell ∧ cell.vm.isStatics = false ∧ s0.vm.findClass M1.1.cls = some cell.cls := va_recv (q0 := 0) C.2.2.2.2.2.1.1 (ct_one hat) hcl rfl
  rcases hln with hln | ⟨host, hln⟩
  · exact va_runV (Ts := ct_WS) (As := As.map (ct_cv G)) (C := M1.1.cls) ⟨C.1, C.2.1, C.2.2.1, C.2.2.2.1, C.2.2.2.2.1⟩ (hM G) ⟨callB_of n C.2.2.2.2.1 (ct_good hlk.1) rfl rfl rfl (C.2.2.2.2.1 _ hlk.2.1) (C.2.2.2.2.1 _ hln) hlk.2.2.1 hroom, C.2.2.2.2.1 _ hst, C.2.2.2.2.1 _ hsel⟩ ⟨ct_blind, hrc, hp⟩ rfl (by rw [List.length_map]; exact hn) hl.1 hst0 hW hdg ⟨by omega, by omega⟩
  · exact va_runVN (Ts := ct_WS) (As := As.map (ct_cv G)) (C := M1.1.cls) ⟨C.1, C.2.1, C.2.2.1, C.2.2.2.1, C.2.2.2.2.1⟩ (hM G) ⟨va_cnB n C.2.2.2.2.1 (ct_good hlk.1) rfl rfl rfl (C.2.2.2.2.2.1.2.1 _ hln) (C.2.2.2.2.1 _ hlk.2.1) hlk.2.2.1 hroom, C.2.2.2.2.1 _ hst, C.2.2.2.2.1 _ hsel⟩ ⟨ct_blind, hrc, hp⟩ rfl (by rw [List.length_map]; exact hn) hl.1 hst0 hW hdg ⟨by omega, by omega⟩
/-- Math.min of two ints -/
theorem ct_Wp.mmin {x y : Int32} (hw1 : Cond.methodLink M.1.cls i Lib.Math.min.name ∈ ct_WS) (hw2 : Cond.static Lib.Math.min.name ∈ ct_WS) (hw3 : Cond.initialized "java/lang/Math" ∈ ct_WS) (hw4 : Cond.code Lib.Math.min.name Lib.Math.min.code 2 (some .int) ∈ ct_WS) (hdg : decode M.2.1 pc = .ok (.invokestatic i, 3)) (hd1 : 1 ≤ d) (hk : st.length ≤ 8)
    (kk : ct_Wp l M d Post (pc + 3, lv, .int (if y < x then y else x) :: st, g, bc, bs)) : ct_Wp l M d Post (pc, lv, .int y :: .int x :: st, g, bc, bs) := by
  intro p e R s0 m args below meth cd G Q C hf hlo hR H locs ls cells slots hP hS hl hc hs
  exact va_mmin C.1 C.2.1 (by rw [C.2.2.1]; exact hl.1.symm) C.2.2.2.1 (C.2.2.2.2.1 _ hw1) (C.2.2.2.2.1 _ hw2) (C.2.2.2.2.1 _ hw3) (C.2.2.2.2.1 _ hw4) (by omega) (by
    have q1 := ct_catlen st
    have q2 := ct_catsum G st
    show ((st.map (ct_cv G)).map fun v => v.category).sum + 13 ≤ _
    omega) (by dsimp only at hc; omega) (by dsimp only at hs; omega) hdg (kk p e R s0 m args below meth cd G Q C hf hlo hR H locs ls cells slots hP hS hl hc hs)
end CtRules
/-! running through a stretch of instructions -/
def ct_tab : List (Nat × ct_PT) → Nat → Option ct_PT
  | [], _ => none
  | (a, t) :: r, pc => if a = pc then some t else ct_tab r pc
def ct_al (l : ct_Lx) (M : ct_Mt) : List (Nat × ct_PT) → Prop
  | [] => True
  | (a, t) :: r => ct_Sn l M a t ∧ ct_al l M r
theorem ct_al.at {l : ct_Lx} {M : ct_Mt} : ∀ {T : List (Nat × ct_PT)}, ct_al l M T → ∀ {pc : Nat} {t : ct_PT}, ct_tab T pc = some t → ct_Sn l M pc t
  | [], _, pc, t, h => by simp [ct_tab] at h
  | (a, t0) :: r, hT, pc, t, h => by
    simp only [ct_tab] at h
    split at h
    · rename_i e; cases h; subst e; exact hT.1
    · exact ct_al.at hT.2 h
def ct_hp : List Nat → Nat → Bool
  | [], _ => false
  | a :: r, pc => if a = pc then true else ct_hp r pc
def ct_run (T : List (Nat × ct_PT)) (S : List Nat) : Nat → ct_Cf → (ct_Cf → Prop) → Prop
  | 0, cf, K => K cf
  | k + 1, cf, K => match ct_tab T cf.1 with
    | none => K cf
    | some t => t cf fun cf' => if ct_hp S cf'.1 = true then K cf' else ct_run T S k cf' K
theorem ct_run.ok {l : ct_Lx} {M : ct_Mt} {T : List (Nat × ct_PT)} (hT : ct_al l M T) {d : Nat} (hd : 1 ≤ d) {Post : Option Value → ct_Sg → Prop} (S : List Nat) : ∀ (k : Nat) (cf : ct_Cf) (K : ct_Cf → Prop), (∀ cf', K cf' → ct_Wp l M d Post cf') → ct_run T S k cf K → ct_Wp l M d Post cf
  | 0, cf, K, hK, h => hK cf h
  | k + 1, cf, K, hK, h => by
    simp only [ct_run] at h
    split at h
    · exact hK cf h
    · rename_i t ht
      refine hT.at ht cf rfl d Post _ hd h fun cf' h' => ?_
      split at h'
      · exact hK cf' h'
      · exact ct_run.ok hT hd S k cf' K hK h'
theorem ct_Wp.go {l : ct_Lx} {M : ct_Mt} {T : List (Nat × ct_PT)} (hT : ct_al l M T) {d : Nat} (hd : 1 ≤ d) {Post : Option Value → ct_Sg → Prop} (S : List Nat) (k : Nat) {cf : ct_Cf} (h : ∀ K : ct_Cf → Prop, (∀ cf', ct_Wp l M d Post cf' → K cf') → ct_run T S k cf K) : ct_Wp l M d Post cf :=
  ct_run.ok hT hd S k cf _ (fun _ h => h) (h _ fun _ h => h)
