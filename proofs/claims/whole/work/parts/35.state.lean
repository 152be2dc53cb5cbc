/-! THE READER'S STATE: cursor, ints, longs -/
theorem ct_Wp.pick {l : ct_Lx} {M : ct_Mt} {d : Nat} {Post : Option Value → ct_Sg → Prop} {pc : Nat} {lv lv' : ct_Lv} {st : List Value} {g : ct_Sg} {bc bs : Nat} (ks : List Nat) (he : lv_pick lv ks = lv') (h : ct_Wp l M d Post (pc, lv', st, g, bc, bs)) : ct_Wp l M d Post (pc, lv, st, g, bc, bs) := by
  intro p e R s0 m args below meth cd G Q C hf hlo hR H locs ls cells slots hP hS hl hc hs
  refine h p e R s0 m args below meth cd G Q C hf hlo hR H locs ls cells slots hP hS ⟨hl.1, hl.2.1, fun q hq => hl.2.2 q ?_⟩ hc hs
  obtain ⟨q0, h0, rfl⟩ := List.mem_map.mp hq
  refine List.mem_map.mpr ⟨q0, ?_, rfl⟩
  dsimp only at h0
  rw [← he] at h0
  obtain ⟨k, -, hk⟩ := List.mem_filterMap.mp h0
  exact List.mem_of_getElem? hk
abbrev c_S : Type := c_Cu × (Nat → Nat → Int32) × (Nat → Nat → Int64)
abbrev c_w (S : c_S) : ct_Sg := c_g (c_sc S.2.1 S.1) S.2.2 true
/-- what a walk leaves alone: the bytes, the length, whether names are looked up -/
def c_E (B : Nat → Nat) (ln : Nat) (lu : Bool) (I : Nat → Nat → Int32) : Prop := c_B I = B ∧ I 23 4 = nI ln ∧ I 23 6 = if lu = true then 1 else 0
def c_mx (k : Nat) : Nat := if k = 5 then 64 else if k = 6 then 8192 else 32
def c_N (I : Nat → Nat → Int32) (k : Nat) : Nat := (I 13 k).toNatClampNeg
/-- the counts are in their bounds -/
def c_W (I : Nat → Nat → Int32) : Prop := ∀ k, k < 7 → 1 ≤ k → I 13 k = nI (c_N I k) ∧ c_N I k ≤ c_mx k
def c_G (B : Nat → Nat) (ln : Nat) (lu : Bool) (S : c_S) : Prop := c_E B ln lu S.2.1 ∧ c_W S.2.1 ∧ c_ok ln S.1
theorem c_E.u2 {B : Nat → Nat} {ln : Nat} {lu : Bool} {I : Nat → Nat → Int32} {h k : Nat} {x : Int32} (hE : c_E B ln lu I) (h11 : ¬ h = 11) (h23 : ¬ h = 23) : c_E B ln lu (ct_u2 I h k x) := by
  refine ⟨?_, ?_, ?_⟩
  · rw [← hE.1]; funext j; simp only [c_B, ct_u2_get, Ne.symm (a := h) h11, false_and, if_false]
  · rw [ct_u2_get, if_neg (fun q => h23 q.1.symm)]; exact hE.2.1
  · rw [ct_u2_get, if_neg (fun q => h23 q.1.symm)]; exact hE.2.2
theorem c_N_u2 {I : Nat → Nat → Int32} {h k : Nat} {x : Int32} (h13 : ¬ h = 13) : c_N (ct_u2 I h k x) = c_N I := by
  funext j; unfold c_N; rw [ct_u2_get, if_neg (fun q => h13 q.1.symm)]
theorem c_W.u2 {I : Nat → Nat → Int32} {h k : Nat} {x : Int32} (hW : c_W I) (h13 : ¬ h = 13) : c_W (ct_u2 I h k x) := by
  intro j h1 h2
  rw [c_N_u2 h13, ct_u2_get, if_neg (fun q => h13 q.1.symm)]
  exact hW j h1 h2
theorem c_N_set {I : Nat → Nat → Int32} {k v : Nat} (hv : v < 2 ^ 31) (j : Nat) : c_N (ct_u2 I 13 k (nI v)) j = if j = k then v else c_N I j := by
  unfold c_N; rw [ct_u2_get]
  by_cases e : j = k
  · rw [if_pos ⟨rfl, e⟩, if_pos e, nI_clamp hv]
  · rw [if_neg (fun q => e q.2), if_neg e]
theorem c_W.set {I : Nat → Nat → Int32} {k v : Nat} (hW : c_W I) (hv : v ≤ c_mx k) : c_W (ct_u2 I 13 k (nI v)) := by
  have hm : c_mx k ≤ 8192 := by unfold c_mx; split <;> (try split) <;> omega
  intro j h1 h2
  rw [c_N_set (by omega), ct_u2_get]
  by_cases e : j = k
  · rw [if_pos ⟨rfl, e⟩, if_pos e]; exact ⟨rfl, by rw [e]; exact hv⟩
  · rw [if_neg (fun q => e q.2), if_neg e]; exact hW j h1 h2
theorem c_W.n1 {I : Nat → Nat → Int32} (h : c_W I) : I 13 1 = nI (c_N I 1) ∧ c_N I 1 ≤ 32 := h 1 (by decide) (by decide)
theorem c_W.n2 {I : Nat → Nat → Int32} (h : c_W I) : I 13 2 = nI (c_N I 2) ∧ c_N I 2 ≤ 32 := h 2 (by decide) (by decide)
theorem c_W.n3 {I : Nat → Nat → Int32} (h : c_W I) : I 13 3 = nI (c_N I 3) ∧ c_N I 3 ≤ 32 := h 3 (by decide) (by decide)
theorem c_W.n4 {I : Nat → Nat → Int32} (h : c_W I) : I 13 4 = nI (c_N I 4) ∧ c_N I 4 ≤ 32 := h 4 (by decide) (by decide)
theorem c_W.n5 {I : Nat → Nat → Int32} (h : c_W I) : I 13 5 = nI (c_N I 5) ∧ c_N I 5 ≤ 64 := h 5 (by decide) (by decide)
theorem c_W.n6 {I : Nat → Nat → Int32} (h : c_W I) : I 13 6 = nI (c_N I 6) ∧ c_N I 6 ≤ 8192 := h 6 (by decide) (by decide)
abbrev c_na (I : Nat → Nat → Int32) : Nat := c_N I 1 + c_N I 2
/-! the readers of numbers, over the state -/
theorem ad_take (l : ct_Lx) {B : Nat → Nat} {ln : Nat} {lu : Bool} (hln : ln ≤ 4096) (I : Nat → Nat → Int32) (L : Nat → Nat → Int64) (c : c_Cu) {sz : Nat} (hE : c_E B ln lu I) (hc : c_ok ln c) (hsz : sz ≤ 8) : ct_Me l M_R_take 1 0 0 [.ref 23, .int (nI sz)] (c_g (c_sc I c) L true) (fun w0 g => w0 = some (.long (lN (c_tk B ln sz c).1)) ∧ g = c_g (c_sc I (c_tk B ln sz c).2) L true) := by
  obtain ⟨rfl, h1, -⟩ := hE
  exact sp_R_take l I L c hc hln h1 hsz
theorem ad_takeWithin (l : ct_Lx) {B : Nat → Nat} {ln : Nat} {lu : Bool} (hln : ln ≤ 4096) (I : Nat → Nat → Int32) (L : Nat → Nat → Int64) (c : c_Cu) {sz lo hi : Nat} (hE : c_E B ln lu I) (hc : c_ok ln c) (hsz : sz ≤ 2) (hlo : lo < 65536) (hhi : hi < 65536) : ct_Me l M_R_takeWithin 2 0 0 [.ref 23, .int (nI sz), .int (nI lo), .int (nI hi)] (c_g (c_sc I c) L true) (fun w0 g => w0 = some (.int (nI (c_tw B ln sz lo hi c).1)) ∧ g = c_g (c_sc I (c_tw B ln sz lo hi c).2) L true) := by
  obtain ⟨rfl, h1, -⟩ := hE
  exact sp_R_takeWithin l I L c hc hln h1 hsz hlo hhi
theorem ad_takeTypes (l : ct_Lx) {B : Nat → Nat} {ln : Nat} {lu : Bool} (hln : ln ≤ 4096) (I : Nat → Nat → Int32) (L : Nat → Nat → Int64) (c : c_Cu) (rf : Bool) {r NR fr lo hi : Nat} (hE : c_E B ln lu I) (hW : c_W I) (hc : c_ok ln c) (hr : c_sh r = (3, NR)) (hfr : fr + hi ≤ NR) (hNR : NR < 10000) (hlo : lo < 65536) : ct_Me l M_R_takeTypes 3 0 0 [.ref 23, .ref r, .int (nI fr), .int (nI lo), .int (nI hi), .int (if rf = true then 1 else 0)] (c_g (c_sc I c) L true) (fun w0 g => w0 = some (.int (nI (c_tw B ln 1 lo hi c).1)) ∧ g = c_g (c_sc I (c_tys B ln lu (c_na I) rf r fr lo hi c L).1) (c_tys B ln lu (c_na I) rf r fr lo hi c L).2 true) := by
  obtain ⟨rfl, h1, h2⟩ := hE
  exact sp_R_takeTypes l I L c hc hln h1 h2 hW.n1.1 hW.n2.1 hW.n1.2 hW.n2.2 rf hr hfr hNR hlo
theorem c_ok.tys {B : Nat → Nat} {ln : Nat} {lu : Bool} {na : Nat} {rf : Bool} {r fr lo hi : Nat} {c : c_Cu} {L : Nat → Nat → Int64} (h : c_ok ln c) : c_ok ln (c_tys B ln lu na rf r fr lo hi c L).1 := h.tw.tl _ _ _
/-! a structure; all of them -/
def c_rs1 (B : Nat → Nat) (ln : Nat) (lu : Bool) (k : Nat) (S : c_S) : c_S :=
  ((c_tys B ln lu (c_na S.2.1) false 15 (k * 16) 1 16 (c_tw B ln 1 0 15 S.1).2 S.2.2).1,
   ct_u2 (ct_u2 (ct_u2 (ct_u2 (ct_u2 S.2.1 24 k (nI S.1.1)) 14 (k * 4 + 0) (nI (c_tw B ln 1 0 15 S.1).1)) 14 (k * 4 + 1) (nI (c_tw B ln 1 1 16 (c_tw B ln 1 0 15 S.1).2).1)) 14 (k * 4 + 2) (-1)) 14 (k * 4 + 3) (-1),
   (c_tys B ln lu (c_na S.2.1) false 15 (k * 16) 1 16 (c_tw B ln 1 0 15 S.1).2 S.2.2).2)
/-- as long as nothing was found -/
def c_lp (f : Nat → c_S → c_S) : Nat → Nat → c_S → c_S
  | 0, _, S => S
  | n + 1, k, S => if S.1.2.1 = 0 then c_lp f n (k + 1) (f k S) else S
theorem c_lp_bad {f : Nat → c_S → c_S} {n k : Nat} {S : c_S} (h : ¬ S.1.2.1 = 0) : c_lp f n k S = S := by
  cases n with
  | zero => rfl
  | succ n => unfold c_lp; rw [if_neg h]
def c_rS (B : Nat → Nat) (ln : Nat) (lu : Bool) (S : c_S) : c_S := c_lp (c_rs1 B ln lu) (c_tw B ln 1 0 32 S.1).1 0 ((c_tw B ln 1 0 32 S.1).2, ct_u2 S.2.1 13 1 (nI (c_tw B ln 1 0 32 S.1).1), S.2.2)
theorem c_G.rs1 {B : Nat → Nat} {ln : Nat} {lu : Bool} {k : Nat} {S : c_S} (h : c_G B ln lu S) : c_G B ln lu (c_rs1 B ln lu k S) :=
  ⟨((((h.1.u2 (by decide) (by decide)).u2 (by decide) (by decide)).u2 (by decide) (by decide)).u2 (by decide) (by decide)).u2 (by decide) (by decide), ((((h.2.1.u2 (by decide)).u2 (by decide)).u2 (by decide)).u2 (by decide)).u2 (by decide), h.2.2.tw.tys⟩
theorem c_G.lp {B : Nat → Nat} {ln : Nat} {lu : Bool} {f : Nat → c_S → c_S} (hf : ∀ k S, c_G B ln lu S → c_G B ln lu (f k S)) : ∀ (n k : Nat) (S : c_S), c_G B ln lu S → c_G B ln lu (c_lp f n k S)
  | 0, _, _, h => h
  | n + 1, k, S, h => by
    unfold c_lp
    split
    · exact c_G.lp hf n (k + 1) _ (hf k S h)
    · exact h
theorem c_G.set {B : Nat → Nat} {ln : Nat} {lu : Bool} {S : c_S} {k v : Nat} {c : c_Cu} (h : c_G B ln lu S) (hv : v ≤ c_mx k) (hc : c_ok ln c) : c_G B ln lu (c, ct_u2 S.2.1 13 k (nI v), S.2.2) := ⟨h.1.u2 (by decide) (by decide), h.2.1.set hv, hc⟩
theorem c_G.rS {B : Nat → Nat} {ln : Nat} {lu : Bool} {S : c_S} (h : c_G B ln lu S) : c_G B ln lu (c_rS B ln lu S) := c_G.lp (fun _ _ h => h.rs1) _ _ _ (h.set (k := 1) c_tw_le h.2.2.tw)
