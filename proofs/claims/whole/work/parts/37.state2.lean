/-! foreign structures -/
def c_rf1 (B : Nat → Nat) (ln : Nat) (i : Nat) (S : c_S) : c_S :=
  ((c_tw B ln 1 0 15 (c_tk B ln 1 (c_tk B ln 2 S.1).2).2).2,
   ct_u2 (ct_u2 (ct_u2 (ct_u2 S.2.1 14 ((c_N S.2.1 1 + i) * 4 + 2) (nI (c_tk B ln 2 S.1).1)) 14 ((c_N S.2.1 1 + i) * 4 + 3) (nI (c_tk B ln 1 (c_tk B ln 2 S.1).2).1)) 14 ((c_N S.2.1 1 + i) * 4 + 0) (nI (c_tw B ln 1 0 15 (c_tk B ln 1 (c_tk B ln 2 S.1).2).2).1)) 14 ((c_N S.2.1 1 + i) * 4 + 1) 0,
   S.2.2)
def c_rF (B : Nat → Nat) (ln : Nat) (S : c_S) : c_S := c_lp (c_rf1 B ln) (c_tw B ln 1 0 32 S.1).1 0 ((c_tw B ln 1 0 32 S.1).2, ct_u2 S.2.1 13 2 (nI (c_tw B ln 1 0 32 S.1).1), S.2.2)
theorem c_G.rf1 {B : Nat → Nat} {ln : Nat} {lu : Bool} {k : Nat} {S : c_S} (h : c_G B ln lu S) : c_G B ln lu (c_rf1 B ln k S) :=
  ⟨(((h.1.u2 (by decide) (by decide)).u2 (by decide) (by decide)).u2 (by decide) (by decide)).u2 (by decide) (by decide), (((h.2.1.u2 (by decide)).u2 (by decide)).u2 (by decide)).u2 (by decide), h.2.2.tk.tk.tw⟩
theorem c_G.rF {B : Nat → Nat} {ln : Nat} {lu : Bool} {S : c_S} (h : c_G B ln lu S) : c_G B ln lu (c_rF B ln S) := c_G.lp (fun _ _ h => h.rf1) _ _ _ (h.set (k := 2) c_tw_le h.2.2.tw)
/-! flags and lists of the function at a slot -/
def c_rg1 (B : Nat → Nat) (ln : Nat) (lu : Bool) (s : Nat) (S : c_S) : c_S :=
  ((c_tys B ln lu (c_na S.2.1) true 17 (s * 48 + 1 * 8) 0 8 (c_tys B ln lu (c_na S.2.1) true 17 (s * 48 + 0 * 8) 0 8 (c_tw B ln 1 0 7 S.1).2 S.2.2).1 (c_tys B ln lu (c_na S.2.1) true 17 (s * 48 + 0 * 8) 0 8 (c_tw B ln 1 0 7 S.1).2 S.2.2).2).1,
   ct_u2 (ct_u2 (ct_u2 S.2.1 16 (s * 7 + 0) (nI (c_tw B ln 1 0 7 S.1).1)) 16 (s * 7 + 1) (nI (c_tw B ln 1 0 8 (c_tw B ln 1 0 7 S.1).2).1)) 16 (s * 7 + 2) (nI (c_tw B ln 1 0 8 (c_tys B ln lu (c_na S.2.1) true 17 (s * 48 + 0 * 8) 0 8 (c_tw B ln 1 0 7 S.1).2 S.2.2).1).1),
   (c_tys B ln lu (c_na S.2.1) true 17 (s * 48 + 1 * 8) 0 8 (c_tys B ln lu (c_na S.2.1) true 17 (s * 48 + 0 * 8) 0 8 (c_tw B ln 1 0 7 S.1).2 S.2.2).1 (c_tys B ln lu (c_na S.2.1) true 17 (s * 48 + 0 * 8) 0 8 (c_tw B ln 1 0 7 S.1).2 S.2.2).2).2)
theorem c_G.rg1 {B : Nat → Nat} {ln : Nat} {lu : Bool} {k : Nat} {S : c_S} (h : c_G B ln lu S) : c_G B ln lu (c_rg1 B ln lu k S) :=
  ⟨((h.1.u2 (by decide) (by decide)).u2 (by decide) (by decide)).u2 (by decide) (by decide), ((h.2.1.u2 (by decide)).u2 (by decide)).u2 (by decide), h.2.2.tw.tys.tys⟩
/-! foreign functions -/
def c_rh0 (B : Nat → Nat) (ln : Nat) (i : Nat) (S : c_S) : c_S := ((c_tk B ln 1 (c_tk B ln 2 S.1).2).2, ct_u2 (ct_u2 S.2.1 16 ((64 + i) * 7 + 5) (nI (c_tk B ln 2 S.1).1)) 16 ((64 + i) * 7 + 6) (nI (c_tk B ln 1 (c_tk B ln 2 S.1).2).1), S.2.2)
def c_rh1 (B : Nat → Nat) (ln : Nat) (lu : Bool) (i : Nat) (S : c_S) : c_S :=
  ((c_rg1 B ln lu (64 + i) (c_rh0 B ln i S)).1, ct_u2 (ct_u2 (c_rg1 B ln lu (64 + i) (c_rh0 B ln i S)).2.1 16 ((64 + i) * 7 + 3) 0) 16 ((64 + i) * 7 + 4) 0, (c_rg1 B ln lu (64 + i) (c_rh0 B ln i S)).2.2)
def c_rH (B : Nat → Nat) (ln : Nat) (lu : Bool) (S : c_S) : c_S := c_lp (c_rh1 B ln lu) (c_tw B ln 1 0 32 S.1).1 0 ((c_tw B ln 1 0 32 S.1).2, ct_u2 S.2.1 13 3 (nI (c_tw B ln 1 0 32 S.1).1), S.2.2)
theorem c_G.rh0 {B : Nat → Nat} {ln : Nat} {lu : Bool} {k : Nat} {S : c_S} (h : c_G B ln lu S) : c_G B ln lu (c_rh0 B ln k S) :=
  ⟨(h.1.u2 (by decide) (by decide)).u2 (by decide) (by decide), (h.2.1.u2 (by decide)).u2 (by decide), h.2.2.tk.tk⟩
theorem c_G.rh1 {B : Nat → Nat} {ln : Nat} {lu : Bool} {k : Nat} {S : c_S} (h : c_G B ln lu S) : c_G B ln lu (c_rh1 B ln lu k S) := by
  have h1 := (h.rh0 (k := k)).rg1 (k := 64 + k)
  unfold c_rh1
  generalize c_rg1 B ln lu (64 + k) (c_rh0 B ln k S) = S1 at h1 ⊢
  exact ⟨(h1.1.u2 (by decide) (by decide)).u2 (by decide) (by decide), (h1.2.1.u2 (by decide)).u2 (by decide), h1.2.2⟩
theorem c_G.rH {B : Nat → Nat} {ln : Nat} {lu : Bool} {S : c_S} (h : c_G B ln lu S) : c_G B ln lu (c_rH B ln lu S) := c_G.lp (fun _ _ h => h.rh1) _ _ _ (h.set (k := 3) c_tw_le h.2.2.tw)
/-! element types -/
def c_rE (B : Nat → Nat) (ln : Nat) (lu : Bool) (S : c_S) : c_S := ((c_tys B ln lu (c_na S.2.1) false 18 0 0 32 S.1 S.2.2).1, ct_u2 S.2.1 13 4 (nI (c_tw B ln 1 0 32 S.1).1), (c_tys B ln lu (c_na S.2.1) false 18 0 0 32 S.1 S.2.2).2)
theorem c_G.rE {B : Nat → Nat} {ln : Nat} {lu : Bool} {S : c_S} (h : c_G B ln lu S) : c_G B ln lu (c_rE B ln lu S) := ⟨h.1.u2 (by decide) (by decide), h.2.1.set (k := 4) c_tw_le, h.2.2.tys⟩
/-! an instruction; a function's code -/
def c_ofN (p : Nat) : Nat := (c_ofI (nI p)).toNatClampNeg
theorem c_ofN_ok : ∀ p, p < 60 → c_ofI (nI p) = nI (c_ofN p) ∧ c_ofN p < 11 := by decide +kernel
def c_ri1 (B : Nat → Nat) (ln : Nat) (lu : Bool) (lc ni : Nat) (s : Nat) (S : c_S) : c_S :=
  ((c_so B ln lu (c_sf S.2.1 (c_na S.2.1) (nI (c_fo B ln lu (c_N S.2.1 1) (c_na S.2.1) (c_N S.2.1 5 + c_N S.2.1 3) (c_N S.2.1 4) lc ni (c_ofN (c_to B ln S.1).1) (c_to B ln S.1).2).1) 1) (c_ofN (c_to B ln S.1).1) (c_fo B ln lu (c_N S.2.1 1) (c_na S.2.1) (c_N S.2.1 5 + c_N S.2.1 3) (c_N S.2.1 4) lc ni (c_ofN (c_to B ln S.1).1) (c_to B ln S.1).2).2).2,
   ct_u2 S.2.1 20 s (nI (c_to B ln S.1).1),
   ct_u2 (ct_u2 S.2.2 21 s (lN (c_fo B ln lu (c_N S.2.1 1) (c_na S.2.1) (c_N S.2.1 5 + c_N S.2.1 3) (c_N S.2.1 4) lc ni (c_ofN (c_to B ln S.1).1) (c_to B ln S.1).2).1)) 22 s (lN (c_so B ln lu (c_sf S.2.1 (c_na S.2.1) (nI (c_fo B ln lu (c_N S.2.1 1) (c_na S.2.1) (c_N S.2.1 5 + c_N S.2.1 3) (c_N S.2.1 4) lc ni (c_ofN (c_to B ln S.1).1) (c_to B ln S.1).2).1) 1) (c_ofN (c_to B ln S.1).1) (c_fo B ln lu (c_N S.2.1 1) (c_na S.2.1) (c_N S.2.1 5 + c_N S.2.1 3) (c_N S.2.1 4) lc ni (c_ofN (c_to B ln S.1).1) (c_to B ln S.1).2).2).1))
theorem c_to_le {B : Nat → Nat} {ln : Nat} {c : c_Cu} : (c_to B ln c).1 < 60 := by
  unfold c_to
  split
  · show (0 : Nat) < 60
    decide
  · omega
theorem c_G.ri1 {B : Nat → Nat} {ln : Nat} {lu : Bool} {lc ni k : Nat} {S : c_S} (h : c_G B ln lu S) : c_G B ln lu (c_ri1 B ln lu lc ni k S) :=
  ⟨h.1.u2 (by decide) (by decide), h.2.1.u2 (by decide), h.2.2.to.fo.so⟩
/-- how many locals -/
def c_lc (I : Nat → Nat → Int32) (f : Nat) : Nat := (I 16 (f * 7 + 1)).toNatClampNeg + (I 16 (f * 7 + 3)).toNatClampNeg
def c_mi (n6 : Nat) : Nat := if 8192 - n6 < 1024 then 8192 - n6 else 1024
def c_rc0 (B : Nat → Nat) (ln : Nat) (f : Nat) (S : c_S) : c_S := ((c_tw B ln 2 1 (c_mi (c_N S.2.1 6)) S.1).2, ct_u2 (ct_u2 (ct_u2 S.2.1 16 (f * 7 + 4) (nI (c_tw B ln 2 1 (c_mi (c_N S.2.1 6)) S.1).1)) 19 f (nI (c_N S.2.1 6))) 13 6 (nI (c_N S.2.1 6 + (c_tw B ln 2 1 (c_mi (c_N S.2.1 6)) S.1).1)), S.2.2)
def c_rc (B : Nat → Nat) (ln : Nat) (lu : Bool) (f : Nat) (S : c_S) : c_S := c_lp (c_ri1 B ln lu (c_lc S.2.1 f) (c_tw B ln 2 1 (c_mi (c_N S.2.1 6)) S.1).1) (c_tw B ln 2 1 (c_mi (c_N S.2.1 6)) S.1).1 (c_N S.2.1 6) (c_rc0 B ln f S)
theorem c_mi_le (n : Nat) : c_mi n ≤ 1024 ∧ c_mi n ≤ 8192 - n := by unfold c_mi; split <;> omega
theorem c_G.rc0 {B : Nat → Nat} {ln : Nat} {lu : Bool} {f : Nat} {S : c_S} (h : c_G B ln lu S) : c_G B ln lu (c_rc0 B ln f S) := by
  have hn := h.2.1.n6.2
  have hm := c_mi_le (c_N S.2.1 6)
  have ht := c_tw_le (B := B) (ln := ln) (sz := 2) (lo := 1) (hi := c_mi (c_N S.2.1 6)) (c := S.1)
  exact ⟨((h.1.u2 (by decide) (by decide)).u2 (by decide) (by decide)).u2 (by decide) (by decide), ((h.2.1.u2 (by decide)).u2 (by decide)).set (k := 6) (show _ ≤ 8192 by omega), h.2.2.tw⟩
theorem c_G.rc {B : Nat → Nat} {ln : Nat} {lu : Bool} {f : Nat} {S : c_S} (h : c_G B ln lu S) : c_G B ln lu (c_rc B ln lu f S) := c_G.lp (fun _ _ h => h.ri1) _ _ _ h.rc0
/-! functions -/
def c_rn0 (B : Nat → Nat) (ln : Nat) (lu : Bool) (f : Nat) (S : c_S) : c_S := c_rg1 B ln lu f (S.1, ct_u2 (ct_u2 S.2.1 16 (f * 7 + 5) (-1)) 16 (f * 7 + 6) (-1), S.2.2)
def c_rn2 (B : Nat → Nat) (ln : Nat) (lu : Bool) (f : Nat) (S : c_S) : c_S := ((c_tys B ln lu (c_na S.2.1) true 17 (f * 48 + 2 * 8) 0 32 S.1 S.2.2).1, ct_u2 S.2.1 16 (f * 7 + 3) (nI (c_tw B ln 1 0 32 S.1).1), (c_tys B ln lu (c_na S.2.1) true 17 (f * 48 + 2 * 8) 0 32 S.1 S.2.2).2)
def c_rn1 (B : Nat → Nat) (ln : Nat) (lu : Bool) (f : Nat) (S : c_S) : c_S := c_rc B ln lu f (c_rn2 B ln lu f (c_rn0 B ln lu f S))
def c_rN (B : Nat → Nat) (ln : Nat) (lu : Bool) (S : c_S) : c_S := c_lp (c_rn1 B ln lu) (c_tw B ln 1 0 64 S.1).1 0 ((c_tw B ln 1 0 64 S.1).2, ct_u2 (ct_u2 S.2.1 13 5 (nI (c_tw B ln 1 0 64 S.1).1)) 13 6 0, S.2.2)
theorem c_G.rn0 {B : Nat → Nat} {ln : Nat} {lu : Bool} {f : Nat} {S : c_S} (h : c_G B ln lu S) : c_G B ln lu (c_rn0 B ln lu f S) :=
  c_G.rg1 ⟨(h.1.u2 (by decide) (by decide)).u2 (by decide) (by decide), (h.2.1.u2 (by decide)).u2 (by decide), h.2.2⟩
theorem c_G.rn2 {B : Nat → Nat} {ln : Nat} {lu : Bool} {f : Nat} {S : c_S} (h : c_G B ln lu S) : c_G B ln lu (c_rn2 B ln lu f S) :=
  ⟨h.1.u2 (by decide) (by decide), h.2.1.u2 (by decide), h.2.2.tys⟩
theorem c_G.rn1 {B : Nat → Nat} {ln : Nat} {lu : Bool} {f : Nat} {S : c_S} (h : c_G B ln lu S) : c_G B ln lu (c_rn1 B ln lu f S) := h.rn0.rn2.rc
theorem c_G.rN {B : Nat → Nat} {ln : Nat} {lu : Bool} {S : c_S} (h : c_G B ln lu S) : c_G B ln lu (c_rN B ln lu S) :=
  c_G.lp (fun _ _ h => h.rn1) _ _ _ ⟨(h.1.u2 (by decide) (by decide)).u2 (by decide) (by decide), (h.2.1.set (k := 5) (v := (c_tw B ln 1 0 64 S.1).1) c_tw_le).set (k := 6) (v := 0) (by decide), h.2.2.tw⟩
/-! the mark; a walk -/
def c_mkN (i : Nat) : Nat := if i = 0 then 82 else if i = 1 then 76 else if i = 2 then 77 else 49
def c_rm1 (B : Nat → Nat) (ln : Nat) (i : Nat) (c : c_Cu) : c_Cu := if (c_tk B ln 1 c).1 = c_mkN i then (c_tk B ln 1 c).2 else c_fl 1 c.1 (c_tk B ln 1 c).2
def c_rM (B : Nat → Nat) (ln : Nat) (c : c_Cu) : c_Cu := c_rm1 B ln 3 (c_rm1 B ln 2 (c_rm1 B ln 1 (c_rm1 B ln 0 c)))
theorem c_ok.rm1 {B : Nat → Nat} {ln i : Nat} {c : c_Cu} (h : c_ok ln c) : c_ok ln (c_rm1 B ln i c) := by
  unfold c_rm1
  split
  · exact h.tk
  · exact h.tk.fl (by decide) h.1
theorem c_ok.rM {B : Nat → Nat} {ln : Nat} {c : c_Cu} (h : c_ok ln c) : c_ok ln (c_rM B ln c) := h.rm1.rm1.rm1.rm1
