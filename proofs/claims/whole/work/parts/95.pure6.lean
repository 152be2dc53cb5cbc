/-! PURE: instructions -/
theorem y_tn {B : Nat → Nat} {ln sz m r q w : Nat} {lu : Bool} (h : q + sz ≤ ln) (hm : m < 2 ^ 31) (hn : c_num B q sz < 2 ^ 31) : c_tn B ln lu sz (nI m) r (q, 0, w) = (c_num B q sz, if lu = true ∧ m ≤ c_num B q sz then (q + sz, r, q) else (q + sz, 0, w)) := by
  unfold c_tn
  rw [y_tk h]; dsimp only
  have e := nI_ltI hn hm
  by_cases z : lu = true ∧ m ≤ c_num B q sz
  · rw [if_pos ⟨z.1, fun y => by have := e.mp y; omega⟩, if_pos z]; rfl
  · rw [if_neg (fun y => z ⟨y.1, Nat.le_of_not_lt fun x => y.2 (e.mpr x)⟩), if_neg z]
theorem y_os {B : Nat → Nat} {ln n1 na q w : Nat} {lu : Bool} (h : q < ln) : c_os B ln lu n1 na (q, 0, w) = (B q, if lu = true ∧ n1 ≤ B q then (q + 1, if B q < na then 8 else 7, q) else (q + 1, 0, w)) := by
  unfold c_os
  rw [y_tk1 h]; dsimp only
  by_cases z : lu = true ∧ n1 ≤ B q
  · rw [if_pos z, if_pos z]; rfl
  · rw [if_neg z, if_neg z]
theorem c_tn_bad {B : Nat → Nat} {ln sz r : Nat} {hm : Int32} {lu : Bool} {c : c_Cu} (h : ¬ c.2.1 = 0) : c_tn B ln lu sz hm r c = (0, c) := by
  unfold c_tn; rw [c_tk_bad h]; dsimp only; rw [c_fl_bad h]; split <;> rfl
theorem c_os_bad {B : Nat → Nat} {ln n1 na : Nat} {lu : Bool} {c : c_Cu} (h : ¬ c.2.1 = 0) : (c_os B ln lu n1 na c).2 = c := by
  unfold c_os; rw [c_tk_bad h]; dsimp only; rw [c_fl_bad h]; split <;> rfl
theorem c_so_bad {B : Nat → Nat} {ln s : Nat} {hm : Int32} {lu : Bool} {c : c_Cu} (h : ¬ c.2.1 = 0) : (c_so B ln lu hm s c).2 = c := by
  unfold c_so
  split
  · rw [c_tn_bad h]
  · split
    · rw [c_tw_bad h]
    · rw [c_tk_bad h]
theorem o_facts : ∀ o, o < 60 → c_fs (c_ofN o) + c_ss (c_ofN o) = m_ob o ∧ (c_ofN o = 8 ↔ (1 < o ∧ o < 5)) ∧ (c_ofN o = 2 ↔ (10 < o ∧ o < 16)) ∧ (c_ofN o = 4 ↔ (o = 16 ∨ o = 17)) ∧ (c_ofN o = 3 ↔ (o = 21 ∨ o = 22 ∨ (46 < o ∧ o < 52))) ∧ (c_ofN o = 5 ↔ o = 23) ∧ (c_ofN o = 7 ↔ o = 52) ∧ (c_ofN o = 6 ↔ (52 < o ∧ o < 59)) ∧ c_ofN o < 11 := by decide +kernel
def v_I (B : Nat → Nat) (ln p : Nat) : Prop := p < ln ∧ B p ≤ 59 ∧ p + 1 + m_ob (B p) ≤ ln ∧ (B p = 52 → B (p + 2) ≤ 64)
/-- the first and the second operand's number -/
def v_o1 (B : Nat → Nat) (p : Nat) : Nat := c_num B (p + 1) (c_fs (c_ofN (B p)))
def v_o2 (B : Nat → Nat) (p : Nat) : Nat := c_num B (p + 1 + c_fs (c_ofN (B p))) (c_ss (c_ofN (B p)))
/-- what is looked up, by the shape -/
def v_is (B : Nat → Nat) (N SA : Nat → Nat) (lc mn s p : Nat) (c : c_Cu) : c_Cu :=
  if s = 8 then m_iA B mn p c else if s = 2 then m_iB B 10 lc p c else if s = 4 then m_iC B (N 9) (N 9 + N 10) SA p c else if s = 3 then m_own B (N 9) (N 9 + N 10) (p + 1) c else if s = 5 then m_iB B 11 (N 13 + N 11) p c else if s = 6 ∨ s = 7 then m_iB B 12 (N 12) p c else c
theorem v_is_eq {B : Nat → Nat} {N SA : Nat → Nat} {lc mn p : Nat} {c : c_Cu} (h : B p < 60) : m_ins B N SA lc mn p c = v_is B N SA lc mn (c_ofN (B p)) p c := by
  obtain ⟨-, h8, h2, h4, h3, h5, h7, h6, -⟩ := o_facts (B p) h
  unfold m_ins v_is
  by_cases c8 : c_ofN (B p) = 8
  · rw [if_pos c8, if_pos (h8.mp c8)]
  · rw [if_neg c8, if_neg (fun z => c8 (h8.mpr z))]
    by_cases c2 : c_ofN (B p) = 2
    · rw [if_pos c2, if_pos (h2.mp c2)]
    · rw [if_neg c2, if_neg (fun z => c2 (h2.mpr z))]
      by_cases c4 : c_ofN (B p) = 4
      · rw [if_pos c4, if_pos (h4.mp c4)]
      · rw [if_neg c4, if_neg (fun z => c4 (h4.mpr z))]
        by_cases c3 : c_ofN (B p) = 3
        · rw [if_pos c3, if_pos (h3.mp c3)]
        · rw [if_neg c3, if_neg (fun z => c3 (h3.mpr z))]
          by_cases c5 : c_ofN (B p) = 5
          · rw [if_pos c5, if_pos (h5.mp c5)]
          · rw [if_neg c5, if_neg (fun z => c5 (h5.mpr z))]
            by_cases c6 : c_ofN (B p) = 6 ∨ c_ofN (B p) = 7
            · rw [if_pos c6, if_pos (by rcases c6 with q | q; have := h6.mp q; omega; have := h7.mp q; omega)]
            · rw [if_neg c6, if_neg (fun z => c6 (by by_cases y : B p = 52; exact Or.inr (h7.mpr y); exact Or.inl (h6.mpr (by omega))))]
theorem c_num_2 (B : Nat → Nat) (q : Nat) : c_num B q 2 = m_fn B q := by
  show (0 * 256 + B (q + 0)) * 256 + B (q + 1) = 256 * B q + B (q + 1)
  rw [Nat.zero_mul, Nat.zero_add, Nat.add_zero, Nat.mul_comm]
/-- the tables that looking up needs -/
def v_tb (B : Nat → Nat) (N SA : Nat → Nat) (I : Nat → Nat → Int32) : Prop := c_N I 1 = N 9 ∧ c_N I 2 = N 10 ∧ c_N I 5 + c_N I 3 = N 13 + N 11 ∧ c_N I 4 = N 12 ∧ ∀ f, f < N 9 → c_sf I (N 9 + N 10) (nI f) 1 = nI (B (SA f + 1))
theorem v_R.self {d : c_Cu} {e w : Nat} (hd : d.2.1 = 0) : v_R (e, 0, w) e w d := ⟨hd.symm, fun z => absurd hd z, fun _ => rfl⟩
theorem v_R.fl {d : c_Cu} {a e w r s : Nat} (hd : d.2.1 = 0) (hr : ¬ r = 0) : v_R (a, r, s) e w (c_fl r s d) := by
  unfold c_fl; rw [if_pos hd]
  exact ⟨rfl, fun _ => rfl, fun z => absurd z hr⟩
/-- the operands: first, then second -/
theorem y_op {B : Nat → Nat} {ln : Nat} (hB : v_B B ln) (lu : Bool) {N SA : Nat → Nat} {lc ni p w : Nat} (hv : v_I B ln p) (hlc : lc < 2 ^ 31) (hni : ni < 2 ^ 31) (bN : N 9 ≤ 32 ∧ N 10 ≤ 32 ∧ N 13 + N 11 < 2 ^ 31 ∧ N 12 < 2 ^ 31) {n1 na nf n4 : Nat} {F : Nat → Int32} (hT : lu = true → n1 = N 9 ∧ na = N 9 + N 10 ∧ nf = N 13 + N 11 ∧ n4 = N 12 ∧ ∀ f, f < N 9 → F f = nI (B (SA f + 1))) (hb : nf < 2 ^ 31 ∧ n4 < 2 ^ 31) (d : c_Cu) (hd : d.2.1 = 0) :
    v_R (c_so B ln lu (F (c_fo B ln lu n1 na nf n4 lc ni (c_ofN (B p)) (p + 1, 0, w)).1) (c_ofN (B p)) (c_fo B ln lu n1 na nf n4 lc ni (c_ofN (B p)) (p + 1, 0, w)).2).2 (p + 1 + m_ob (B p)) w (v_lk lu (m_ins B N SA lc ni p) d) ∧ ((c_so B ln lu (F (c_fo B ln lu n1 na nf n4 lc ni (c_ofN (B p)) (p + 1, 0, w)).1) (c_ofN (B p)) (c_fo B ln lu n1 na nf n4 lc ni (c_ofN (B p)) (p + 1, 0, w)).2).2.2.1 = 0 → (c_fo B ln lu n1 na nf n4 lc ni (c_ofN (B p)) (p + 1, 0, w)).1 = v_o1 B p ∧ (c_so B ln lu (F (c_fo B ln lu n1 na nf n4 lc ni (c_ofN (B p)) (p + 1, 0, w)).1) (c_ofN (B p)) (c_fo B ln lu n1 na nf n4 lc ni (c_ofN (B p)) (p + 1, 0, w)).2).1 = v_o2 B p) := by
  obtain ⟨v1, v2, v3, v4⟩ := hv
  obtain ⟨f0, f8, f2, f4, f3, f5, f7, f6, f11⟩ := o_facts (B p) (by omega)
  have eins : v_lk lu (m_ins B N SA lc ni p) d = v_lk lu (v_is B N SA lc ni (c_ofN (B p)) p) d := by
    unfold v_lk; split
    · exact v_is_eq (by omega)
    · rfl
  rw [eins]
  unfold v_o1 v_o2
  have v4' : c_ofN (B p) = 7 → B (p + 2) ≤ 64 := fun q => v4 (f7.mp q)
  rw [← f0] at v3 ⊢
  generalize c_ofN (B p) = s at f11 v3 v4' ⊢
  have lk0 : ∀ f : c_Cu → c_Cu, ¬ lu = true → v_lk lu f d = d := fun f q => by unfold v_lk; rw [if_neg q]
  have lk1 : ∀ f : c_Cu → c_Cu, lu = true → v_lk lu f d = f d := fun f q => by unfold v_lk; rw [if_pos q]
  have b1 := hB.1 (p + 1)
  have b2 := hB.1 (p + 2)
  -- the second operand, where it is only taken
  have sec : ∀ (hm : Int32), ¬ s = 4 → ¬ s = 7 → c_so B ln lu hm s (p + 1 + c_fs s, 0, w) = (c_num B (p + 1 + c_fs s) (c_ss s), (p + 1 + (c_fs s + c_ss s), 0, w)) := by
    intro hm q4 q7
    unfold c_so
    rw [if_neg q4, if_neg q7, y_tk (by omega)]
    rw [show p + 1 + c_fs s + c_ss s = p + 1 + (c_fs s + c_ss s) from by omega]
  -- a name, then nothing more than what is taken
  have nam : ∀ (sz m r : Nat), ¬ s = 4 → ¬ s = 7 → ¬ r = 0 → sz = c_fs s → m < 2 ^ 31 → c_num B (p + 1) sz < 2 ^ 31 → c_fo B ln lu n1 na nf n4 lc ni s (p + 1, 0, w) = c_tn B ln lu sz (nI m) r (p + 1, 0, w) → (lu = true → v_is B N SA lc ni s p d = if m ≤ c_num B (p + 1) sz then c_fl r (p + 1) d else d) →
      v_R (c_so B ln lu (F (c_fo B ln lu n1 na nf n4 lc ni s (p + 1, 0, w)).1) s (c_fo B ln lu n1 na nf n4 lc ni s (p + 1, 0, w)).2).2 (p + 1 + (c_fs s + c_ss s)) w (v_lk lu (v_is B N SA lc ni s p) d) ∧ ((c_so B ln lu (F (c_fo B ln lu n1 na nf n4 lc ni s (p + 1, 0, w)).1) s (c_fo B ln lu n1 na nf n4 lc ni s (p + 1, 0, w)).2).2.2.1 = 0 → (c_fo B ln lu n1 na nf n4 lc ni s (p + 1, 0, w)).1 = c_num B (p + 1) (c_fs s) ∧ (c_so B ln lu (F (c_fo B ln lu n1 na nf n4 lc ni s (p + 1, 0, w)).1) s (c_fo B ln lu n1 na nf n4 lc ni s (p + 1, 0, w)).2).1 = c_num B (p + 1 + c_fs s) (c_ss s)) := by
    intro sz m r q4 q7 hr hsz hm hn efo eis
    rw [efo, y_tn (by omega) hm hn]
    dsimp only
    by_cases z : lu = true ∧ m ≤ c_num B (p + 1) sz
    · rw [if_pos z, c_so_bad (show ¬ (p + 1 + sz, r, p + 1).2.1 = 0 from hr), lk1 _ z.1, eis z.1, if_pos z.2]
      exact ⟨v_R.fl hd hr, fun q => absurd q hr⟩
    · rw [if_neg z, hsz, sec _ q4 q7]
      refine ⟨?_, fun _ => ⟨rfl, rfl⟩⟩
      by_cases y : lu = true
      · rw [lk1 _ y, eis y, if_neg (fun x => z ⟨y, x⟩)]; exact v_R.self hd
      · rw [lk0 _ y]; exact v_R.self hd
  by_cases c8 : s = 8
  · subst c8
    refine nam 2 ni 13 (by decide) (by decide) (by decide) rfl hni (by rw [c_num_2]; have := hB.1 (p + 1 + 1); unfold m_fn; omega) rfl (fun _ => ?_)
    rw [c_num_2]; rfl
  by_cases c2 : s = 2
  · subst c2
    refine nam 1 lc 10 (by decide) (by decide) (by decide) rfl hlc (by rw [c_num_1]; omega) rfl (fun _ => ?_)
    rw [c_num_1]; rfl
  by_cases c5 : s = 5
  · subst c5
    refine nam 1 nf 11 (by decide) (by decide) (by decide) rfl hb.1 (by rw [c_num_1]; omega) rfl (fun q => ?_)
    rw [c_num_1, (hT q).2.2.1]; rfl
  by_cases c6 : s = 6
  · subst c6
    refine nam 1 n4 12 (by decide) (by decide) (by decide) rfl hb.2 (by rw [c_num_1]; omega) rfl (fun q => ?_)
    rw [c_num_1, (hT q).2.2.2.1]; rfl
  by_cases c7 : s = 7
  · subst c7
    have efo : c_fo B ln lu n1 na nf n4 lc ni 7 (p + 1, 0, w) = (B (p + 1), if lu = true ∧ n4 ≤ B (p + 1) then (p + 2, 12, p + 1) else (p + 2, 0, w)) := by
      have e := y_tn (B := B) (lu := lu) (m := n4) (r := 12) (w := w) (show p + 1 + 1 ≤ ln by have : p + 1 + (c_fs 7 + c_ss 7) = p + 3 := rfl; omega) hb.2 (by rw [c_num_1]; omega)
      rw [c_num_1] at e
      exact e
    rw [efo]
    dsimp only
    by_cases z : lu = true ∧ n4 ≤ B (p + 1)
    · rw [if_pos z, c_so_bad (show ¬ (p + 2, 12, p + 1).2.1 = 0 from (by decide : ¬ (12 : Nat) = 0)), lk1 _ z.1]
      have : v_is B N SA lc ni 7 p d = c_fl 12 (p + 1) d := by
        show m_iB B 12 (N 12) p d = _
        unfold m_iB; rw [if_pos (by rw [← (hT z.1).2.2.2.1]; exact z.2)]
      rw [this]
      exact ⟨v_R.fl hd (by decide), fun q => absurd (show (12 : Nat) = 0 from q) (by decide)⟩
    · rw [if_neg z]
      have eso : c_so B ln lu (F (B (p + 1))) 7 (p + 2, 0, w) = (B (p + 2), (p + 3, 0, w)) := by
        show c_tw B ln 1 0 64 (p + 2, 0, w) = _
        rw [y_tw_ok (show p + 2 < ln by have : p + 1 + (c_fs 7 + c_ss 7) = p + 3 := rfl; omega) (Nat.zero_le _) (v4' rfl)]
      rw [eso]
      refine ⟨?_, fun _ => ⟨(c_num_1 B (p + 1)).symm, (c_num_1 B (p + 2)).symm⟩⟩
      show v_R (p + 3, 0, w) (p + 3) w _
      by_cases y : lu = true
      · rw [lk1 _ y]
        have : v_is B N SA lc ni 7 p d = d := by
          show m_iB B 12 (N 12) p d = _
          unfold m_iB; rw [if_neg (by rw [← (hT y).2.2.2.1]; exact fun x => z ⟨y, x⟩)]
        rw [this]; exact v_R.self hd
      · rw [lk0 _ y]; exact v_R.self hd
  by_cases c3 : s = 3
  · subst c3
    have efo : c_fo B ln lu n1 na nf n4 lc ni 3 (p + 1, 0, w) = (B (p + 1), if lu = true ∧ n1 ≤ B (p + 1) then (p + 2, if B (p + 1) < na then 8 else 7, p + 1) else (p + 2, 0, w)) :=
      y_os (show p + 1 < ln by have : p + 1 + (c_fs 3 + c_ss 3) = p + 2 := rfl; omega)
    rw [efo]
    dsimp only
    by_cases z : lu = true ∧ n1 ≤ B (p + 1)
    · have hne : ¬ (if B (p + 1) < na then 8 else 7) = 0 := by split <;> decide
      rw [if_pos z, c_so_bad (show ¬ (p + 2, (if B (p + 1) < na then 8 else 7), p + 1).2.1 = 0 from hne), lk1 _ z.1]
      have : v_is B N SA lc ni 3 p d = c_fl (if B (p + 1) < na then 8 else 7) (p + 1) d := by
        show m_own B (N 9) (N 9 + N 10) (p + 1) d = _
        obtain ⟨t1, t2, -⟩ := hT z.1
        unfold m_own
        rw [t2]
        by_cases x : N 9 + N 10 ≤ B (p + 1)
        · rw [if_pos x, if_neg (by omega)]
        · rw [if_neg x, if_pos (by omega), if_pos (by omega)]
      rw [this]
      exact ⟨v_R.fl hd hne, fun q => absurd q hne⟩
    · rw [if_neg z]
      have eso : c_so B ln lu (F (B (p + 1))) 3 (p + 2, 0, w) = (0, (p + 2, 0, w)) := by
        show c_tk B ln 0 (p + 2, 0, w) = _
        rw [y_tk (show p + 2 + 0 ≤ ln by have : p + 1 + (c_fs 3 + c_ss 3) = p + 2 := rfl; omega)]; rfl
      rw [eso]
      refine ⟨?_, fun _ => ⟨(c_num_1 B (p + 1)).symm, rfl⟩⟩
      show v_R (p + 2, 0, w) (p + 2) w _
      by_cases y : lu = true
      · rw [lk1 _ y]
        have : v_is B N SA lc ni 3 p d = d := by
          show m_own B (N 9) (N 9 + N 10) (p + 1) d = _
          obtain ⟨t1, t2, -⟩ := hT y
          have : ¬ n1 ≤ B (p + 1) := fun x => z ⟨y, x⟩
          unfold m_own; rw [if_neg (by omega), if_neg (by omega)]
        rw [this]; exact v_R.self hd
      · rw [lk0 _ y]; exact v_R.self hd
  by_cases c4 : s = 4
  · subst c4
    have h3 : p + 3 ≤ ln := v3
    have efo : c_fo B ln lu n1 na nf n4 lc ni 4 (p + 1, 0, w) = (B (p + 1), if lu = true ∧ n1 ≤ B (p + 1) then (p + 2, if B (p + 1) < na then 8 else 7, p + 1) else (p + 2, 0, w)) := y_os (show p + 1 < ln by omega)
    rw [efo]
    dsimp only
    by_cases z : lu = true ∧ n1 ≤ B (p + 1)
    · have hne : ¬ (if B (p + 1) < na then 8 else 7) = 0 := by split <;> decide
      rw [if_pos z, c_so_bad (show ¬ (p + 2, (if B (p + 1) < na then 8 else 7), p + 1).2.1 = 0 from hne), lk1 _ z.1]
      have own : m_own B (N 9) (N 9 + N 10) (p + 1) d = c_fl (if B (p + 1) < na then 8 else 7) (p + 1) d := by
        obtain ⟨t1, t2, -⟩ := hT z.1
        unfold m_own
        rw [t2]
        by_cases x : N 9 + N 10 ≤ B (p + 1)
        · rw [if_pos x, if_neg (by omega)]
        · rw [if_neg x, if_pos (by omega), if_pos (by omega)]
      have : v_is B N SA lc ni 4 p d = c_fl (if B (p + 1) < na then 8 else 7) (p + 1) d := by
        show m_iC B (N 9) (N 9 + N 10) SA p d = _
        unfold m_iC
        rw [own, if_neg (fun y => by
          have := y.1
          unfold c_fl at this
          rw [if_pos hd] at this
          exact hne this)]
      rw [this]
      exact ⟨v_R.fl hd hne, fun q => absurd q hne⟩
    · rw [if_neg z]
      by_cases y : lu = true
      · obtain ⟨t1, t2, t3, t4, t5⟩ := hT y
        have q1 : B (p + 1) < N 9 := by
          have : ¬ n1 ≤ B (p + 1) := fun x => z ⟨y, x⟩
          omega
        have own : m_own B (N 9) (N 9 + N 10) (p + 1) d = d := by unfold m_own; rw [if_neg (by omega), if_neg (by omega)]
        have b3 := hB.1 (SA (B (p + 1)) + 1)
        have eso : c_so B ln lu (F (B (p + 1))) 4 (p + 2, 0, w) = (B (p + 2), if lu = true ∧ B (SA (B (p + 1)) + 1) ≤ B (p + 2) then (p + 3, 9, p + 2) else (p + 3, 0, w)) := by
          rw [t5 _ q1]
          have e := y_tn (B := B) (lu := lu) (m := B (SA (B (p + 1)) + 1)) (r := 9) (w := w) (show p + 2 + 1 ≤ ln from h3) (by omega) (by rw [c_num_1]; omega)
          rw [c_num_1] at e
          exact e
        rw [eso, lk1 _ y]
        dsimp only
        by_cases x : B (SA (B (p + 1)) + 1) ≤ B (p + 2)
        · rw [if_pos ⟨y, x⟩]
          have : v_is B N SA lc ni 4 p d = c_fl 9 (p + 2) d := by
            show m_iC B (N 9) (N 9 + N 10) SA p d = _
            unfold m_iC; rw [own, if_pos ⟨hd, x⟩]
          rw [this]
          exact ⟨v_R.fl hd (by decide), fun q => absurd (show (9 : Nat) = 0 from q) (by decide)⟩
        · rw [if_neg (fun u => x u.2)]
          have : v_is B N SA lc ni 4 p d = d := by
            show m_iC B (N 9) (N 9 + N 10) SA p d = _
            unfold m_iC; rw [own, if_neg (fun u => x u.2)]
          rw [this]
          exact ⟨v_R.self hd, fun _ => ⟨(c_num_1 B (p + 1)).symm, (c_num_1 B (p + 2)).symm⟩⟩
      · have el : lu = false := by cases lu; rfl; exact absurd rfl y
        have eso : c_so B ln lu (F (B (p + 1))) 4 (p + 2, 0, w) = (B (p + 2), (p + 3, 0, w)) := by
          show c_tn B ln lu 1 _ 9 (p + 2, 0, w) = _
          unfold c_tn
          rw [if_neg (fun u => y u.1), y_tk1 (show p + 2 < ln from h3)]
        rw [eso, lk0 _ y]
        exact ⟨v_R.self hd, fun _ => ⟨(c_num_1 B (p + 1)).symm, (c_num_1 B (p + 2)).symm⟩⟩
  -- nothing is looked up
  have efo : c_fo B ln lu n1 na nf n4 lc ni s (p + 1, 0, w) = (c_num B (p + 1) (c_fs s), (p + 1 + c_fs s, 0, w)) := by
    unfold c_fo
    rw [if_neg c2, if_neg (by omega), if_neg c5, if_neg (by omega), if_neg c8, y_tk (by omega)]
  rw [efo]
  dsimp only
  rw [sec _ c4 c7]
  refine ⟨?_, fun _ => ⟨rfl, rfl⟩⟩
  by_cases y : lu = true
  · rw [lk1 _ y]
    have : v_is B N SA lc ni s p d = d := by
      unfold v_is
      rw [if_neg c8, if_neg c2, if_neg c4, if_neg c3, if_neg c5, if_neg (by omega)]
    rw [this]; exact v_R.self hd
  · rw [lk0 _ y]; exact v_R.self hd
