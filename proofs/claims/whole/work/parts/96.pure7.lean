/-! PURE: an instruction in the tables; the code of a function -/
theorem y_to {B : Nat → Nat} {ln p w : Nat} (h : p < ln) (h2 : B p ≤ 59) : c_to B ln (p, 0, w) = (B p, (p + 1, 0, w)) := by
  unfold c_to; rw [y_tk1 h]; dsimp only; rw [if_neg (by omega)]
theorem v_tb.at {B : Nat → Nat} {N SA : Nat → Nat} {I I' : Nat → Nat → Int32} (h : v_tb B N SA I) (h13 : ∀ k, k < 6 → I' 13 k = I 13 k) (h14 : I' 14 = I 14) : v_tb B N SA I' := by
  have e : ∀ k, k < 6 → c_N I' k = c_N I k := fun k hk => by unfold c_N; rw [h13 k hk]
  refine ⟨(e 1 (by decide)).trans h.1, (e 2 (by decide)).trans h.2.1, ?_, (e 4 (by decide)).trans h.2.2.2.1, fun f hf => ?_⟩
  · rw [e 5 (by decide), e 3 (by decide)]; exact h.2.2.1
  · rw [← h.2.2.2.2 f hf]; unfold c_sf; rw [h14]
theorem y_ri1_ok {B : Nat → Nat} {ln : Nat} (hB : v_B B ln) (lu : Bool) {N SA : Nat → Nat} {lc ni p w s : Nat} (hv : v_I B ln p) (hlc : lc < 2 ^ 31) (hni : ni < 2 ^ 31) (bN : N 9 ≤ 32 ∧ N 10 ≤ 32 ∧ N 13 + N 11 < 2 ^ 31 ∧ N 12 < 2 ^ 31) (I : Nat → Nat → Int32) (L : Nat → Nat → Int64) (hT : lu = true → v_tb B N SA I) (hb : c_N I 5 + c_N I 3 < 2 ^ 31 ∧ c_N I 4 < 2 ^ 31) (d : c_Cu) (hd : d.2.1 = 0) :
    v_R (c_ri1 B ln lu lc ni s ((p, 0, w), I, L)).1 (p + 1 + m_ob (B p)) w (v_lk lu (m_ins B N SA lc ni p) d) ∧ ((c_ri1 B ln lu lc ni s ((p, 0, w), I, L)).1.2.1 = 0 → (c_ri1 B ln lu lc ni s ((p, 0, w), I, L)).2.1 = ct_u2 I 20 s (nI (B p)) ∧ (c_ri1 B ln lu lc ni s ((p, 0, w), I, L)).2.2 = ct_u2 (ct_u2 L 21 s (lN (v_o1 B p))) 22 s (lN (v_o2 B p))) := by
  have h := y_op hB lu (N := N) (SA := SA) (w := w) hv hlc hni bN (n1 := c_N I 1) (na := c_na I) (nf := c_N I 5 + c_N I 3) (n4 := c_N I 4) (F := fun f => c_sf I (c_na I) (nI f) 1) (fun q => by
    obtain ⟨t1, t2, t3, t4, t5⟩ := hT q
    have ena : c_na I = N 9 + N 10 := by show c_N I 1 + c_N I 2 = _; rw [t1, t2]
    refine ⟨t1, ena, t3, t4, fun f hf => ?_⟩
    show c_sf I (c_na I) (nI f) 1 = _
    rw [ena]; exact t5 f hf) hb d hd
  have e : c_ri1 B ln lu lc ni s ((p, 0, w), I, L) = ((c_so B ln lu (c_sf I (c_na I) (nI (c_fo B ln lu (c_N I 1) (c_na I) (c_N I 5 + c_N I 3) (c_N I 4) lc ni (c_ofN (B p)) (p + 1, 0, w)).1) 1) (c_ofN (B p)) (c_fo B ln lu (c_N I 1) (c_na I) (c_N I 5 + c_N I 3) (c_N I 4) lc ni (c_ofN (B p)) (p + 1, 0, w)).2).2, ct_u2 I 20 s (nI (B p)), ct_u2 (ct_u2 L 21 s (lN (c_fo B ln lu (c_N I 1) (c_na I) (c_N I 5 + c_N I 3) (c_N I 4) lc ni (c_ofN (B p)) (p + 1, 0, w)).1)) 22 s (lN (c_so B ln lu (c_sf I (c_na I) (nI (c_fo B ln lu (c_N I 1) (c_na I) (c_N I 5 + c_N I 3) (c_N I 4) lc ni (c_ofN (B p)) (p + 1, 0, w)).1) 1) (c_ofN (B p)) (c_fo B ln lu (c_N I 1) (c_na I) (c_N I 5 + c_N I 3) (c_N I 4) lc ni (c_ofN (B p)) (p + 1, 0, w)).2).1)) := by
    unfold c_ri1; dsimp only; rw [y_to hv.1 hv.2.1]
  rw [e]
  refine ⟨h.1, fun q => ⟨rfl, ?_⟩⟩
  obtain ⟨q1, q2⟩ := h.2 q
  dsimp only
  rw [q2, q1]
/-- the first walk's instruction -/
theorem c_fo_false {B : Nat → Nat} {ln n1 na nf n4 lc ni : Nat} {c : c_Cu} : ∀ s, s < 11 → c_fo B ln false n1 na nf n4 lc ni s c = c_tk B ln (c_fs s) c := by
  intro s hs
  have tn : ∀ sz hm r, c_tn B ln false sz hm r c = c_tk B ln sz c := fun sz hm r => by unfold c_tn; rw [if_neg (fnt _)]
  have os : c_os B ln false n1 na c = c_tk B ln 1 c := by unfold c_os; rw [if_neg (fnt _)]
  unfold c_fo
  rw [tn, tn, tn, tn, os]
  match s, hs with
  | 0, _ => rfl
  | 1, _ => rfl
  | 2, _ => rfl
  | 3, _ => rfl
  | 4, _ => rfl
  | 5, _ => rfl
  | 6, _ => rfl
  | 7, _ => rfl
  | 8, _ => rfl
  | 9, _ => rfl
  | 10, _ => rfl
theorem c_so_false {B : Nat → Nat} {ln : Nat} {hm : Int32} {c : c_Cu} (s : Nat) : c_so B ln false hm s c = if s = 7 then c_tw B ln 1 0 64 c else c_tk B ln (c_ss s) c := by
  have tn : c_tn B ln false 1 hm 9 c = c_tk B ln 1 c := by unfold c_tn; rw [if_neg (fnt _)]
  unfold c_so
  rw [tn]
  by_cases h4 : s = 4
  · subst h4; rfl
  · rw [if_neg h4]
def y_in (B : Nat → Nat) (ln : Nat) (c : c_Cu) : c_Cu := if c_ofN (c_to B ln c).1 = 7 then (c_tw B ln 1 0 64 (c_tk B ln (c_fs (c_ofN (c_to B ln c).1)) (c_to B ln c).2).2).2 else (c_tk B ln (c_ss (c_ofN (c_to B ln c).1)) (c_tk B ln (c_fs (c_ofN (c_to B ln c).1)) (c_to B ln c).2).2).2
theorem y_ri1_cu {B : Nat → Nat} {ln lc ni s : Nat} (S : c_S) : (c_ri1 B ln false lc ni s S).1 = y_in B ln S.1 := by
  have h11 : c_ofN (c_to B ln S.1).1 < 11 := (o_facts _ c_to_le).2.2.2.2.2.2.2.2
  unfold c_ri1; dsimp only
  rw [c_fo_false _ h11, c_so_false]
  unfold y_in
  split <;> rfl
def z_in (B : Nat → Nat) (ln : Nat) (c : c_Cu) : c_Cu := if (m_ov ln 1 c).2.1 = 0 then m_ic B ln c else m_ov ln 1 c
theorem z_oi_cu {B : Nat → Nat} {ln : Nat} (Z : m_S) : (m_oi B ln Z).1 = z_in B ln Z.1 := by
  unfold m_oi z_in; split <;> rfl
theorem y_to_bad {B : Nat → Nat} {ln : Nat} {c : c_Cu} (h : ¬ c.2.1 = 0) : c_to B ln c = (0, c) := by
  unfold c_to; rw [c_tk_bad h]; dsimp only; rw [if_neg (by decide)]
theorem y_in_bad {B : Nat → Nat} {ln : Nat} {c : c_Cu} (h : ¬ (c_to B ln c).2.2.1 = 0) : y_in B ln c = (c_to B ln c).2 := by
  unfold y_in
  rw [c_tk_bad h]; dsimp only
  rw [c_tw_bad h, c_tk_bad h]; split <;> rfl
theorem v_G_i {B : Nat → Nat} {ln : Nat} (hB : v_B B ln) : v_G ln (y_in B ln) (z_in B ln) (v_I B ln) (fun p => p + 1 + m_ob (B p)) := by
  refine ⟨fun p w hp hV => ?_, fun p w w' hp hV => ?_⟩
  · obtain ⟨v1, v2, v3, v4⟩ := hV
    obtain ⟨f0, f8, f2, f4, f3, f5, f7, f6, f11⟩ := o_facts (B p) (by omega)
    refine ⟨?_, ?_, v3⟩
    · unfold y_in
      rw [y_to v1 v2]; dsimp only
      by_cases h7 : c_ofN (B p) = 7
      · have e52 := f7.mp h7
        have e2 : m_ob (B p) = 2 := by rw [e52]; decide
        rw [if_pos h7, h7, y_tk (show p + 1 + c_fs 7 ≤ ln by show p + 1 + 1 ≤ ln; omega)]; dsimp only
        show (c_tw B ln 1 0 64 (p + 2, 0, w)).2 = _
        rw [y_tw_ok (by omega) (Nat.zero_le _) (v4 e52), e2]
      · rw [if_neg h7, y_tk (by omega)]; dsimp only
        rw [y_tk (by omega)]
        show (p + 1 + c_fs (c_ofN (B p)) + c_ss (c_ofN (B p)), 0, w) = _
        rw [Nat.add_assoc (p + 1), f0]
    · unfold z_in m_ic
      rw [z_ov (show p + 1 ≤ ln from v1), if_pos rfl]; dsimp only
      rw [if_neg (by omega)]
      by_cases e52 : B p = 52
      · have e2 : m_ob (B p) = 2 := by rw [e52]; decide
        rw [if_pos e52, z_ov (show p + 1 + 1 ≤ ln by omega), if_pos rfl, (z_c1_ok (show p + 1 + 1 < ln by omega) (Nat.zero_le _) (v4 e52)).1, e2]
      · rw [if_neg e52, z_ov v3]
  · by_cases q1 : p < ln
    · by_cases q2 : B p ≤ 59
      · obtain ⟨f0, f8, f2, f4, f3, f5, f7, f6, f11⟩ := o_facts (B p) (by omega)
        have ez : z_in B ln (p, 0, w') = if B p = 52 then (if (m_ov ln 1 (p + 1, 0, w')).2.1 = 0 then m_c1 B ln 0 64 (m_ov ln 1 (p + 1, 0, w')) else m_ov ln 1 (p + 1, 0, w')) else m_ov ln (m_ob (B p)) (p + 1, 0, w') := by
          unfold z_in m_ic
          rw [z_ov (show p + 1 ≤ ln from q1), if_pos rfl]; dsimp only
          rw [if_neg (by omega)]
        rw [ez]
        by_cases e52 : B p = 52
        · have h7 : c_ofN (B p) = 7 := f7.mpr e52
          have e2 : m_ob (B p) = 2 := by rw [e52]; decide
          have ey : y_in B ln (p, 0, w) = (c_tw B ln 1 0 64 (c_tk B ln 1 (p + 1, 0, w)).2).2 := by
            unfold y_in
            rw [y_to q1 q2]; dsimp only
            rw [if_pos h7, h7]; rfl
          rw [ey, if_pos e52]
          by_cases q3 : p + 1 < ln
          · rw [y_tk1 q3, z_ov (show p + 1 + 1 ≤ ln from q3), if_pos rfl]; dsimp only
            obtain ⟨x, h1, h2, h3, h4⟩ := y_tw_no (B := B) (ln := ln) (lo := 0) (hi := 64) (p := p + 1 + 1) (w := w) (w' := w') (fun z => hV ⟨q1, q2, by rw [e2]; exact z.1, fun _ => z.2.2⟩)
            rw [h2, h3]
            exact ⟨⟨rfl, fun _ => rfl, fun _ => rfl⟩, h1⟩
          · rw [y_tk1' q3, z_ov' q3, if_neg n2z, c_tw_bad (show ¬ (p + 1, 2, ln).2.1 = 0 from n2z)]
            exact ⟨⟨rfl, fun _ => rfl, fun _ => rfl⟩, n2z⟩
        · have h7 : ¬ c_ofN (B p) = 7 := fun z => e52 (f7.mp z)
          have q3 : ¬ p + 1 + m_ob (B p) ≤ ln := fun z => hV ⟨q1, q2, z, fun y => absurd y e52⟩
          rw [if_neg e52, z_ov' q3]
          have ey : (y_in B ln (p, 0, w)).2 = (2, ln) := by
            unfold y_in
            rw [y_to q1 q2]; dsimp only
            rw [if_neg h7]
            by_cases q4 : p + 1 + c_fs (c_ofN (B p)) ≤ ln
            · rw [y_tk q4]; dsimp only
              rw [y_tk' (by omega)]
            · rw [y_tk' q4, c_tk_bad (show ¬ (p + 1, 2, ln).2.1 = 0 from n2z)]
          rw [v_si, ey]
          exact ⟨⟨rfl, fun z => absurd z n2z, fun _ => rfl⟩, n2z⟩
      · have et : c_to B ln (p, 0, w) = (0, (p + 1, 5, p)) := by
          unfold c_to; rw [y_tk1 q1]; dsimp only; rw [if_pos (by omega)]; rfl
        have n5z : ¬ (5 : Nat) = 0 := by decide
        rw [y_in_bad (by rw [et]; exact n5z), et]
        have ez : z_in B ln (p, 0, w') = (p + 1, 5, p) := by
          unfold z_in m_ic
          rw [z_ov (show p + 1 ≤ ln from q1), if_pos rfl]; dsimp only
          rw [if_pos (by omega)]; rfl
        rw [ez]
        exact ⟨⟨rfl, fun _ => rfl, fun _ => rfl⟩, n5z⟩
    · have et : c_to B ln (p, 0, w) = (0, (p, 2, ln)) := by
        unfold c_to; rw [y_tk1' q1]; dsimp only; rw [if_neg (by decide)]
      rw [y_in_bad (by rw [et]; exact n2z), et]
      have ez : z_in B ln (p, 0, w') = (p, 2, ln) := by
        unfold z_in
        rw [z_ov' q1, if_neg n2z]
      rw [ez]
      exact ⟨⟨rfl, fun _ => rfl, fun _ => rfl⟩, n2z⟩
/-- where the instructions stand -/
def v_ip (B : Nat → Nat) (q : Nat) : Nat → Nat
  | 0 => q
  | i + 1 => v_ip B q i + 1 + m_ob (B (v_ip B q i))
/-- a function's code, whose count stands at a; n6 instructions before -/
def v_C (B : Nat → Nat) (ln n6 a : Nat) : Prop := (a + 2 ≤ ln ∧ 1 ≤ m_fn B a ∧ m_fn B a ≤ 1024 ∧ n6 + m_fn B a ≤ 8192) ∧ ∀ i, i < m_fn B a → v_I B ln (v_ip B (a + 2) i)
def f_C (B : Nat → Nat) (a fi f : Nat) (I : Nat → Nat → Int32) (L : Nat → Nat → Int64) : Prop := I 16 (f * 7 + 4) = nI (m_fn B a) ∧ I 19 f = nI fi ∧ ∀ i, i < m_fn B a → I 20 (fi + i) = nI (B (v_ip B (a + 2) i)) ∧ L 21 (fi + i) = lN (v_o1 B (v_ip B (a + 2) i)) ∧ L 22 (fi + i) = lN (v_o2 B (v_ip B (a + 2) i))
theorem c_lp_shift (f : Nat → c_S → c_S) (o : Nat) : ∀ (n k : Nat) (S : c_S), c_lp f n (o + k) S = c_lp (fun i => f (o + i)) n k S
  | 0, _, _ => rfl
  | n + 1, k, S => by
    unfold c_lp; split
    · exact c_lp_shift f o n (k + 1) _
    · rfl
theorem m_cl_shift (f : Nat → c_Cu → c_Cu) (o : Nat) : ∀ (n k : Nat) (c : c_Cu), m_cl f n (o + k) c = m_cl (fun i => f (o + i)) n k c
  | 0, _, _ => rfl
  | n + 1, k, c => by
    unfold m_cl; split
    · exact m_cl_shift f o n (k + 1) _
    · rfl
theorem m_cl_cong {f g : Nat → c_Cu → c_Cu} : ∀ (n k : Nat) (c : c_Cu), (∀ i, k ≤ i → i < k + n → f i = g i) → m_cl f n k c = m_cl g n k c
  | 0, _, _, _ => rfl
  | n + 1, k, c, h => by
    unfold m_cl; split
    · rw [h k (Nat.le_refl _) (by omega)]
      exact m_cl_cong n (k + 1) _ (fun i h1 h2 => h i (by omega) (by omega))
    · rfl
theorem y_tw2_ok {B : Nat → Nat} {ln lo hi p w : Nat} (h : p + 2 ≤ ln) (h1 : lo ≤ m_fn B p) (h2 : m_fn B p ≤ hi) : c_tw B ln 2 lo hi (p, 0, w) = (m_fn B p, (p + 2, 0, w)) := by
  unfold c_tw; rw [y_tk h, c_num_2]; dsimp only; rw [if_neg (by omega)]
theorem c_mi_iff {n v : Nat} (hn : n ≤ 8192) : v ≤ c_mi n ↔ (v ≤ 1024 ∧ n + v ≤ 8192) := by
  unfold c_mi; split <;> omega
/-- the tables while a function's code is read -/
def iv_C (B : Nat → Nat) (a fi : Nat) (I0 : Nat → Nat → Int32) (L0 : Nat → Nat → Int64) (k : Nat) (S : c_S) : Prop := (∀ h x, ¬ (h = 20 ∧ fi ≤ x) → S.2.1 h x = I0 h x) ∧ (∀ h x, ¬ ((h = 21 ∨ h = 22) ∧ fi ≤ x) → S.2.2 h x = L0 h x) ∧ (∀ x, x < fi → S.2.1 20 x = I0 20 x) ∧ ∀ i, i < k → S.2.1 20 (fi + i) = nI (B (v_ip B (a + 2) i)) ∧ S.2.2 21 (fi + i) = lN (v_o1 B (v_ip B (a + 2) i)) ∧ S.2.2 22 (fi + i) = lN (v_o2 B (v_ip B (a + 2) i))
theorem y_rc_ok {B : Nat → Nat} {ln : Nat} (hB : v_B B ln) (lu : Bool) {N SA : Nat → Nat} {a w f n6 lc : Nat} (hv : v_C B ln n6 a) (bN : N 9 ≤ 32 ∧ N 10 ≤ 32 ∧ N 13 + N 11 < 2 ^ 31 ∧ N 12 < 2 ^ 31) (I : Nat → Nat → Int32) (L : Nat → Nat → Int64) (h6 : c_N I 6 = n6) (elc : c_lc I f = lc) (hlc : lc < 2 ^ 31) (hT : lu = true → v_tb B N SA I) (hb : c_N I 5 + c_N I 3 < 2 ^ 31 ∧ c_N I 4 < 2 ^ 31) (d : c_Cu) (hd : d.2.1 = 0) :
    v_R (c_rc B ln lu f ((a, 0, w), I, L)).1 (v_ip B (a + 2) (m_fn B a)) w (v_lk lu (m_cl (fun i => m_ins B N SA lc (m_fn B a) (v_ip B (a + 2) i)) (m_fn B a) 0) d) ∧ ((c_rc B ln lu f ((a, 0, w), I, L)).1.2.1 = 0 → (∀ h x, ¬ (h = 16 ∧ x = f * 7 + 4) → ¬ (h = 19 ∧ x = f) → ¬ (h = 13 ∧ x = 6) → ¬ (h = 20 ∧ n6 ≤ x) → (c_rc B ln lu f ((a, 0, w), I, L)).2.1 h x = I h x) ∧ (c_rc B ln lu f ((a, 0, w), I, L)).2.1 13 6 = nI (n6 + m_fn B a) ∧ (∀ h x, ¬ ((h = 21 ∨ h = 22) ∧ n6 ≤ x) → (c_rc B ln lu f ((a, 0, w), I, L)).2.2 h x = L h x) ∧ f_C B a n6 f (c_rc B ln lu f ((a, 0, w), I, L)).2.1 (c_rc B ln lu f ((a, 0, w), I, L)).2.2) := by
  obtain ⟨⟨v1, v2, v3, v4⟩, v5⟩ := hv
  have etw : c_tw B ln 2 1 (c_mi n6) (a, 0, w) = (m_fn B a, (a + 2, 0, w)) := y_tw2_ok v1 v2 ((c_mi_iff (by omega)).mpr ⟨v3, v4⟩)
  have e0 : c_rc0 B ln f ((a, 0, w), I, L) = ((a + 2, 0, w), ct_u2 (ct_u2 (ct_u2 I 16 (f * 7 + 4) (nI (m_fn B a))) 19 f (nI n6)) 13 6 (nI (n6 + m_fn B a)), L) := by
    unfold c_rc0; dsimp only; rw [h6, etw]
  generalize hI0 : ct_u2 (ct_u2 (ct_u2 I 16 (f * 7 + 4) (nI (m_fn B a))) 19 f (nI n6)) 13 6 (nI (n6 + m_fn B a)) = I0 at e0
  have I13 : ∀ k, k < 6 → I0 13 k = I 13 k := fun k hk => by rw [← hI0, ct_u2_get, if_neg (by omega), ct_u2_get, if_neg (by omega), ct_u2_get, if_neg (by omega)]
  have I14 : I0 14 = I 14 := by funext x; rw [← hI0, ct_u2_get, if_neg (by omega), ct_u2_get, if_neg (by omega), ct_u2_get, if_neg (by omega)]
  have e : c_rc B ln lu f ((a, 0, w), I, L) = c_lp (fun i => c_ri1 B ln lu lc (m_fn B a) (n6 + i)) (m_fn B a) 0 ((v_ip B (a + 2) 0, 0, w), I0, L) := by
    unfold c_rc; dsimp only; rw [h6, etw, elc, e0]
    exact c_lp_shift (c_ri1 B ln lu lc (m_fn B a)) n6 (m_fn B a) 0 _
  have key := lp_ok lu (f := fun i => c_ri1 B ln lu lc (m_fn B a) (n6 + i)) (pos := v_ip B (a + 2)) (look := fun i => m_ins B N SA lc (m_fn B a) (v_ip B (a + 2) i)) (Inv := iv_C B a n6 I0 L) (w := w) (N := m_fn B a) (fun k hk I' L' d' hI hd' => by
    obtain ⟨i1, i2, i3, i4⟩ := hI
    dsimp only at i1 i2 i3 i4
    have j13 : ∀ k, k < 6 → I' 13 k = I 13 k := fun k hk => by rw [i1 13 k (by omega), I13 k hk]
    have j14 : I' 14 = I 14 := by rw [← I14]; funext x; exact i1 14 x (by omega)
    have jN : ∀ k, k < 6 → c_N I' k = c_N I k := fun k hk => by unfold c_N; rw [j13 k hk]
    obtain ⟨r1, r2⟩ := y_ri1_ok hB lu (N := N) (SA := SA) (w := w) (s := n6 + k) (v5 k hk) hlc (show m_fn B a < 2 ^ 31 by omega) bN I' L' (fun q => (hT q).at j13 j14) (by rw [jN 5 (by decide), jN 3 (by decide), jN 4 (by decide)]; exact hb) d' hd'
    refine ⟨r1, fun q => ?_⟩
    obtain ⟨r3, r4⟩ := r2 q
    refine ⟨fun h x hx => ?_, fun h x hx => ?_, fun x hx => ?_, fun i hi => ?_⟩
    · rw [← i1 h x hx, r3, ct_u2_get, if_neg (by omega)]
    · rw [← i2 h x hx, r4, ct_u2_get, if_neg (by omega), ct_u2_get, if_neg (by omega)]
    · rw [← i3 x hx, r3, ct_u2_get, if_neg (by omega)]
    · rw [r3, r4]
      by_cases y : i = k
      · rw [y]
        refine ⟨?_, ?_, ?_⟩ <;> simp [ct_u2_get]
      · obtain ⟨g1, g2, g3⟩ := i4 i (by omega)
        refine ⟨?_, ?_, ?_⟩
        · rw [ct_u2_get, if_neg (by omega)]; exact g1
        · rw [ct_u2_get, if_neg (by omega), ct_u2_get, if_neg (by omega)]; exact g2
        · rw [ct_u2_get, if_neg (by omega), ct_u2_get, if_neg (by omega)]; exact g3) (m_fn B a) 0 (Nat.zero_add _) I0 L d ⟨fun _ _ _ => rfl, fun _ _ _ => rfl, fun _ _ => rfl, fun i hi => absurd hi (Nat.not_lt_zero _)⟩ hd
  rw [e]
  refine ⟨key.1, fun q => ?_⟩
  obtain ⟨k1, k2, k3, k4⟩ := key.2 q
  refine ⟨fun h x q1 q2 q3 q4 => ?_, ?_, fun h x hx => k2 h x hx, ?_, ?_, k4⟩
  · rw [k1 h x (by omega), ← hI0, ct_u2_get, if_neg (by omega), ct_u2_get, if_neg (by omega), ct_u2_get, if_neg (by omega)]
  · rw [k1 13 6 (by omega), ← hI0, ct_u2_get, if_pos ⟨rfl, rfl⟩]
  · rw [k1 16 (f * 7 + 4) (by omega), ← hI0, ct_u2_get, if_neg (by omega), ct_u2_get, if_neg (by omega), ct_u2_get, if_pos ⟨rfl, rfl⟩]
  · rw [k1 19 f (by omega), ← hI0, ct_u2_get, if_neg (by omega), ct_u2_get, if_pos ⟨rfl, rfl⟩]
