/-! PURE: the reference over the functions; bad functions -/
theorem v_G_nf {B : Nat → Nat} {ln : Nat} (hB : v_B B ln) : v_G ln (fun c => y_ls B ln 0 true 0 32 (y_ls B ln 0 true 0 8 (y_ls B ln 0 true 0 8 (c_tw B ln 1 0 7 c).2))) (fun c => m_gl B ln 32 (m_gl B ln 8 (m_gl B ln 8 (m_gc B ln 0 7 c)))) (v_Nf B ln) (v_fa B ln) :=
  v_G.comp (v_G.comp (v_G.comp (V := fun p => p < ln ∧ 0 ≤ B p ∧ B p ≤ 7) (e := fun p => p + 1) v_G_tw (v_G_ls hB 0 8) v_D_ls) (v_G_ls hB 0 8) v_D_ls) (v_G_ls hB 0 32) v_D_ls
theorem z_f0_cu {B : Nat → Nat} {ln f q w : Nat} (J : Nat → Nat → Int32) : (m_f0 B ln f ((q, 0, w), J)).1 = m_gl B ln 32 (m_gl B ln 8 (m_gl B ln 8 (m_gc B ln 0 7 (q, 0, w)))) := by
  unfold m_f0 m_oL m_gc; rw [if_pos rfl]
theorem y_rn2_cu {B : Nat → Nat} {ln f : Nat} (S : c_S) : (c_rn2 B ln false f (c_rn0 B ln false f S)).1 = y_ls B ln 0 true 0 32 (y_ls B ln 0 true 0 8 (y_ls B ln 0 true 0 8 (c_tw B ln 1 0 7 S.1).2)) := by
  unfold c_rn2; dsimp only
  rw [y_ls_eq, y_ls_na _ 0]
  unfold c_rn0
  rw [y_rg1_cu]
/-- the rows of the reference while it goes over a function's instructions -/
def iw_I (B : Nat → Nat) (a fi : Nat) (J0 : Nat → Nat → Int32) (k : Nat) (Z : m_S) : Prop := (Z.2 29 14 = nI (fi + k)) ∧ (∀ h x, ¬ (h = 37 ∧ fi ≤ x) → ¬ (h = 29 ∧ x = 14) → Z.2 h x = J0 h x) ∧ ∀ i, i < k → Z.2 37 (fi + i) = nI (v_ip B (a + 2) i)
theorem z_f2_ok {B : Nat → Nat} {ln : Nat} (hB : v_B B ln) {a fi w : Nat} (hv : v_C B ln fi a) (J : Nat → Nat → Int32) (hJ : J 29 14 = nI fi) :
    (m_f2 B ln ((a, 0, w), J)).1 = (v_ip B (a + 2) (m_fn B a), 0, w) ∧ iw_I B a fi J (m_fn B a) (m_f2 B ln ((a, 0, w), J)) := by
  obtain ⟨⟨v1, v2, v3, v4⟩, v5⟩ := hv
  have hal : m_al J = fi := by unfold m_al; rw [hJ]; exact nI_clamp (by omega)
  have e : m_f2 B ln ((a, 0, w), J) = m_lp (fun _ => m_oi B ln) (m_fn B a) 0 ((v_ip B (a + 2) 0, 0, w), J) := by
    unfold m_f2 m_fc; dsimp only; rw [hal, if_neg (by omega), z_ov v1]; rfl
  rw [e]
  refine m_lp_ok (F := fun _ => m_oi B ln) (pos := v_ip B (a + 2)) (Inv := iw_I B a fi J) (fun k hk J' hI => ?_) (m_fn B a) 0 (Nat.zero_add _) J ⟨by show J 29 14 = _; rw [hJ, Nat.add_zero], fun _ _ _ _ => rfl, fun i hi => absurd hi (Nat.not_lt_zero _)⟩
  obtain ⟨i1, i2, i3⟩ := hI
  dsimp only at i1 i2 i3
  have hal' : m_al J' = fi + k := by unfold m_al; rw [i1]; exact nI_clamp (by omega)
  have g := ((v_G_i hB).1 (v_ip B (a + 2) k) w (Nat.le_of_lt (v5 k hk).1) (v5 k hk)).2.1
  have e2 : m_oi B ln ((v_ip B (a + 2) k, 0, w), J') = (m_ic B ln (v_ip B (a + 2) k, 0, w), ct_u2 (ct_u2 J' 37 (fi + k) (nI (v_ip B (a + 2) k))) 29 14 (nI (fi + k + 1))) := by
    unfold m_oi; dsimp only; rw [z_ov (show v_ip B (a + 2) k + 1 ≤ ln from (v5 k hk).1), if_pos rfl, hal']
  have e3 := z_oi_cu (B := B) (ln := ln) ((v_ip B (a + 2) k, 0, w), J')
  refine ⟨e3.trans g, ?_, fun h x y1 y2 => ?_, fun i hi => ?_⟩
  · rw [e2]; rfl
  · rw [e2, ← i2 h x y1 y2]
    dsimp only
    rw [ct_u2_get, if_neg (by omega), ct_u2_get, if_neg (by omega)]
  · rw [e2]
    dsimp only
    rw [ct_u2_get, if_neg (by omega)]
    by_cases y : i = k
    · rw [y, ct_u2_get, if_pos ⟨rfl, rfl⟩]
    · rw [ct_u2_get, if_neg (by omega)]; exact i3 i (by omega)
def iw_N (B : Nat → Nat) (ln p : Nat) (J0 : Nat → Nat → Int32) (k : Nat) (Z : m_S) : Prop := (Z.2 29 14 = nI (v_FI B ln p k) ∧ v_FI B ln p k ≤ 8192) ∧ (∀ h x, ¬ h = 35 → ¬ h = 36 → ¬ h = 37 → ¬ (h = 29 ∧ x = 14) → Z.2 h x = J0 h x) ∧ ∀ j, j < k → Z.2 35 j = nI (v_pN B ln p j) ∧ Z.2 36 j = nI (v_FI B ln p j) ∧ Z.2 36 (j + 1) = nI (v_FI B ln p (j + 1)) ∧ ∀ i, i < v_ct B ln (v_pN B ln p j) → Z.2 37 (v_FI B ln p j + i) = nI (v_ip B (v_fa B ln (v_pN B ln p j) + 2) i)
theorem z_of_ok {B : Nat → Nat} {ln : Nat} (hB : v_B B ln) {p w k : Nat} {J0 : Nat → Nat → Int32} (hv : v_N B ln (v_FI B ln p k) (v_pN B ln p k)) (J : Nat → Nat → Int32) (hI : iw_N B ln p J0 k ((v_pN B ln p k, 0, w), J)) :
    (m_of B ln k ((v_pN B ln p k, 0, w), J)).1 = (v_pN B ln p (k + 1), 0, w) ∧ iw_N B ln p J0 (k + 1) (m_of B ln k ((v_pN B ln p k, 0, w), J)) := by
  obtain ⟨⟨i0, i0'⟩, i1, i2⟩ := hI
  dsimp only at i0 i1 i2
  have hle : v_FI B ln p (k + 1) ≤ 8192 := by rw [v_FI]; have := hv.2.1.2.2.2; unfold v_ct; exact this
  have hal : m_al J = v_FI B ln p k := by unfold m_al; rw [i0]; exact nI_clamp (by omega)
  have g := ((v_G_nf hB).1 (v_pN B ln p k) w (Nat.le_of_lt hv.1.1.1.1.1) hv.1).2.1
  generalize hq : v_pN B ln p k = q at hv i2 g ⊢
  generalize hfi : v_FI B ln p k = fi at hv i0 i0' hal i2 ⊢
  have e0 : m_f0 B ln k ((q, 0, w), J) = ((v_fa B ln q, 0, w), ct_u2 (ct_u2 J 35 k (nI q)) 36 k (nI fi)) := by
    have := z_f0_cu (B := B) (ln := ln) (f := k) (q := q) (w := w) J
    refine Prod.ext (this.trans g) ?_
    show ct_u2 (ct_u2 J 35 k (nI q)) 36 k (nI (m_al J)) = _
    rw [hal]
  generalize hJ1 : ct_u2 (ct_u2 J 35 k (nI q)) 36 k (nI fi) = J1 at e0
  have hJ14 : J1 29 14 = nI fi := by rw [← hJ1, ct_u2_get, if_neg (by omega), ct_u2_get, if_neg (by omega)]; exact i0
  obtain ⟨a1, a2, a3, a4⟩ := z_f2_ok hB (w := w) hv.2 J1 hJ14
  have ect : m_fn B (v_fa B ln q) = v_ct B ln q := rfl
  rw [ect] at a1 a2 a4
  have e1 : m_of B ln k ((q, 0, w), J) = ((m_f2 B ln ((v_fa B ln q, 0, w), J1)).1, ct_u2 (m_f2 B ln ((v_fa B ln q, 0, w), J1)).2 36 (k + 1) (nI (m_al (m_f2 B ln ((v_fa B ln q, 0, w), J1)).2))) := by
    unfold m_of; rw [e0]
    unfold m_f1
    rw [if_pos (show ((v_fa B ln q, 0, w), J1).1.2.1 = 0 from rfl), z_ov (show v_fa B ln q + 2 ≤ ln from hv.2.1.1), if_pos (show (v_fa B ln q + 2, 0, w).2.1 = 0 from rfl)]
  rw [e1]
  generalize m_f2 B ln ((v_fa B ln q, 0, w), J1) = Z at a1 a2 a3 a4 ⊢
  have hFk : v_FI B ln p (k + 1) = fi + v_ct B ln q := by rw [v_FI, hfi, hq]
  have hal2 : m_al Z.2 = fi + v_ct B ln q := by unfold m_al; rw [a2]; exact nI_clamp (by omega)
  have hpk : v_pN B ln p (k + 1) = v_ip B (v_fa B ln q + 2) (v_ct B ln q) := by rw [v_pN, hq]
  refine ⟨by rw [hpk]; exact a1, ⟨?_, hle⟩, fun h x y1 y2 y3 y4 => ?_, fun j hj => ?_⟩
  · dsimp only
    rw [ct_u2_get, if_neg (by omega), a2, hFk]
  · dsimp only
    rw [ct_u2_get, if_neg (by omega), a3 h x (by omega) y4, ← hJ1, ct_u2_get, if_neg (by omega), ct_u2_get, if_neg (by omega)]
    exact i1 h x y1 y2 y3 y4
  · dsimp only
    by_cases y : j = k
    · subst y
      rw [hq, hFk, hfi]
      refine ⟨?_, ?_, ?_, fun i hi => ?_⟩
      · rw [ct_u2_get, if_neg (by omega), a3 35 j (by omega) (by omega), ← hJ1, ct_u2_get, if_neg (by omega), ct_u2_get, if_pos ⟨rfl, rfl⟩]
      · rw [ct_u2_get, if_neg (by omega), a3 36 j (by omega) (by omega), ← hJ1, ct_u2_get, if_pos ⟨rfl, rfl⟩]
      · rw [ct_u2_get, if_pos ⟨rfl, rfl⟩, hal2]
      · rw [ct_u2_get, if_neg (by omega)]; exact a4 i hi
    · have hj' : j < k := by omega
      obtain ⟨g1, g2, g3, g4⟩ := i2 j hj'
      have hle2 : v_FI B ln p j + v_ct B ln (v_pN B ln p j) ≤ v_FI B ln p k := v_FI_le B ln p (show j + 1 ≤ k by omega)
      refine ⟨?_, ?_, ?_, fun i hi => ?_⟩
      · rw [ct_u2_get, if_neg (by omega), a3 35 j (by omega) (by omega), ← hJ1, ct_u2_get, if_neg (by omega), ct_u2_get, if_neg (by omega)]; exact g1
      · rw [ct_u2_get, if_neg (by omega), a3 36 j (by omega) (by omega), ← hJ1, ct_u2_get, if_neg (by omega), ct_u2_get, if_neg (by omega)]; exact g2
      · rw [ct_u2_get, if_neg (by omega), a3 36 (j + 1) (by omega) (by omega), ← hJ1]
        by_cases u : j + 1 = k
        · rw [ct_u2_get, if_pos ⟨rfl, u⟩, u, hfi]
        · rw [ct_u2_get, if_neg (by omega), ct_u2_get, if_neg (by omega)]; exact g3
      · rw [ct_u2_get, if_neg (by omega), a3 37 _ (by omega) (by omega), ← hJ1, ct_u2_get, if_neg (by omega), ct_u2_get, if_neg (by omega)]; exact g4 i hi
theorem z_pN_ok {B : Nat → Nat} {ln : Nat} (hB : v_B B ln) {p w : Nat} (hv : v_Ns B ln p) (J : Nat → Nat → Int32) (h14 : J 29 14 = nI 0) :
    (m_pN B ln ((p, 0, w), J)).1 = (v_pN B ln (p + 1) (B p), 0, w) ∧ iw_N B ln (p + 1) (ct_u2 J 29 13 (nI (B p))) (B p) (m_pN B ln ((p, 0, w), J)) := by
  obtain ⟨h1, h2, h3⟩ := hv
  have e : m_pN B ln ((p, 0, w), J) = m_lp (m_of B ln) (B p) 0 ((v_pN B ln (p + 1) 0, 0, w), ct_u2 J 29 13 (nI (B p))) := by
    unfold m_pN m_gv m_gc; dsimp only; rw [if_pos rfl, if_pos rfl, (z_c1_ok h1 (Nat.zero_le _) h2).1, (z_c1_ok h1 (Nat.zero_le _) h2).2]; rfl
  rw [e]
  exact m_lp_ok (pos := v_pN B ln (p + 1)) (Inv := iw_N B ln (p + 1) (ct_u2 J 29 13 (nI (B p)))) (fun k hk J' hI => z_of_ok hB (h3 k hk) J' hI) (B p) 0 (Nat.zero_add _) _ ⟨⟨h14, Nat.zero_le _⟩, fun _ _ _ _ _ _ => rfl, fun j hj => absurd hj (Nat.not_lt_zero _)⟩
theorem y_tw2_no {B : Nat → Nat} {ln hi p w : Nat} (h : ¬ (p + 2 ≤ ln ∧ 1 ≤ m_fn B p ∧ m_fn B p ≤ hi)) : c_tw B ln 2 1 hi (p, 0, w) = (0, if p + 2 ≤ ln then (p + 2, 3, p) else (p, 2, ln)) := by
  unfold c_tw
  by_cases q : p + 2 ≤ ln
  · rw [y_tk q, c_num_2]; dsimp only; rw [if_pos (by omega), if_pos q]; rfl
  · rw [y_tk' q]; dsimp only; rw [if_pos (Or.inl (by decide)), if_neg q, c_fl_bad (show ¬ (p, 2, ln).2.1 = 0 from n2z)]
theorem n3z : ¬ (3 : Nat) = 0 := by decide
/-- a bad function -/
theorem y_rn1_bad {B : Nat → Nat} {ln : Nat} (hB : v_B B ln) {q w w' f fi : Nat} (hq : q ≤ ln) (hfi : fi ≤ 8192) (hv : ¬ v_N B ln fi q) (I : Nat → Nat → Int32) (L : Nat → Nat → Int64) (J : Nat → Nat → Int32) (h6 : ∀ I', I' 13 6 = I 13 6 → c_N I' 6 = fi) (h14 : J 29 14 = nI fi) :
    v_si (c_rn1 B ln false f ((q, 0, w), I, L)).1 (m_of B ln f ((q, 0, w'), J)).1 ∧ ¬ (c_rn1 B ln false f ((q, 0, w), I, L)).1.2.1 = 0 := by
  have hal : m_al J = fi := by unfold m_al; rw [h14]; exact nI_clamp (by omega)
  have cu := y_rn2_cu (B := B) (ln := ln) (f := f) ((q, 0, w), I, L)
  have zu := z_f0_cu (B := B) (ln := ln) (f := f) (q := q) (w := w') J
  have c13 : (c_rn2 B ln false f (c_rn0 B ln false f ((q, 0, w), I, L))).2.1 13 6 = I 13 6 := by
    unfold c_rn2 c_rn0 c_rg1
    dsimp only
    rw [ct_u2_get, if_neg (by omega), ct_u2_get, if_neg (by omega), ct_u2_get, if_neg (by omega), ct_u2_get, if_neg (by omega), ct_u2_get, if_neg (by omega), ct_u2_get, if_neg (by omega)]
  have c6 := h6 _ c13
  dsimp only at cu zu
  unfold c_rn1 m_of
  have z14 : (m_f0 B ln f ((q, 0, w'), J)).2 29 14 = nI fi := by
    show ct_u2 (ct_u2 J 35 f (nI q)) 36 f (nI (m_al J)) 29 14 = _
    rw [ct_u2_get, if_neg (by omega), ct_u2_get, if_neg (by omega)]; exact h14
  generalize c_rn2 B ln false f (c_rn0 B ln false f ((q, 0, w), I, L)) = S at cu c6 ⊢
  generalize m_f0 B ln f ((q, 0, w'), J) = Z at zu z14 ⊢
  have hal2 : m_al Z.2 = fi := by unfold m_al; rw [z14]; exact nI_clamp (by omega)
  by_cases zf : v_Nf B ln q
  · obtain ⟨g1, -, g3⟩ := (v_G_nf hB).1 q w hq zf
    obtain ⟨-, g2, -⟩ := (v_G_nf hB).1 q w' hq zf
    dsimp only at g1 g2
    have s1 : S.1 = (v_fa B ln q, 0, w) := cu.trans g1
    have s2 : Z.1 = (v_fa B ln q, 0, w') := zu.trans g2
    have hC : ¬ v_C B ln fi (v_fa B ln q) := fun y => hv ⟨zf, y⟩
    generalize v_fa B ln q = a at s1 s2 hC g3
    have eS : S = ((a, 0, w), S.2.1, S.2.2) := by rw [← s1]
    have eZ : Z = ((a, 0, w'), Z.2) := by rw [← s2]
    rw [eS, eZ]
    by_cases zc : a + 2 ≤ ln ∧ 1 ≤ m_fn B a ∧ m_fn B a ≤ c_mi fi
    · have hc2 := (c_mi_iff (by omega)).mp zc.2.2
      have etw : c_tw B ln 2 1 (c_mi fi) (a, 0, w) = (m_fn B a, (a + 2, 0, w)) := y_tw2_ok zc.1 zc.2.1 zc.2.2
      have e1 : c_rc B ln false f ((a, 0, w), S.2.1, S.2.2) = c_lp (fun i => c_ri1 B ln false (c_lc S.2.1 f) (m_fn B a) (fi + i)) (m_fn B a) 0 ((a + 2, 0, w), (c_rc0 B ln f ((a, 0, w), S.2.1, S.2.2)).2.1, S.2.2) := by
        have e0 : c_rc0 B ln f ((a, 0, w), S.2.1, S.2.2) = ((a + 2, 0, w), (c_rc0 B ln f ((a, 0, w), S.2.1, S.2.2)).2.1, S.2.2) := by
          unfold c_rc0; dsimp only; rw [c6, etw]
        rw [← e0]
        unfold c_rc; dsimp only; rw [c6, etw]
        exact c_lp_shift (c_ri1 B ln false (c_lc S.2.1 f) (m_fn B a)) fi (m_fn B a) 0 _
      have e2 : (m_f1 B ln f ((a, 0, w'), Z.2)).1 = (m_lp (fun _ => m_oi B ln) (m_fn B a) 0 ((a + 2, 0, w'), Z.2)).1 := by
        unfold m_f1
        rw [if_pos (show ((a, 0, w'), Z.2).1.2.1 = 0 from rfl), z_ov (show a + 2 ≤ ln from zc.1), if_pos (show (a + 2, 0, w').2.1 = 0 from rfl)]
        unfold m_f2 m_fc; dsimp only; rw [hal2, if_neg (by omega), z_ov zc.1]
      rw [e1, e2]
      refine v_G_lp (v_G_i hB) (f := fun i => c_ri1 B ln false (c_lc S.2.1 f) (m_fn B a) (fi + i)) (F := fun _ => m_oi B ln) (fun _ S => y_ri1_cu S) (fun _ Z => z_oi_cu Z) (pos := v_ip B (a + 2)) (fun k => rfl) (m_fn B a) 0 _ _ _ zc.1 (fun y => hC ⟨⟨zc.1, zc.2.1, hc2.1, hc2.2⟩, fun i hi => ?_⟩)
      have := y i hi
      rwa [Nat.zero_add] at this
    · have etw := y_tw2_no (B := B) (w := w) zc
      have e1 : (c_rc B ln false f ((a, 0, w), S.2.1, S.2.2)).1 = if a + 2 ≤ ln then (a + 2, 3, a) else (a, 2, ln) := by
        unfold c_rc c_rc0; dsimp only; rw [c6, etw]; rfl
      have e2 : (m_f1 B ln f ((a, 0, w'), Z.2)).1 = if a + 2 ≤ ln then (a + 2, 3, a) else (a, 2, ln) := by
        unfold m_f1
        rw [if_pos (show ((a, 0, w'), Z.2).1.2.1 = 0 from rfl)]
        by_cases y : a + 2 ≤ ln
        · rw [z_ov y, if_pos (show (a + 2, 0, w').2.1 = 0 from rfl), if_pos y]
          have ef : m_fc B ln (m_al Z.2) (a, 0, w') = (a + 2, 3, a) := by
            unfold m_fc; rw [hal2, if_pos (by
              have : ¬ (1 ≤ m_fn B a ∧ m_fn B a ≤ c_mi fi) := fun x => zc ⟨y, x⟩
              have h2 := c_mi_iff (v := m_fn B a) hfi
              dsimp only
              by_cases x : m_fn B a ≤ c_mi fi
              · omega
              · have : ¬ (m_fn B a ≤ 1024 ∧ fi + m_fn B a ≤ 8192) := fun u => x (h2.mpr u)
                omega), z_ov y]; rfl
          unfold m_f2
          dsimp only
          rw [ef, m_lp_bad (Z := ((a + 2, 3, a), Z.2)) (show ¬ ((a + 2, 3, a), Z.2).1.2.1 = 0 from n3z)]
        · rw [z_ov' y, if_neg (show ¬ (a, 2, ln).2.1 = 0 from n2z), if_neg y]
      rw [e1, e2]
      by_cases y : a + 2 ≤ ln
      · rw [if_pos y]; exact ⟨⟨rfl, fun _ => rfl, fun _ => rfl⟩, n3z⟩
      · rw [if_neg y]; exact ⟨⟨rfl, fun _ => rfl, fun _ => rfl⟩, n2z⟩
  · obtain ⟨g1, g2⟩ := (v_G_nf hB).2 q w w' hq zf
    dsimp only at g1 g2
    have b1 : ¬ S.1.2.1 = 0 := by rw [cu]; exact g2
    have b2 : v_si S.1 Z.1 := by rw [cu, zu]; exact g1
    have b3 : ¬ Z.1.2.1 = 0 := by rw [← b2.1]; exact b1
    rw [c_rc_bad b1]
    unfold m_f1
    rw [if_neg b3]
    exact ⟨b2, b1⟩
theorem v_ne_le {B : Nat → Nat} {ln n6 q : Nat} (hV : v_N B ln n6 q) : v_ip B (v_fa B ln q + 2) (v_ct B ln q) ≤ ln := by
  have h0 : 1 ≤ v_ct B ln q := hV.2.1.2.1
  have h1 : ∀ i, i < v_ct B ln q → v_I B ln (v_ip B (v_fa B ln q + 2) i) := hV.2.2
  generalize v_ct B ln q = c at h0 h1 ⊢
  match c, h0, h1 with
  | c + 1, _, h1 => exact (h1 c (by omega)).2.2.1
theorem y_rN_st {B : Nat → Nat} {ln : Nat} (hB : v_B B ln) {p w k : Nat} {I0 : Nat → Nat → Int32} {L0 : Nat → Nat → Int64} (hk : k < 64) (hV : v_N B ln (v_FI B ln p k) (v_pN B ln p k)) (hb : c_N I0 5 + c_N I0 3 < 2 ^ 31 ∧ c_N I0 4 < 2 ^ 31) (I' : Nat → Nat → Int32) (L' : Nat → Nat → Int64) (hI : iv_N B ln p I0 L0 k ((v_pN B ln p k, 0, w), I', L')) :
    (c_rn1 B ln false k ((v_pN B ln p k, 0, w), I', L')).1 = (v_pN B ln p (k + 1), 0, w) ∧ iv_N B ln p I0 L0 (k + 1) (c_rn1 B ln false k ((v_pN B ln p k, 0, w), I', L')) := by
  obtain ⟨a1, a2⟩ := y_rn1_ok hB false (N := fun _ => 0) (SA := fun _ => 0) (w := w) hk hV ⟨by decide, by decide, by decide, by decide⟩ (fun q => absurd q (by decide)) hb I' L' (0, 0, 0) hI rfl
  have a3 := a1.2.2 rfl
  exact ⟨a3, a2 (by rw [a3])⟩
theorem y_rN_no {B : Nat → Nat} {ln : Nat} (hB : v_B B ln) {p w w' n5 : Nat} (hp : p ≤ ln) (h64 : n5 ≤ 64) {I0 : Nat → Nat → Int32} {L0 : Nat → Nat → Int64} {J0 : Nat → Nat → Int32} (hb : c_N I0 5 + c_N I0 3 < 2 ^ 31 ∧ c_N I0 4 < 2 ^ 31) (h6 : I0 13 6 = nI 0) (h14 : J0 29 14 = nI 0) (hv : ¬ ∀ f, f < n5 → v_N B ln (v_FI B ln p f) (v_pN B ln p f)) :
    v_si (c_lp (c_rn1 B ln false) n5 0 ((v_pN B ln p 0, 0, w), I0, L0)).1 (m_lp (m_of B ln) n5 0 ((v_pN B ln p 0, 0, w'), J0)).1 ∧ ¬ (c_lp (c_rn1 B ln false) n5 0 ((v_pN B ln p 0, 0, w), I0, L0)).1.2.1 = 0 := by
  have i0 : iv_N B ln p I0 L0 0 ((v_pN B ln p 0, 0, w), I0, L0) := ⟨⟨h6, Nat.zero_le _⟩, fun _ _ _ _ _ _ => rfl, fun _ _ _ _ => rfl, fun j hj => absurd hj (Nat.not_lt_zero _)⟩
  have j0 : iw_N B ln p J0 0 ((v_pN B ln p 0, 0, w'), J0) := ⟨⟨h14, Nat.zero_le _⟩, fun _ _ _ _ _ _ => rfl, fun j hj => absurd hj (Nat.not_lt_zero _)⟩
  have hA : ∀ k, k < n5 → v_N B ln (v_FI B ln p k) (v_pN B ln p k) → ∀ I L, (iv_N B ln p I0 L0 k ((v_pN B ln p k, 0, w), I, L) ∧ v_pN B ln p k ≤ ln) → (c_rn1 B ln false k ((v_pN B ln p k, 0, w), I, L)).1 = (v_pN B ln p (k + 1), 0, w) ∧ (iv_N B ln p I0 L0 (k + 1) (c_rn1 B ln false k ((v_pN B ln p k, 0, w), I, L)) ∧ v_pN B ln p (k + 1) ≤ ln) := by
    intro k hk hV I L hI
    obtain ⟨a1, a2⟩ := y_rN_st hB (by omega) hV hb I L hI.1
    exact ⟨a1, a2, v_ne_le hV⟩
  have hC : ∀ k, k < n5 → ¬ v_N B ln (v_FI B ln p k) (v_pN B ln p k) → (∀ j, j < k → v_N B ln (v_FI B ln p j) (v_pN B ln p j)) → ∀ I L J, (iv_N B ln p I0 L0 k ((v_pN B ln p k, 0, w), I, L) ∧ v_pN B ln p k ≤ ln) → iw_N B ln p J0 k ((v_pN B ln p k, 0, w'), J) → v_si (c_rn1 B ln false k ((v_pN B ln p k, 0, w), I, L)).1 (m_of B ln k ((v_pN B ln p k, 0, w'), J)).1 ∧ ¬ (c_rn1 B ln false k ((v_pN B ln p k, 0, w), I, L)).1.2.1 = 0 := by
    intro k hk hV _ I L J hC hM
    have i0 : I 13 6 = nI (v_FI B ln p k) := hC.1.1.1
    have i0' : v_FI B ln p k ≤ 8192 := hC.1.1.2
    exact y_rn1_bad hB hC.2 i0' hV I L J (fun I2 e => by unfold c_N; rw [e, i0]; exact nI_clamp (by omega)) hM.1.1
  exact lp_bad (InvC := fun k S => iv_N B ln p I0 L0 k S ∧ v_pN B ln p k ≤ ln) (V := fun k => v_N B ln (v_FI B ln p k) (v_pN B ln p k)) (InvM := iw_N B ln p J0) hA (fun k hk hV J' hI => z_of_ok hB hV J' hI) hC n5 0 (Nat.zero_add _) I0 L0 J0 ⟨i0, hp⟩ j0 (fun j hj => absurd hj (Nat.not_lt_zero _)) hv
theorem y_rN_bad {B : Nat → Nat} {ln : Nat} (hB : v_B B ln) {p w w' : Nat} (hv : ¬ v_Ns B ln p) (I : Nat → Nat → Int32) (L : Nat → Nat → Int64) (J : Nat → Nat → Int32) (h14 : J 29 14 = nI 0) (hb : c_N I 3 ≤ 32 ∧ c_N I 4 ≤ 32) :
    v_si (c_rN B ln false ((p, 0, w), I, L)).1 (m_pN B ln ((p, 0, w'), J)).1 ∧ ¬ (c_rN B ln false ((p, 0, w), I, L)).1.2.1 = 0 := by
  have g1 : m_gv B ln 0 64 (p, 0, w') = m_cv B ln 0 64 (p, 0, w') := by unfold m_gv; rw [if_pos rfl]
  have g2 : m_gc B ln 0 64 (p, 0, w') = m_c1 B ln 0 64 (p, 0, w') := by unfold m_gc; rw [if_pos rfl]
  have e2 : m_pN B ln ((p, 0, w'), J) = m_lp (m_of B ln) (m_cv B ln 0 64 (p, 0, w')) 0 (m_c1 B ln 0 64 (p, 0, w'), ct_u2 J 29 13 (nI (m_cv B ln 0 64 (p, 0, w')))) := by unfold m_pN; dsimp only; rw [g1, g2]
  rw [e2]
  by_cases z : p < ln ∧ 0 ≤ B p ∧ B p ≤ 64
  · have e1 : c_rN B ln false ((p, 0, w), I, L) = c_lp (c_rn1 B ln false) (B p) 0 ((v_pN B ln (p + 1) 0, 0, w), v_I5 I (B p), L) := by
      unfold c_rN; dsimp only; rw [y_tw_ok z.1 z.2.1 z.2.2]; rfl
    have eN : ∀ k, k < 5 → c_N (v_I5 I (B p)) k = c_N I k := fun k hk => by
      unfold c_N v_I5; rw [ct_u2_get, if_neg (by omega), ct_u2_get, if_neg (by omega)]
    have eN5 : c_N (v_I5 I (B p)) 5 = B p := by
      unfold c_N v_I5; rw [ct_u2_get, if_neg (by omega), ct_u2_get, if_pos ⟨rfl, rfl⟩]; exact nI_clamp (by omega)
    rw [e1, (z_c1_ok z.1 z.2.1 z.2.2).1, (z_c1_ok z.1 z.2.1 z.2.2).2]
    exact y_rN_no hB (p := p + 1) z.1 z.2.2 (by rw [eN5, eN 3 (by decide), eN 4 (by decide)]; omega) rfl h14 (fun y => hv ⟨z.1, z.2.2, y⟩)
  · obtain ⟨x, h1, h2, h3, h4⟩ := y_tw_no (B := B) (w := w) (w' := w') z
    have e1 : (c_rN B ln false ((p, 0, w), I, L)).1 = x := by unfold c_rN; dsimp only; rw [h2]; rfl
    rw [e1, h3, h4]
    exact ⟨⟨rfl, fun _ => rfl, fun _ => rfl⟩, h1⟩
