/-! PURE: the whole module -/
def v_Mk (B : Nat → Nat) (ln i p : Nat) : Prop := p < ln ∧ B p = c_mkN i
theorem c_mkN_pos (i : Nat) : ¬ 0 = c_mkN i := by unfold c_mkN; split; decide; split; decide; split; decide; decide
theorem v_G_mk {B : Nat → Nat} {ln i : Nat} : v_G ln (c_rm1 B ln i) (m_mk B ln i) (v_Mk B ln i) (fun p => p + 1) := by
  have n1z : ¬ (1 : Nat) = 0 := by decide
  refine ⟨fun p w hp hV => ⟨?_, ?_, hV.1⟩, fun p w w' hp hV => ?_⟩
  · unfold c_rm1; rw [y_tk1 hV.1]; dsimp only; rw [if_pos hV.2]
  · unfold m_mk; rw [if_pos rfl, z_ov (show p + 1 ≤ ln from hV.1), if_neg (fun z => z.2 hV.2)]
  · by_cases q : p < ln
    · have hne : ¬ B p = c_mkN i := fun z => hV ⟨q, z⟩
      have e1 : c_rm1 B ln i (p, 0, w) = (p + 1, 1, p) := by unfold c_rm1; rw [y_tk1 q]; dsimp only; rw [if_neg hne]; rfl
      have e2 : m_mk B ln i (p, 0, w') = (p + 1, 1, p) := by unfold m_mk; rw [if_pos rfl, z_ov (show p + 1 ≤ ln from q), if_pos ⟨rfl, hne⟩]; rfl
      rw [e1, e2]
      exact ⟨⟨rfl, fun _ => rfl, fun _ => rfl⟩, n1z⟩
    · have e1 : c_rm1 B ln i (p, 0, w) = (p, 2, ln) := by unfold c_rm1; rw [y_tk1' q]; dsimp only; rw [if_neg (c_mkN_pos i), c_fl_bad (show ¬ (p, 2, ln).2.1 = 0 from n2z)]
      have e2 : m_mk B ln i (p, 0, w') = (p, 2, ln) := by unfold m_mk; rw [if_pos rfl, z_ov' q, if_neg (fun z => n2z z.1)]
      rw [e1, e2]
      exact ⟨⟨rfl, fun _ => rfl, fun _ => rfl⟩, n2z⟩
theorem v_D_mk {B : Nat → Nat} {ln i : Nat} : v_D (c_rm1 B ln i) (m_mk B ln i) :=
  ⟨fun c hc => by unfold c_rm1; rw [c_tk_bad hc]; dsimp only; rw [if_neg (c_mkN_pos i), c_fl_bad hc], fun c hc => m_mk_bad hc⟩
theorem v_G_n {B : Nat → Nat} {ln : Nat} : v_G ln (fun c => (c_tk B ln 2 c).2) (m_go ln 2) (fun p => p + 2 ≤ ln) (fun p => p + 2) := by
  refine ⟨fun p w hp hV => ⟨?_, ?_, hV⟩, fun p w w' hp hV => ?_⟩
  · show (c_tk B ln 2 (p, 0, w)).2 = _; rw [y_tk hV]
  · unfold m_go; rw [if_pos rfl, z_ov hV]
  · show v_si (c_tk B ln 2 (p, 0, w)).2 _ ∧ ¬ (c_tk B ln 2 (p, 0, w)).2.2.1 = 0
    rw [y_tk' hV]
    unfold m_go; rw [if_pos rfl, z_ov' hV]
    exact ⟨⟨rfl, fun _ => rfl, fun _ => rfl⟩, n2z⟩
theorem v_D_n {B : Nat → Nat} {ln : Nat} : v_D (fun c => (c_tk B ln 2 c).2) (m_go ln 2) :=
  ⟨fun c hc => by show (c_tk B ln 2 c).2 = c; rw [c_tk_bad hc], fun c hc => by unfold m_go; rw [if_neg hc]⟩
def v_hd (B : Nat → Nat) (ln : Nat) : Prop := (((v_Mk B ln 0 0 ∧ v_Mk B ln 1 1) ∧ v_Mk B ln 2 2) ∧ v_Mk B ln 3 3) ∧ 4 + 2 ≤ ln
theorem v_G_hd {B : Nat → Nat} {ln : Nat} : (∀ w, v_hd B ln → (c_tk B ln 2 (c_rM B ln (0, 0, w))).2 = (6, 0, w) ∧ m_go ln 2 (m_mt B ln 4 (0, 0, w)) = (6, 0, w)) ∧ ∀ w w', ¬ v_hd B ln → v_si (c_tk B ln 2 (c_rM B ln (0, 0, w))).2 (m_go ln 2 (m_mt B ln 4 (0, 0, w'))) ∧ ¬ (c_tk B ln 2 (c_rM B ln (0, 0, w))).2.2.1 = 0 := by
  have g := v_G.comp (v_G.comp (v_G.comp (v_G.comp (v_G_mk (B := B) (ln := ln) (i := 0)) (v_G_mk (B := B) (i := 1)) (v_D_mk (ln := ln))) (v_G_mk (B := B) (i := 2)) (v_D_mk (ln := ln))) (v_G_mk (B := B) (i := 3)) (v_D_mk (ln := ln))) (v_G_n (B := B)) (v_D_n (ln := ln))
  refine ⟨fun w h => ?_, fun w w' h => ?_⟩
  · obtain ⟨a1, a2, -⟩ := g.1 0 w (Nat.zero_le _) h
    exact ⟨a1, a2⟩
  · have a := g.2 0 w w' (Nat.zero_le _) (fun y => h y)
    dsimp only at a
    unfold c_rM
    exact a
/-- where the parts begin -/
def v_qF (B : Nat → Nat) (ln : Nat) : Nat := v_pS B ln 7 (B 6)
def v_qC (B : Nat → Nat) (ln : Nat) : Nat := v_qF B ln + 1 + 4 * B (v_qF B ln)
def v_qE (B : Nat → Nat) (ln : Nat) : Nat := v_pC B ln (v_qC B ln + 1) (B (v_qC B ln))
def v_qN (B : Nat → Nat) (ln : Nat) : Nat := m_le B ln (v_qE B ln)
def v_end (B : Nat → Nat) (ln : Nat) : Nat := v_pN B ln (v_qN B ln + 1) (B (v_qN B ln))
def v_Mod (B : Nat → Nat) (ln : Nat) : Prop := v_hd B ln ∧ v_Ss B ln 6 ∧ v_Fs B ln (v_qF B ln) ∧ v_Hs B ln (v_qC B ln) ∧ v_L B ln 0 32 false (v_qE B ln) ∧ v_Ns B ln (v_qN B ln) ∧ v_end B ln = ln
/-- how many of each: 9 own structures, 10 foreign ones, 11 foreign functions, 12 element types, 13 functions -/
def v_n (B : Nat → Nat) (ln k : Nat) : Nat := if k = 9 then B 6 else if k = 10 then B (v_qF B ln) else if k = 11 then B (v_qC B ln) else if k = 12 then B (v_qE B ln) else B (v_qN B ln)
def T_F (B : Nat → Nat) (ln : Nat) (I : Nat → Nat → Int32) (L : Nat → Nat → Int64) : Prop :=
  (I 13 0 = nI (m_fn B 4) ∧ I 13 1 = nI (B 6) ∧ I 13 2 = nI (B (v_qF B ln)) ∧ I 13 3 = nI (B (v_qC B ln)) ∧ I 13 4 = nI (B (v_qE B ln)) ∧ I 13 5 = nI (B (v_qN B ln)) ∧ I 13 6 = nI (v_FI B ln (v_qN B ln + 1) (B (v_qN B ln)))) ∧
  (∀ j, j < B 6 → f_S B ln (v_pS B ln 7 j) j I L) ∧ (∀ j, j < B (v_qF B ln) → f_F B (v_qF B ln + 1 + 4 * j) (B 6 + j) I) ∧ (∀ j, j < B (v_qC B ln) → f_H B ln (v_pC B ln (v_qC B ln + 1) j) (64 + j) I L) ∧ (∀ j, j < B (v_qE B ln) → L 18 j = lN (v_v B ln (m_tn B ln j (v_qE B ln + 1)))) ∧ (∀ f, f < B (v_qN B ln) → f_N B ln (v_pN B ln (v_qN B ln + 1) f) (v_FI B ln (v_qN B ln + 1) f) f I L)
theorem c_rS_bad {B : Nat → Nat} {ln : Nat} {lu : Bool} {S : c_S} (h : ¬ S.1.2.1 = 0) : (c_rS B ln lu S).1 = S.1 := by unfold c_rS; rw [c_tw_bad h]; rfl
theorem c_rF_bad {B : Nat → Nat} {ln : Nat} {S : c_S} (h : ¬ S.1.2.1 = 0) : (c_rF B ln S).1 = S.1 := by unfold c_rF; rw [c_tw_bad h]; rfl
theorem c_rH_bad {B : Nat → Nat} {ln : Nat} {lu : Bool} {S : c_S} (h : ¬ S.1.2.1 = 0) : (c_rH B ln lu S).1 = S.1 := by unfold c_rH; rw [c_tw_bad h]; rfl
theorem c_rE_bad {B : Nat → Nat} {ln : Nat} {lu : Bool} {S : c_S} (h : ¬ S.1.2.1 = 0) : (c_rE B ln lu S).1 = S.1 := by unfold c_rE; dsimp only; rw [c_tys_bad h]
theorem c_rN_bad {B : Nat → Nat} {ln : Nat} {lu : Bool} {S : c_S} (h : ¬ S.1.2.1 = 0) : (c_rN B ln lu S).1 = S.1 := by unfold c_rN; rw [c_tw_bad h]; rfl
theorem c_w6_bad {ln : Nat} {S : c_S} (h : ¬ S.1.2.1 = 0) : (c_w6 ln S).1 = S.1 := by unfold c_w6; split; exact c_fl_bad h; rfl
theorem m_pS_bad {B : Nat → Nat} {ln : Nat} {Z : m_S} (h : ¬ Z.1.2.1 = 0) : (m_pS B ln Z).1 = Z.1 := by unfold m_pS m_gv m_gc; rw [if_neg h, if_neg h]; rfl
theorem m_pF_bad {B : Nat → Nat} {ln : Nat} {Z : m_S} (h : ¬ Z.1.2.1 = 0) : (m_pF B ln Z).1 = Z.1 := by unfold m_pF m_gv m_gc; rw [if_neg h, if_neg h]; rfl
theorem m_pC_bad {B : Nat → Nat} {ln : Nat} {Z : m_S} (h : ¬ Z.1.2.1 = 0) : (m_pC B ln Z).1 = Z.1 := by unfold m_pC m_gv m_gc; rw [if_neg h, if_neg h]; rfl
theorem m_pE_bad {B : Nat → Nat} {ln : Nat} {Z : m_S} (h : ¬ Z.1.2.1 = 0) : (m_pE B ln Z).1 = Z.1 := by unfold m_pE m_gv m_gc; rw [if_neg h, if_neg h]; rfl
theorem m_pN_bad {B : Nat → Nat} {ln : Nat} {Z : m_S} (h : ¬ Z.1.2.1 = 0) : (m_pN B ln Z).1 = Z.1 := by unfold m_pN m_gv m_gc; rw [if_neg h, if_neg h]; rfl
theorem m_p6_bad {ln : Nat} {Z : m_S} (h : ¬ Z.1.2.1 = 0) : (m_p6 ln Z).1 = Z.1 := by unfold m_p6; rw [if_neg (fun z => h z.1)]
/-- v_si and bad: what is behind -/
def v_sb (c d : c_Cu) : Prop := v_si c d ∧ ¬ c.2.1 = 0
theorem v_sb.d {c d : c_Cu} (h : v_sb c d) : ¬ d.2.1 = 0 := by rw [← h.1.1]; exact h.2
theorem v_sb.tail {B : Nat → Nat} {ln : Nat} {S : c_S} {Z : m_S} (h : v_sb S.1 Z.1) : v_sb (c_w6 ln S).1 (m_p6 ln Z).1 := by rw [c_w6_bad h.2, m_p6_bad h.d]; exact h
theorem v_sb.N {B : Nat → Nat} {ln : Nat} {S : c_S} {Z : m_S} (h : v_sb S.1 Z.1) : v_sb (c_rN B ln false S).1 (m_pN B ln Z).1 := by rw [c_rN_bad h.2, m_pN_bad h.d]; exact h
theorem v_sb.E {B : Nat → Nat} {ln : Nat} {S : c_S} {Z : m_S} (h : v_sb S.1 Z.1) : v_sb (c_rE B ln false S).1 (m_pE B ln Z).1 := by rw [c_rE_bad h.2, m_pE_bad h.d]; exact h
theorem v_sb.H {B : Nat → Nat} {ln : Nat} {S : c_S} {Z : m_S} (h : v_sb S.1 Z.1) : v_sb (c_rH B ln false S).1 (m_pC B ln Z).1 := by rw [c_rH_bad h.2, m_pC_bad h.d]; exact h
theorem v_sb.F {B : Nat → Nat} {ln : Nat} {S : c_S} {Z : m_S} (h : v_sb S.1 Z.1) : v_sb (c_rF B ln S).1 (m_pF B ln Z).1 := by rw [c_rF_bad h.2, m_pF_bad h.d]; exact h
theorem v_sb.S {B : Nat → Nat} {ln : Nat} {S : c_S} {Z : m_S} (h : v_sb S.1 Z.1) : v_sb (c_rS B ln false S).1 (m_pS B ln Z).1 := by rw [c_rS_bad h.2, m_pS_bad h.d]; exact h
theorem f_S_same {B : Nat → Nat} {ln p j : Nat} {I I' : Nat → Nat → Int32} {L L' : Nat → Nat → Int64} (h : f_S B ln p j I L) (h14 : ∀ x, x < 4 → I' 14 (j * 4 + x) = I 14 (j * 4 + x)) (h24 : I' 24 = I 24) (h15 : L' 15 = L 15) : f_S B ln p j I' L' := by
  obtain ⟨g0, g1, g2, g3, g4, g5, g6⟩ := h
  refine ⟨g0, (h14 0 (by decide)).trans g1, (h14 1 (by decide)).trans g2, (h14 2 (by decide)).trans g3, (h14 3 (by decide)).trans g4, ?_, fun i hi => ?_⟩
  · rw [h24]; exact g5
  · rw [h15]; exact g6 i hi
theorem f_F_same {B : Nat → Nat} {p j : Nat} {I I' : Nat → Nat → Int32} (h : f_F B p j I) (h14 : I' 14 = I 14) : f_F B p j I' := by
  unfold f_F; rw [h14]; exact h
theorem f_H_same {B : Nat → Nat} {ln p s : Nat} {I I' : Nat → Nat → Int32} {L L' : Nat → Nat → Int64} (h : f_H B ln p s I L) (h16 : ∀ x, x < 7 → I' 16 (s * 7 + x) = I 16 (s * 7 + x)) (h17 : ∀ x, x < 16 → L' 17 (s * 48 + x) = L 17 (s * 48 + x)) : f_H B ln p s I' L' := by
  obtain ⟨g1, g2, g3, g4, g5⟩ := h
  exact ⟨f_G_same g1 (fun x hx => h16 x (by omega)) h17, (h16 5 (by decide)).trans g2, (h16 6 (by decide)).trans g3, (h16 3 (by decide)).trans g4, (h16 4 (by decide)).trans g5⟩
theorem v_pN_le {B : Nat → Nat} {ln p : Nat} (hp : p ≤ ln) : ∀ n, (∀ f, f < n → v_N B ln (v_FI B ln p f) (v_pN B ln p f)) → v_pN B ln p n ≤ ln
  | 0, _ => hp
  | n + 1, h => v_ne_le (h n (by omega))
theorem S_eta {S : c_S} {q w : Nat} (h : S.1 = (q, 0, w)) : S = ((q, 0, w), S.2.1, S.2.2) := by rw [← h]
theorem Z_eta {Z : m_S} {q w : Nat} (h : Z.1 = (q, 0, w)) : Z = ((q, 0, w), Z.2) := by rw [← h]
theorem n6z : ¬ (6 : Nat) = 0 := by decide
def t_N (B : Nat → Nat) (ln q : Nat) : Prop := v_Ns B ln q ∧ v_pN B ln (q + 1) (B q) = ln
theorem b_N {B : Nat → Nat} {ln : Nat} (hB : v_B B ln) {q w w' : Nat} (h : ¬ t_N B ln q) (I : Nat → Nat → Int32) (L : Nat → Nat → Int64) (J : Nat → Nat → Int32) (h14 : J 29 14 = nI 0) (hb : c_N I 3 ≤ 32 ∧ c_N I 4 ≤ 32) :
    v_sb (c_w6 ln (c_rN B ln false ((q, 0, w), I, L))).1 (m_p6 ln (m_pN B ln ((q, 0, w'), J))).1 := by
  by_cases z5 : v_Ns B ln q
  · obtain ⟨s1, s2⟩ := y_rN_ok hB false (N := fun _ => 0) (SA := fun _ => 0) (w := w) z5 ⟨by decide, by decide, by decide, by decide⟩ I L (fun q => absurd q (by decide)) hb (0, 0, 0) rfl
    have s3 := s1.2.2 rfl
    obtain ⟨t1, t2⟩ := z_pN_ok hB (w := w') z5 J h14
    have hle := v_pN_le (B := B) (ln := ln) (p := q + 1) z5.1 (B q) z5.2.2
    have hne : ¬ v_pN B ln (q + 1) (B q) = ln := fun y => h ⟨z5, y⟩
    generalize v_pN B ln (q + 1) (B q) = e at s3 t1 hle hne
    generalize c_rN B ln false ((q, 0, w), I, L) = S5 at s3 ⊢
    generalize m_pN B ln ((q, 0, w'), J) = Z5 at t1 ⊢
    have u1 : (c_w6 ln S5).1 = (e, 6, e) := by
      unfold c_w6; rw [s3, if_pos (show e < ln by omega)]; rfl
    have u2 : (m_p6 ln Z5).1 = (e, 6, e) := by
      unfold m_p6; rw [t1, if_pos ⟨rfl, show e < ln by omega⟩]; rfl
    rw [u1, u2]
    exact ⟨⟨rfl, fun _ => rfl, fun _ => rfl⟩, n6z⟩
  · exact v_sb.tail (B := B) (y_rN_bad hB z5 I L J h14 hb)
def t_E (B : Nat → Nat) (ln q : Nat) : Prop := v_L B ln 0 32 false q ∧ t_N B ln (m_le B ln q)
theorem b_E {B : Nat → Nat} {ln : Nat} (hB : v_B B ln) {q w w' : Nat} (h : ¬ t_E B ln q) (I : Nat → Nat → Int32) (L : Nat → Nat → Int64) (J : Nat → Nat → Int32) (h14 : J 29 14 = nI 0) (hb : c_N I 3 ≤ 32) :
    v_sb (c_w6 ln (c_rN B ln false (c_rE B ln false ((q, 0, w), I, L)))).1 (m_p6 ln (m_pN B ln (m_pE B ln ((q, 0, w'), J)))).1 := by
  by_cases z4 : v_L B ln 0 32 false q
  · obtain ⟨p1, p2, p3⟩ := y_rE_ok hB false (w := w) z4 I L (0, 0, 0) rfl
    have p4 := p1.2.2 rfl
    obtain ⟨q1, q2⟩ := z_pE_ok hB (w := w') z4 J
    have r14 : (m_pE B ln ((q, 0, w'), J)).2 29 14 = nI 0 := by rw [q2.1 29 (by decide), ct_u2_get, if_neg (by omega)]; exact h14
    have hE32 := z4.2.2.1
    have rN3 : c_N (c_rE B ln false ((q, 0, w), I, L)).2.1 3 ≤ 32 := by rw [p2, c_N_set (by omega), if_neg (by decide)]; exact hb
    have rN4 : c_N (c_rE B ln false ((q, 0, w), I, L)).2.1 4 ≤ 32 := by rw [p2, c_N_set (by omega), if_pos rfl]; exact hE32
    have hn : ¬ t_N B ln (m_le B ln q) := fun y => h ⟨z4, y⟩
    generalize c_rE B ln false ((q, 0, w), I, L) = S4 at p4 rN3 rN4 ⊢
    generalize m_pE B ln ((q, 0, w'), J) = Z4 at q1 r14 ⊢
    rw [S_eta p4, Z_eta q1]
    exact b_N hB hn S4.2.1 S4.2.2 Z4.2 r14 ⟨rN3, rN4⟩
  · exact v_sb.tail (B := B) (v_sb.N (y_rE_bad hB z4 I L J))
def t_H (B : Nat → Nat) (ln q : Nat) : Prop := v_Hs B ln q ∧ t_E B ln (v_pC B ln (q + 1) (B q))
theorem b_H {B : Nat → Nat} {ln : Nat} (hB : v_B B ln) {q w w' : Nat} (h : ¬ t_H B ln q) (I : Nat → Nat → Int32) (L : Nat → Nat → Int64) (J : Nat → Nat → Int32) (h14 : J 29 14 = nI 0) :
    v_sb (c_w6 ln (c_rN B ln false (c_rE B ln false (c_rH B ln false ((q, 0, w), I, L))))).1 (m_p6 ln (m_pN B ln (m_pE B ln (m_pC B ln ((q, 0, w'), J))))).1 := by
  by_cases z3 : v_Hs B ln q
  · obtain ⟨e1, e2⟩ := y_rH_ok hB false (w := w) z3 I L (0, 0, 0) rfl
    have e3 := e1.2.2 rfl
    have e4 := e2 (by rw [e3])
    obtain ⟨f1, f2⟩ := z_pC_ok hB (w := w') z3 J
    have k14 : (m_pC B ln ((q, 0, w'), J)).2 29 14 = nI 0 := by rw [f2.1 29 (by decide), ct_u2_get, if_neg (by omega)]; exact h14
    have kN3 : c_N (c_rH B ln false ((q, 0, w), I, L)).2.1 3 ≤ 32 := by
      unfold c_N; rw [e4.1 13 (by decide), ct_u2_get, if_pos ⟨rfl, rfl⟩, nI_clamp (by have := z3.2.1; omega)]; exact z3.2.1
    have hn : ¬ t_E B ln (v_pC B ln (q + 1) (B q)) := fun y => h ⟨z3, y⟩
    generalize v_pC B ln (q + 1) (B q) = q2 at e3 f1 hn
    generalize c_rH B ln false ((q, 0, w), I, L) = S3 at e3 kN3 ⊢
    generalize m_pC B ln ((q, 0, w'), J) = Z3 at f1 k14 ⊢
    rw [S_eta e3, Z_eta f1]
    exact b_E hB hn S3.2.1 S3.2.2 Z3.2 k14 kN3
  · exact v_sb.tail (B := B) (v_sb.N (v_sb.E (y_rH_bad hB z3 I L J)))
def t_F (B : Nat → Nat) (ln q : Nat) : Prop := v_Fs B ln q ∧ t_H B ln (q + 1 + 4 * B q)
theorem b_F {B : Nat → Nat} {ln : Nat} (hB : v_B B ln) {q w w' : Nat} (h : ¬ t_F B ln q) (I : Nat → Nat → Int32) (L : Nat → Nat → Int64) (J : Nat → Nat → Int32) (h14 : J 29 14 = nI 0) :
    v_sb (c_w6 ln (c_rN B ln false (c_rE B ln false (c_rH B ln false (c_rF B ln ((q, 0, w), I, L)))))).1 (m_p6 ln (m_pN B ln (m_pE B ln (m_pC B ln (m_pF B ln ((q, 0, w'), J)))))).1 := by
  by_cases z2 : v_Fs B ln q
  · obtain ⟨c1, c2⟩ := y_rF_ok (w := w) z2 I L
    obtain ⟨d1, d2⟩ := z_pF_ok (w := w') z2 J
    have k14 : (m_pF B ln ((q, 0, w'), J)).2 29 14 = nI 0 := by rw [d2.1 29 (by decide), ct_u2_get, if_neg (by omega)]; exact h14
    have hn : ¬ t_H B ln (q + 1 + 4 * B q) := fun y => h ⟨z2, y⟩
    generalize c_rF B ln ((q, 0, w), I, L) = S2 at c1 ⊢
    generalize m_pF B ln ((q, 0, w'), J) = Z2 at d1 k14 ⊢
    rw [S_eta c1, Z_eta d1]
    exact b_H hB hn S2.2.1 S2.2.2 Z2.2 k14
  · exact v_sb.tail (B := B) (v_sb.N (v_sb.E (v_sb.H (y_rF_bad z2 I L J))))
def t_S (B : Nat → Nat) (ln q : Nat) : Prop := v_Ss B ln q ∧ t_F B ln (v_pS B ln (q + 1) (B q))
theorem b_S {B : Nat → Nat} {ln : Nat} (hB : v_B B ln) {q w w' : Nat} (h : ¬ t_S B ln q) (I : Nat → Nat → Int32) (L : Nat → Nat → Int64) (J : Nat → Nat → Int32) (h14 : J 29 14 = nI 0) :
    v_sb (c_w6 ln (c_rN B ln false (c_rE B ln false (c_rH B ln false (c_rF B ln (c_rS B ln false ((q, 0, w), I, L))))))).1 (m_p6 ln (m_pN B ln (m_pE B ln (m_pC B ln (m_pF B ln (m_pS B ln ((q, 0, w'), J))))))).1 := by
  by_cases z1 : v_Ss B ln q
  · obtain ⟨b1, b2⟩ := y_rS_ok hB false (w := w) z1 I L (0, 0, 0) rfl
    have b3 := b1.2.2 rfl
    obtain ⟨b4, b5⟩ := z_pS_ok hB (w := w') z1 J
    have k14 : (m_pS B ln ((q, 0, w'), J)).2 29 14 = nI 0 := by rw [b5.1 29 (by decide), ct_u2_get, if_neg (by omega)]; exact h14
    have hn : ¬ t_F B ln (v_pS B ln (q + 1) (B q)) := fun y => h ⟨z1, y⟩
    generalize v_pS B ln (q + 1) (B q) = q2 at b3 b4 hn
    generalize c_rS B ln false ((q, 0, w), I, L) = S1 at b3 ⊢
    generalize m_pS B ln ((q, 0, w'), J) = Z1 at b4 k14 ⊢
    rw [S_eta b3, Z_eta b4]
    exact b_F hB hn S1.2.1 S1.2.2 Z1.2 k14
  · exact v_sb.tail (B := B) (v_sb.N (v_sb.E (v_sb.H (v_sb.F (y_rS_bad hB z1 I L J)))))
theorem v_Mod_t {B : Nat → Nat} {ln : Nat} (h0 : v_hd B ln) (h : t_S B ln 6) : v_Mod B ln := ⟨h0, h.1, h.2.1, h.2.2.1, h.2.2.2.1, h.2.2.2.2.1, h.2.2.2.2.2⟩
/-- the first walk over something that is no module -/
theorem w1_bad {B : Nat → Nat} {ln : Nat} (hB : v_B B ln) {w w' : Nat} (h : ¬ v_Mod B ln) (I : Nat → Nat → Int32) (L : Nat → Nat → Int64) (J : Nat → Nat → Int32) (h14 : J 29 14 = nI 0) :
    v_sb (c_wf B ln false (0, 0, w) I L).1 (m_oA B ln ((0, 0, w'), J)).1 := by
  have e1 : c_wf B ln false (0, 0, w) I L = c_w6 ln (c_rN B ln false (c_rE B ln false (c_rH B ln false (c_rF B ln (c_rS B ln false ((c_tk B ln 2 (c_rM B ln (0, 0, w))).2, ct_u2 I 13 0 (nI (c_tk B ln 2 (c_rM B ln (0, 0, w))).1), L)))))) := rfl
  have e2 : m_oA B ln ((0, 0, w'), J) = m_p6 ln (m_pN B ln (m_pE B ln (m_pC B ln (m_pF B ln (m_pS B ln (m_go ln 2 (m_mt B ln 4 (0, 0, w')), J)))))) := rfl
  rw [e1, e2]
  obtain ⟨g1, g2⟩ := v_G_hd (B := B) (ln := ln)
  generalize ct_u2 I 13 0 (nI (c_tk B ln 2 (c_rM B ln (0, 0, w))).1) = I1
  by_cases z0 : v_hd B ln
  · obtain ⟨a1, -⟩ := g1 w z0
    obtain ⟨-, a2⟩ := g1 w' z0
    rw [a1, a2]
    exact b_S hB (fun y => h (v_Mod_t z0 y)) I1 L J h14
  · have hb : v_sb (c_tk B ln 2 (c_rM B ln (0, 0, w))).2 (m_go ln 2 (m_mt B ln 4 (0, 0, w'))) := g2 w w' z0
    generalize (c_tk B ln 2 (c_rM B ln (0, 0, w))).2 = c at hb ⊢
    generalize m_go ln 2 (m_mt B ln 4 (0, 0, w')) = d at hb ⊢
    exact v_sb.tail (B := B) (v_sb.N (v_sb.E (v_sb.H (v_sb.F (v_sb.S (S := (c, I1, L)) (Z := (d, J)) hb)))))
