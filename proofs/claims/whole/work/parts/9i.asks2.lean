theorem c_ffN {I : Nat → Nat → Int32} {n5 n3 f w : Nat} (hf : f < n5 + n3) (hn : n5 + n3 < 2 ^ 31) (hw : w < 7) : c_ff I n5 n3 (nI f) (nI w) = I 16 (c_slot n5 f * 7 + w) := by
  unfold c_ff
  rw [if_neg (fun z => by
    rcases z with z | z | z | z
    · exact nI_pos (by omega) z
    · exact nI_ge hf hn z
    · exact nI_pos (by omega) z
    · exact z (nI_lt (b := 7) hw (by decide))), nI_clamp (by omega), nI_clamp (by omega)]
theorem c_slot_o {n5 f : Nat} (h : f < n5) : c_slot n5 f = f := if_pos h
theorem c_slot_f (n5 i : Nat) : c_slot n5 (n5 + i) = 64 + i := by unfold c_slot; rw [if_neg (by omega)]; omega
theorem i32_ge {w : Int32} {a b : Nat} (h : nI a ≤ w) (hb : b < a) (ha : a < 2 ^ 31) : ¬ w ≤ nI b := by
  intro q
  have h1 : (nI a).toInt ≤ w.toInt := Int32.le_iff_toInt_le.mp h
  have h2 : w.toInt ≤ (nI b).toInt := Int32.le_iff_toInt_le.mp q
  rw [nI_toInt ha] at h1
  rw [nI_toInt (by omega)] at h2
  omega
theorem n_Q.le {B : Nat → Nat} {m : Nat} {I : Nat → Nat → Int32} {L : Nat → Nat → Int64} (h : n_Q B m I L) : v_FF B m (B (v_qN B m)) ≤ 8192 := by
  obtain ⟨hB, hm, hM, hT, hE, hW, h3, h4⟩ := h
  by_cases q : B (v_qN B m) = 0
  · rw [q]; exact Nat.zero_le _
  · have := (hW.2.2.2.2.2.1 (B (v_qN B m) - 1) (show B (v_qN B m) - 1 < B (v_qN B m) by omega)).2.2.2.1
    rw [show B (v_qN B m) - 1 + 1 = B (v_qN B m) from by omega] at this
    exact this
/-- the lists' counts -/
theorem n_Q.hg {B : Nat → Nat} {m : Nat} {I : Nat → Nat → Int32} {L : Nat → Nat → Int64} (h : n_Q B m I L) : ∀ j, j < B (v_qN B m) + B (v_qC B m) → ∀ w, w < 3 → ∃ x, I 16 (c_slot (B (v_qN B m)) j * 7 + (1 + w)) = nI x ∧ x ≤ (if w = 2 then 32 else 8) := by
  obtain ⟨hB, hm, hM, hT, hE, hW, h3, h4⟩ := h
  intro j hj w hw
  by_cases q : j < B (v_qN B m)
  · obtain ⟨g1, ⟨g2, g3⟩, -⟩ := hT.2.2.2.2.2 j q
    rw [c_slot_o q]
    have : w = 0 ∨ w = 1 ∨ w = 2 := by omega
    rcases this with e | e | e <;> subst e
    · exact ⟨_, g1.2.2.1, g1.1.2.1⟩
    · exact ⟨_, g1.2.2.2.1, g1.1.2.2⟩
    · exact ⟨_, g3, g2⟩
  · obtain ⟨i, rfl⟩ : ∃ i, j = B (v_qN B m) + i := ⟨j - B (v_qN B m), by omega⟩
    obtain ⟨g1, g2, g3, g4, g5⟩ := hT.2.2.2.1 i (by omega)
    rw [c_slot_f]
    have : w = 0 ∨ w = 1 ∨ w = 2 := by omega
    rcases this with e | e | e <;> subst e
    · exact ⟨_, g1.2.2.1, g1.1.2.1⟩
    · exact ⟨_, g1.2.2.2.1, g1.1.2.2⟩
    · exact ⟨0, g4, by decide⟩
set_option maxHeartbeats 800000 in
set_option maxRecDepth 100000 in
theorem q_function (l : ct_Lx) {I : Nat → Nat → Int32} {L : Nat → Nat → Int64} (b : Bool) (h : (∃ B m, n_Q B m I L) ∨ n_0 I) (f w : Int32) : n_AI l M_X_function M_M_function 3 6 [.int f, .int w] (c_g I L b) := by
  rcases h with ⟨B, m, hQ⟩ | ⟨h3, h4⟩
  · have hle := hQ.le
    obtain ⟨hB, hm, hM, hT, hE, hW, h3, h4⟩ := hQ
    have b5 : B (v_qN B m) ≤ 64 := hM.2.2.2.2.2.1.2.1
    have b3 : B (v_qC B m) ≤ 32 := hM.2.2.2.1.2.1
    have cx := sp_X_function l I L b hT.1.2.2.2.2.2.1 hT.1.2.2.2.1 b5 b3 f w
    rw [if_neg (n_10 h3)] at cx
    have bad : (f < 0 ∨ nI (B (v_qN B m) + B (v_qC B m)) ≤ f) → n_AI l M_X_function M_M_function 3 6 [.int f, .int w] (c_g I L b) := by
      intro q
      refine ⟨-1, ?_, sp_M_function_bad l I L b hW.1 f w (Or.inr q)⟩
      rw [c_ff, if_pos (q.elim Or.inl (fun z => Or.inr (Or.inl z)))] at cx
      exact cx
    rcases pk_ix f (n := B (v_qN B m) + B (v_qC B m)) (by omega) with q | q | ⟨j, hj, rfl⟩
    · exact bad (Or.inl q)
    · exact bad (Or.inr q)
    have bad2 : (w < 0 ∨ nI 7 ≤ w) → n_AI l M_X_function M_M_function 3 6 [.int (nI j), .int w] (c_g I L b) := by
      intro q
      refine ⟨-1, ?_, sp_M_function_what l I L b hW.1 h4 (f := j) hj w (q.elim Or.inl (fun z => Or.inr (i32_le6 z)))⟩
      have e : c_ff I (B (v_qN B m)) (B (v_qC B m)) (nI j) w = -1 := by
        unfold c_ff; exact if_pos (q.elim (fun z => Or.inr (Or.inr (Or.inl z))) (fun z => Or.inr (Or.inr (Or.inr (Int32.not_lt.mpr z)))))
      rw [e] at cx; exact cx
    rcases pk_ix w (n := 7) (by decide) with q | q | ⟨x, hx, rfl⟩
    · exact bad2 (Or.inl q)
    · exact bad2 (Or.inr q)
    rw [c_ffN hj (by omega) hx] at cx
    refine ⟨_, cx, ?_⟩
    have hx7 : x = 0 ∨ x = 1 ∨ x = 2 ∨ x = 3 ∨ x = 4 ∨ x = 5 ∨ x = 6 := by omega
    by_cases y : j < B (v_qN B m)
    · rw [c_slot_o y]
      obtain ⟨g1, ⟨g2, g3⟩, -, g5, g6, g7, -⟩ := hT.2.2.2.2.2 j y
      rcases hx7 with e | e | e | e | e | e | e <;> subst e
      · rw [g1.2.1]; exact sp_M_function_o0 l I L b hm hE hW.1 hW.2.2.2.2.1 hW.2.2.2.2.2.1 h4 (j := j) y
      · rw [g1.2.2.1]; exact sp_M_function_o1 l I L b hm hE hW.1 hW.2.2.2.2.1 hW.2.2.2.2.2.1 h4 (j := j) y
      · rw [g1.2.2.2.1]; exact sp_M_function_o2 l I L b hm hE hW.1 hW.2.2.2.2.1 hW.2.2.2.2.2.1 h4 (j := j) y
      · rw [g3]; exact sp_M_function_o3 l I L b hm hE hW.1 hW.2.2.2.2.1 hW.2.2.2.2.2.1 h4 (j := j) y
      · rw [g7]
        have e := sp_M_function_o4 l I L b hm hE hW.1 hW.2.2.2.2.1 hW.2.2.2.2.2.1 h4 (j := j) y
        have e2 : v_FF B m (j + 1) - v_FF B m j = m_fn B (v_fa B m (v_pN B m (v_qN B m + 1) j)) := by show v_FF B m j + v_ct B m (v_FA B m j) - v_FF B m j = v_ct B m (v_FA B m j); omega
        rw [e2] at e; exact e
      · rw [g5]; exact sp_M_function_o5 l I L b hm hE hW.1 hW.2.2.2.2.1 hW.2.2.2.2.2.1 h4 (j := j) y
      · rw [g6]; exact sp_M_function_o6 l I L b hm hE hW.1 hW.2.2.2.2.1 hW.2.2.2.2.2.1 h4 (j := j) y
    · obtain ⟨i, rfl⟩ : ∃ i, j = B (v_qN B m) + i := ⟨j - B (v_qN B m), by omega⟩
      have hi : i < B (v_qC B m) := by omega
      rw [c_slot_f]
      obtain ⟨g1, g2, g3, g4, g5⟩ := hT.2.2.2.1 i hi
      rcases hx7 with e | e | e | e | e | e | e <;> subst e
      · rw [g1.2.1]; exact sp_M_function_f0 l I L b hm hE hW.1 hW.2.2.1 h4 (j := i) hi
      · rw [g1.2.2.1]; exact sp_M_function_f1 l I L b hm hE hW.1 hW.2.2.1 h4 (j := i) hi
      · rw [g1.2.2.2.1]; exact sp_M_function_f2 l I L b hm hE hW.1 hW.2.2.1 h4 (j := i) hi
      · rw [g4]; exact sp_M_function_f3 l I L b hm hE hW.1 hW.2.2.1 h4 (j := i) hi
      · rw [g5]; exact sp_M_function_f4 l I L b hm hE hW.1 hW.2.2.1 h4 (j := i) hi
      · rw [g2, c_num_2]; exact sp_M_function_f5 l I L b hm hE hW.1 hW.2.2.1 h4 (j := i) hi
      · rw [g3]; exact sp_M_function_f6 l I L b hm hE hW.1 hW.2.2.1 h4 (j := i) hi
  · exact ⟨-1, sp_X_function_nm l I L b f w h3, sp_M_function_nm l I L b f w h4⟩
/-- a list in the class's row, and at its place in the tape -/
theorem c_lt_lv {B : Nat → Nat} {m : Nat} {I : Nat → Nat → Int32} {L : Nat → Nat → Int64} {n5 n3 f k q : Nat} (hf : f < n5 + n3) (hn : n5 + n3 < 2 ^ 31) (hk : k < 3) (hq : B q < 256) (hc : I 16 (c_slot n5 f * 7 + (1 + k)) = nI (B q)) (hL : ∀ j, j < B q → L 17 (c_slot n5 f * 48 + k * 8 + j) = lN (v_v B m (m_tn B m j (q + 1)))) (i : Int32) : c_lt I L n5 n3 (nI f) (nI k) i = m_lv B m q i := by
  have e1 : (1 : Int32) + nI k = nI (1 + k) := nI_add 1 k
  unfold c_lt m_lv
  rw [e1, c_ffN hf hn (by omega), hc]
  by_cases z : i < 0 ∨ nI (B q) ≤ i
  · rw [if_pos z, if_pos (by
      rcases z with z | z
      · exact Or.inr (Or.inr (Or.inl z))
      · exact Or.inr (Or.inr (Or.inr (Int32.not_lt.mpr z))))]
  · rw [if_neg z, if_neg (fun y => by
      rcases y with y | y | y | y
      · exact nI_pos (by omega) y
      · exact nI_ge (b := 3) hk (by decide) y
      · exact z (Or.inl y)
      · exact z (Or.inr (Int32.not_lt.mp y)))]
    obtain ⟨x, hx, rfl⟩ := nI_of (x := i) (fun u => z (Or.inl u))
    have hx2 : x < B q := by
      have : ¬ nI (B q) ≤ nI x := fun u => z (Or.inr u)
      rw [nI_leI (by omega) hx] at this; omega
    rw [nI_clamp (by omega), nI_clamp (by omega), nI_clamp hx, hL x hx2]; rfl
set_option maxHeartbeats 800000 in
set_option maxRecDepth 100000 in
theorem q_listed (l : ct_Lx) {I : Nat → Nat → Int32} {L : Nat → Nat → Int64} (b : Bool) (h : (∃ B m, n_Q B m I L) ∨ n_0 I) (f k i : Int32) : n_AL l M_X_listed M_M_listed 4 5 [.int f, .int k, .int i] (c_g I L b) := by
  rcases h with ⟨B, m, hQ⟩ | ⟨h3, h4⟩
  · have hg := hQ.hg
    obtain ⟨hB, hm, hM, hT, hE, hW, h3, h4⟩ := hQ
    have b5 : B (v_qN B m) ≤ 64 := hM.2.2.2.2.2.1.2.1
    have b3 : B (v_qC B m) ≤ 32 := hM.2.2.2.1.2.1
    have cx := sp_X_listed l I L b hT.1.2.2.2.2.2.1 hT.1.2.2.2.1 b5 b3 hg f k i
    rw [if_neg (n_10 h3)] at cx
    have neg : ∀ i : Int32, i < 0 ∨ ¬ i < (-1 : Int32) := fun i => by
      by_cases q : i < 0
      · exact Or.inl q
      · exact Or.inr (Int32.not_lt.mpr (Int32.le_trans (by decide) (Int32.not_lt.mp q)))
    have bad : (f < 0 ∨ nI (B (v_qN B m) + B (v_qC B m)) ≤ f) → n_AL l M_X_listed M_M_listed 4 5 [.int f, .int k, .int i] (c_g I L b) := by
      intro q
      refine ⟨0, ?_, sp_M_listed_bad l I L b hW.1 f k i (Or.inr q)⟩
      have e : c_lt I L (B (v_qN B m)) (B (v_qC B m)) f k i = 0 := by
        unfold c_lt c_ff
        rw [if_pos (q.elim Or.inl (fun z => Or.inr (Or.inl z))), if_pos (Or.inr (Or.inr (neg i)))]
      rw [e] at cx; exact cx
    rcases pk_ix f (n := B (v_qN B m) + B (v_qC B m)) (by omega) with q | q | ⟨j, hj, rfl⟩
    · exact bad (Or.inl q)
    · exact bad (Or.inr q)
    have bad2 : (k < 0 ∨ nI 3 ≤ k) → n_AL l M_X_listed M_M_listed 4 5 [.int (nI j), .int k, .int i] (c_g I L b) := by
      intro q
      refine ⟨0, ?_, sp_M_listed_list l I L b hW.1 h4 (f := j) hj k i (q.elim Or.inl (fun z => Or.inr ?_))⟩
      · have e : c_lt I L (B (v_qN B m)) (B (v_qC B m)) (nI j) k i = 0 := by
          unfold c_lt; exact if_pos (q.elim Or.inl (fun z => Or.inr (Or.inl z)))
        rw [e] at cx; exact cx
      · by_cases u : (2 : Int32) < k
        · exact u
        · exact absurd (Int32.not_lt.mp u) (i32_ge (b := 2) z (by decide) (by decide))
    rcases pk_ix k (n := 3) (by decide) with q | q | ⟨x, hx, rfl⟩
    · exact bad2 (Or.inl q)
    · exact bad2 (Or.inr q)
    have hx3 : x = 0 ∨ x = 1 ∨ x = 2 := by omega
    by_cases y : j < B (v_qN B m)
    · obtain ⟨g1, ⟨g2, g3⟩, g4, -⟩ := hT.2.2.2.2.2 j y
      have cm := sp_M_listed_own l I L b hm hE hW.1 hW.2.2.2.2.1 h4 (j := j) (m := x) y (by omega) i
      refine ⟨_, cx, ?_⟩
      have e : c_lt I L (B (v_qN B m)) (B (v_qC B m)) (nI j) (nI x) i = m_lv B m (m_ln B m x (v_FA B m j + 1)) i := by
        refine c_lt_lv hj (by omega) hx (hB.1 _) ?_ ?_ i
        · rw [c_slot_o y]
          rcases hx3 with e | e | e <;> subst e
          · exact g1.2.2.1
          · exact g1.2.2.2.1
          · exact g3
        · intro u hu
          rw [c_slot_o y]
          rcases hx3 with e | e | e <;> subst e
          · exact g1.2.2.2.2.1 u hu
          · exact g1.2.2.2.2.2 u hu
          · exact g4 u hu
      rw [e]; exact cm
    · obtain ⟨n, rfl⟩ : ∃ n, j = B (v_qN B m) + n := ⟨j - B (v_qN B m), by omega⟩
      have hn : n < B (v_qC B m) := by omega
      obtain ⟨g1, g2, g3, g4, g5⟩ := hT.2.2.2.1 n hn
      refine ⟨_, cx, ?_⟩
      rcases hx3 with e | e | e <;> subst e
      · rw [c_lt_lv (B := B) (m := m) (q := v_CA B m n + 4) hj (by omega) hx (hB.1 _) (by rw [c_slot_f]; exact g1.2.2.1) (fun u hu => by rw [c_slot_f]; exact g1.2.2.2.2.1 u hu) i]
        exact sp_M_listed_f0 l I L b hm hE hW.1 hW.2.2.1 h4 (j := n) hn i
      · rw [c_lt_lv (B := B) (m := m) (q := m_le B m (v_CA B m n + 4)) hj (by omega) hx (hB.1 _) (by rw [c_slot_f]; exact g1.2.2.2.1) (fun u hu => by rw [c_slot_f]; exact g1.2.2.2.2.2 u hu) i]
        exact sp_M_listed_f1 l I L b hm hE hW.1 hW.2.2.1 h4 (j := n) hn i
      · have e : c_lt I L (B (v_qN B m)) (B (v_qC B m)) (nI (B (v_qN B m) + n)) (nI 2) i = 0 := by
          have e1 : (1 : Int32) + nI 2 = nI 3 := by decide
          unfold c_lt
          rw [e1, c_ffN hj (by omega) (by decide), c_slot_f, g4, if_pos (Or.inr (Or.inr (by
            by_cases q : i < 0
            · exact Or.inl q
            · exact Or.inr q)))]
        rw [e]; exact sp_M_listed_f2 l I L b hm hE hW.1 hW.2.2.1 h4 (j := n) hn i
  · exact ⟨0, sp_X_listed_nm l I L b f k i h3, sp_M_listed_nm l I L b f k i h4⟩
set_option maxHeartbeats 800000 in
set_option maxRecDepth 100000 in
theorem q_element (l : ct_Lx) {I : Nat → Nat → Int32} {L : Nat → Nat → Int64} (b : Bool) (h : (∃ B m, n_Q B m I L) ∨ n_0 I) (k : Int32) : n_AL l M_X_element M_M_element 1 4 [.int k] (c_g I L b) := by
  rcases h with ⟨B, m, hQ⟩ | ⟨h3, h4⟩
  · obtain ⟨hB, hm, hM, hT, hE, hW, h3, h4⟩ := hQ
    have b4 : B (v_qE B m) ≤ 32 := hM.2.2.2.2.1.2.2.1
    have cx := sp_X_element l I L b hT.1.2.2.2.2.1 b4 k
    rcases pk_ix k (n := B (v_qE B m)) (by omega) with q | q | ⟨j, hj, rfl⟩
    · rw [x_element, if_pos (Or.inr (Or.inl q))] at cx
      exact ⟨0, cx, sp_M_element_bad l I L b hW.1 k (Or.inr (Or.inl q))⟩
    · rw [x_element, if_pos (Or.inr (Or.inr q))] at cx
      exact ⟨0, cx, sp_M_element_bad l I L b hW.1 k (Or.inr (Or.inr q))⟩
    · rw [x_element, if_neg (fun z => by
        rcases z with z | z | z
        · exact n_10 h3 z
        · exact nI_pos (by omega) z
        · exact nI_ge hj (by omega) z), nI_clamp (by omega), hT.2.2.2.2.1 j hj] at cx
      exact ⟨_, cx, sp_M_element l I L b hm hE hW.1 hW.2.2.2.1 h4 (j := j) hj⟩
  · exact ⟨0, sp_X_element_nm l I L b k h3, sp_M_element_nm l I L b k h4⟩
theorem o_two : ∀ o, o < 60 → (m_two o → c_fs (c_ofN o) = m_ob o / 2 ∧ c_ss (c_ofN o) = m_ob o / 2) ∧ (¬ m_two o → c_fs (c_ofN o) = m_ob o ∧ c_ss (c_ofN o) = 0) := by decide +kernel
theorem m_opd_v {B : Nat → Nat} {p : Nat} (h : B p < 60) : m_opd B p 0 = lN (v_o1 B p) ∧ m_opd B p 1 = lN (v_o2 B p) := by
  obtain ⟨h1, h2⟩ := o_two (B p) h
  unfold m_opd v_o1 v_o2
  by_cases q : m_two (B p)
  · rw [if_pos q, if_pos q, (h1 q).1, (h1 q).2, Nat.zero_mul, Nat.zero_div, Nat.add_zero, Nat.one_mul]
    exact ⟨rfl, rfl⟩
  · rw [if_neg q, if_neg q, if_pos rfl, if_neg (by decide), (h2 q).1, (h2 q).2]
    exact ⟨rfl, rfl⟩
/-- where the class has a function's instruction -/
theorem c_ia_bad {I : Nat → Nat → Int32} {n5 n3 : Nat} {f i : Int32} (h : f < 0 ∨ nI n5 ≤ f) : c_ia I n5 n3 f i = -1 := by
  unfold c_ia; rw [if_pos (h.elim Or.inl (fun z => Or.inr (Or.inl z)))]
theorem c_ia_no {I : Nat → Nat → Int32} {n5 n3 f ct : Nat} {i : Int32} (hf : f < n5) (hn : n5 + n3 < 2 ^ 31) (hc : I 16 (f * 7 + 4) = nI ct) (h : i < 0 ∨ nI ct ≤ i) : c_ia I n5 n3 (nI f) i = -1 := by
  have e : c_ff I n5 n3 (nI f) 4 = nI ct := by rw [← hc]; have := c_ffN (I := I) (n5 := n5) (n3 := n3) (f := f) (w := 4) (by omega) hn (by decide); rw [c_slot_o hf] at this; exact this
  unfold c_ia; rw [e, if_pos (h.elim (fun z => Or.inr (Or.inr (Or.inl z))) (fun z => Or.inr (Or.inr (Or.inr (Int32.not_lt.mpr z)))))]
theorem c_ia_in {I : Nat → Nat → Int32} {n5 n3 f ct fi i : Nat} (hf : f < n5) (hn : n5 + n3 < 2 ^ 31) (hc : I 16 (f * 7 + 4) = nI ct) (hfi : I 19 f = nI fi) (hi : i < ct) (hct : ct < 2 ^ 31) : c_ia I n5 n3 (nI f) (nI i) = nI (fi + i) := by
  have e : c_ff I n5 n3 (nI f) 4 = nI ct := by rw [← hc]; have := c_ffN (I := I) (n5 := n5) (n3 := n3) (f := f) (w := 4) (by omega) hn (by decide); rw [c_slot_o hf] at this; exact this
  unfold c_ia
  rw [e, if_neg (fun z => by
    rcases z with z | z | z | z
    · exact nI_pos (by omega) z
    · exact nI_ge hf (by omega) z
    · exact nI_pos (by omega) z
    · exact z (nI_lt hi hct)), nI_clamp (by omega), hfi, nI_add]
theorem neg1 : (-1 : Int32) < 0 := by decide
set_option maxHeartbeats 800000 in
set_option maxRecDepth 100000 in
theorem q_operation (l : ct_Lx) {I : Nat → Nat → Int32} {L : Nat → Nat → Int64} (b : Bool) (h : (∃ B m, n_Q B m I L) ∨ n_0 I) (f i : Int32) : n_AI l M_X_operation M_M_operation 4 2 [.int f, .int i] (c_g I L b) := by
  rcases h with ⟨B, m, hQ⟩ | ⟨h3, h4⟩
  · have hle := hQ.le
    obtain ⟨hB, hm, hM, hT, hE, hW, h3, h4⟩ := hQ
    have b5 : B (v_qN B m) ≤ 64 := hM.2.2.2.2.2.1.2.1
    have b3 : B (v_qC B m) ≤ 32 := hM.2.2.2.1.2.1
    have hxa : x_at I (B (v_qN B m)) (B (v_qC B m)) f i = c_ia I (B (v_qN B m)) (B (v_qC B m)) f i := by unfold x_at; rw [if_neg (n_10 h3)]
    have no : c_ia I (B (v_qN B m)) (B (v_qC B m)) f i = -1 → ct_Me l M_X_operation 4 0 0 [.ref 10, .int f, .int i] (c_g I L b) (fun v g => v = some (.int (-1)) ∧ g = c_g I L b) := by
      intro e
      have cx := sp_X_operation l I L b hT.1.2.2.2.2.2.1 hT.1.2.2.2.1 b5 b3 f i (fun z => absurd neg1 (by rw [hxa, e] at z; exact z))
      rw [x_operation, hxa, e, if_neg (by decide)] at cx
      exact cx
    rcases pk_ix f (n := B (v_qN B m)) (by omega) with q | q | ⟨j, hj, rfl⟩
    · exact ⟨-1, no (c_ia_bad (Or.inl q)), sp_M_operation_bad l I L b hW.1 f i (Or.inr (Or.inl q))⟩
    · exact ⟨-1, no (c_ia_bad (Or.inr q)), sp_M_operation_bad l I L b hW.1 f i (Or.inr (Or.inr q))⟩
    · obtain ⟨-, -, -, -, -, g7, g8, g9⟩ := hT.2.2.2.2.2 j hj
      have hst : v_FF B m (j + 1) = v_FF B m j + v_ct B m (v_FA B m j) := rfl
      have hle2 : v_FF B m (j + 1) ≤ 8192 := Nat.le_trans (v_FI_le B m (v_qN B m + 1) (show j + 1 ≤ B (v_qN B m) by omega)) hle
      have g7' : I 16 (j * 7 + 4) = nI (v_ct B m (v_FA B m j)) := g7
      have g8' : I 19 j = nI (v_FF B m j) := g8
      have ect : v_FF B m (j + 1) - v_FF B m j = v_ct B m (v_FA B m j) := by omega
      rcases pk_ix i (n := v_ct B m (v_FA B m j)) (by omega) with q | q | ⟨x, hx, rfl⟩
      · exact ⟨-1, no (c_ia_no hj (by omega) g7' (Or.inl q)), sp_M_operation_no l I L b hW.1 hW.2.2.2.2.2.1 h4 (j := j) hj i (Or.inl q)⟩
      · exact ⟨-1, no (c_ia_no hj (by omega) g7' (Or.inr q)), sp_M_operation_no l I L b hW.1 hW.2.2.2.2.2.1 h4 (j := j) hj i (Or.inr (by rw [ect]; exact q))⟩
      · have ei := c_ia_in (n3 := B (v_qC B m)) hj (by omega) g7' g8' hx (by omega)
        have cx := sp_X_operation l I L b hT.1.2.2.2.2.2.1 hT.1.2.2.2.1 b5 b3 (nI j) (nI x) (fun _ => by rw [hxa, ei]; exact vp_in_nI (by omega) (by decide))
        rw [x_operation, hxa, ei, if_pos (nI_pos' (by omega)), nI_clamp (by omega)] at cx
        obtain ⟨k1, -, -⟩ := g9 x hx
        refine ⟨_, cx, ?_⟩
        rw [show I 20 (v_FF B m j + x) = nI (B (v_IA I (v_FF B m j + x))) from by rw [hW.2.2.2.2.2.2.2 j hj x hx]; exact k1]
        exact sp_M_operation l I L b hm hE hW.1 hW.2.2.2.2.2.1 h4 (j := j) (m := x) hj (by rw [ect]; exact hx)
  · exact ⟨-1, sp_X_operation_nm l I L b f i h3, sp_M_operation_nm l I L b f i h4⟩
set_option maxHeartbeats 800000 in
set_option maxRecDepth 100000 in
theorem q_operand (l : ct_Lx) {I : Nat → Nat → Int32} {L : Nat → Nat → Int64} (b : Bool) (h : (∃ B m, n_Q B m I L) ∨ n_0 I) (f i w : Int32) : n_AL l M_X_operand M_M_operand 4 3 [.int f, .int i, .int w] (c_g I L b) := by
  rcases h with ⟨B, m, hQ⟩ | ⟨h3, h4⟩
  · have hle := hQ.le
    obtain ⟨hB, hm, hM, hT, hE, hW, h3, h4⟩ := hQ
    have b5 : B (v_qN B m) ≤ 64 := hM.2.2.2.2.2.1.2.1
    have b3 : B (v_qC B m) ≤ 32 := hM.2.2.2.1.2.1
    have hxa : x_at I (B (v_qN B m)) (B (v_qC B m)) f i = c_ia I (B (v_qN B m)) (B (v_qC B m)) f i := by unfold x_at; rw [if_neg (n_10 h3)]
    have no : c_ia I (B (v_qN B m)) (B (v_qC B m)) f i = -1 → ct_Me l M_X_operand 4 0 0 [.ref 10, .int f, .int i, .int w] (c_g I L b) (fun v g => v = some (.long 0) ∧ g = c_g I L b) := by
      intro e
      have cx := sp_X_operand l I L b hT.1.2.2.2.2.2.1 hT.1.2.2.2.1 b5 b3 f i w (fun z => absurd neg1 (by rw [hxa, e] at z; exact z))
      rw [x_operand, hxa, e, if_pos (Or.inl neg1)] at cx
      exact cx
    rcases pk_ix f (n := B (v_qN B m)) (by omega) with q | q | ⟨j, hj, rfl⟩
    · exact ⟨0, no (c_ia_bad (Or.inl q)), sp_M_operand_bad l I L b hW.1 f i w (Or.inr (Or.inl q))⟩
    · exact ⟨0, no (c_ia_bad (Or.inr q)), sp_M_operand_bad l I L b hW.1 f i w (Or.inr (Or.inr q))⟩
    · obtain ⟨-, -, -, -, -, g7, g8, g9⟩ := hT.2.2.2.2.2 j hj
      have hvI := (hM.2.2.2.2.2.1.2.2 j hj).2.2
      have hst : v_FF B m (j + 1) = v_FF B m j + v_ct B m (v_FA B m j) := rfl
      have hle2 : v_FF B m (j + 1) ≤ 8192 := Nat.le_trans (v_FI_le B m (v_qN B m + 1) (show j + 1 ≤ B (v_qN B m) by omega)) hle
      have g7' : I 16 (j * 7 + 4) = nI (v_ct B m (v_FA B m j)) := g7
      have g8' : I 19 j = nI (v_FF B m j) := g8
      have ect : v_FF B m (j + 1) - v_FF B m j = v_ct B m (v_FA B m j) := by omega
      rcases pk_ix i (n := v_ct B m (v_FA B m j)) (by omega) with q | q | ⟨x, hx, rfl⟩
      · exact ⟨0, no (c_ia_no hj (by omega) g7' (Or.inl q)), sp_M_operand_no l I L b hW.1 hW.2.2.2.2.2.1 h4 (j := j) hj i w (Or.inl q)⟩
      · exact ⟨0, no (c_ia_no hj (by omega) g7' (Or.inr q)), sp_M_operand_no l I L b hW.1 hW.2.2.2.2.2.1 h4 (j := j) hj i w (Or.inr (by rw [ect]; exact q))⟩
      · have ei := c_ia_in (n3 := B (v_qC B m)) hj (by omega) g7' g8' hx (by omega)
        have cx := sp_X_operand l I L b hT.1.2.2.2.2.2.1 hT.1.2.2.2.1 b5 b3 (nI j) (nI x) w (fun _ => by rw [hxa, ei]; exact vp_in_nI (by omega) (by decide))
        rw [x_operand, hxa, ei] at cx
        have bw : (w < 0 ∨ nI 2 ≤ w) → n_AL l M_X_operand M_M_operand 4 3 [.int (nI j), .int (nI x), .int w] (c_g I L b) := by
          intro q
          have q2 : w < 0 ∨ ¬ w ≤ 1 := q.elim Or.inl (fun z => Or.inr (i32_ge (b := 1) z (by decide) (by decide)))
          rw [if_pos (Or.inr q2)] at cx
          exact ⟨0, cx, sp_M_operand_which l I L b hW.1 hW.2.2.2.2.2.1 h4 (j := j) hj (nI x) w q2⟩
        rcases pk_ix w (n := 2) (by decide) with q | q | ⟨u, hu, rfl⟩
        · exact bw (Or.inl q)
        · exact bw (Or.inr q)
        · rw [if_neg (fun z => by
            rcases z with z | z | z
            · exact nI_pos (by omega) z
            · exact nI_pos (by omega) z
            · exact z (nI_le (b := 1) (by omega) (by decide))), nI_clamp (by omega)] at cx
          obtain ⟨-, k2, k3⟩ := g9 x hx
          have cm := sp_M_operand l I L b hm hE hW.1 hW.2.2.2.2.2.1 h4 (j := j) (m := x) (w := u) hj (by rw [ect]; exact hx) (by omega)
          rw [hW.2.2.2.2.2.2.2 j hj x hx] at cm
          have hI := hvI x hx
          obtain ⟨o1, o2⟩ := m_opd_v (B := B) (p := v_ip B (v_fa B m (v_FA B m j) + 2) x) (by have : B (v_ip B (v_fa B m (v_FA B m j) + 2) x) ≤ 59 := hI.2.1; omega)
          have hu2 : u = 0 ∨ u = 1 := by omega
          rcases hu2 with e | e <;> subst e
          · rw [if_pos (show nI 0 = 0 by decide)] at cx
            refine ⟨_, cx, ?_⟩
            rw [show L 21 (v_FF B m j + x) = m_opd B (v_ip B (v_fa B m (v_FA B m j) + 2) x) 0 from by rw [o1]; exact k2]
            exact cm
          · rw [if_neg (show ¬ nI 1 = 0 by decide)] at cx
            refine ⟨_, cx, ?_⟩
            rw [show L 22 (v_FF B m j + x) = m_opd B (v_ip B (v_fa B m (v_FA B m j) + 2) x) 1 from by rw [o2]; exact k3]
            exact cm
  · exact ⟨0, sp_X_operand_nm l I L b f i w h3, sp_M_operand_nm l I L b f i w h4⟩
set_option maxHeartbeats 800000 in
set_option maxRecDepth 100000 in
theorem q_place (l : ct_Lx) {I : Nat → Nat → Int32} {L : Nat → Nat → Int64} (b : Bool) (h : I 10 2 = I 29 8) : n_AI l M_X_place M_M_place 1 1 [] (c_g I L b) := by
  refine ⟨I 10 2, sp_X_place l I L b, ?_⟩
  rw [h]; exact sp_M_place l I L b
theorem q_written (l : ct_Lx) {I : Nat → Nat → Int32} {L : Nat → Nat → Int64} (b : Bool) {wl : Nat} (h1 : I 27 2 = nI wl) (h2 : I 29 22 = nI wl) (hw : wl ≤ 4096) (hb : ∀ j, j < wl → (I 28 j).toBitVec.toNat % 256 = (I 38 j).toBitVec.toNat % 256) (i : Int32) : n_AI l M_X_written M_M_written 1 1 [.int i] (c_g I L b) := by
  refine ⟨x_written I i, sp_X_written l I L b h1 hw i, ?_⟩
  have e : x_written I i = m_wr I i := by
    unfold x_written m_wr
    rw [h1, h2]
    by_cases z : i < 0 ∨ nI wl ≤ i
    · rw [if_pos z, if_pos z]
    · rw [if_neg z, if_neg z]
      obtain ⟨x, hx, rfl⟩ := nI_of (x := i) (fun u => z (Or.inl u))
      have hx2 : x < wl := by
        have : ¬ nI wl ≤ nI x := fun u => z (Or.inr u)
        rw [nI_leI (by omega) hx] at this; omega
      rw [nI_clamp hx, pk_and (I 28 x) 8 rfl, pk_and (I 38 x) 8 rfl]
      exact congrArg nI (hb x hx2)
  rw [e]; exact sp_M_written l I L b h2 hw i
