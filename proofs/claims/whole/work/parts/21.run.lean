/-! a run, step by step, for simp: only from a point that is written out -/
def ct_nx (T : List (Nat × ct_PT)) (S : List Nat) (k : Nat) (cf : ct_Cf) (K : ct_Cf → Prop) : Prop := if ct_hp S cf.1 = true then K cf else ct_run T S k cf K
theorem ct_run_s (T : List (Nat × ct_PT)) (S : List Nat) (k pc : Nat) (r : ct_Lv × List Value × ct_Sg × Nat × Nat) (K : ct_Cf → Prop) : ct_run T S (k + 1) (pc, r) K = (match ct_tab T pc with
    | none => K (pc, r)
    | some t => t (pc, r) fun cf' => ct_nx T S k cf' K) := rfl
theorem ct_nx_s (T : List (Nat × ct_PT)) (S : List Nat) (k pc : Nat) (r : ct_Lv × List Value × ct_Sg × Nat × Nat) (K : ct_Cf → Prop) : ct_nx T S k (pc, r) K = if ct_hp S pc = true then K (pc, r) else ct_run T S k (pc, r) K := rfl
