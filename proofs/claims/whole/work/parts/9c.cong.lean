/-! PURE: the walk reads bytes below ln alone -/
theorem cg_num {B B' : Nat → Nat} {ln : Nat} (h : ∀ j, j < ln → B j = B' j) : ∀ n a, a + n ≤ ln → c_num B a n = c_num B' a n
  | 0, _, _ => rfl
  | n + 1, a, q => by rw [c_num, c_num, cg_num h n a (by omega), h (a + n) (by omega)]
theorem cg_tk {B B' : Nat → Nat} {ln : Nat} (h : ∀ j, j < ln → B j = B' j) : c_tk B ln = c_tk B' ln := by
  funext sz c; unfold c_tk
  by_cases q : c.1 + sz ≤ ln
  · rw [if_pos q, if_pos q, cg_num h sz c.1 q]
  · rw [if_neg q, if_neg q]
theorem cg_nb {B B' : Nat → Nat} {ln : Nat} (h : ∀ j, j < ln → B j = B' j) : c_nb B ln = c_nb B' ln := by
  funext c; unfold c_nb
  by_cases q : c.2.1 = 0 ∧ c.1 < ln
  · rw [if_pos q, if_pos q, h _ q.2]
  · rw [if_neg q, if_neg q]
theorem cg_tw {B B' : Nat → Nat} {ln : Nat} (h : ∀ j, j < ln → B j = B' j) : c_tw B ln = c_tw B' ln := by
  funext sz lo hi c; unfold c_tw; rw [cg_tk h]
theorem cg_tn {B B' : Nat → Nat} {ln : Nat} (h : ∀ j, j < ln → B j = B' j) : c_tn B ln = c_tn B' ln := by
  funext lu sz hm r c; unfold c_tn; rw [cg_tk h]
theorem cg_to {B B' : Nat → Nat} {ln : Nat} (h : ∀ j, j < ln → B j = B' j) : c_to B ln = c_to B' ln := by
  funext c; unfold c_to; rw [cg_tk h]
theorem cg_os {B B' : Nat → Nat} {ln : Nat} (h : ∀ j, j < ln → B j = B' j) : c_os B ln = c_os B' ln := by
  funext lu n1 na c; unfold c_os; rw [cg_tk h]
theorem cg_k2 {B B' : Nat → Nat} {ln : Nat} (h : ∀ j, j < ln → B j = B' j) : c_k2 B ln = c_k2 B' ln := by
  funext c; unfold c_k2; rw [cg_tk h]
theorem cg_tt {B B' : Nat → Nat} {ln : Nat} (h : ∀ j, j < ln → B j = B' j) : c_tt B ln = c_tt B' ln := by
  funext lu na v c; unfold c_tt; rw [cg_tk h, cg_k2 h]
theorem cg_sev {B B' : Nat → Nat} {ln : Nat} (h : ∀ j, j < ln → B j = B' j) : ∀ n v c, c_sev B ln n v c = c_sev B' ln n v c
  | 0, _, _ => rfl
  | n + 1, v, c => by rw [c_sev, c_sev, cg_nb h, cg_tk h, cg_sev h n]
theorem cg_rf {B B' : Nat → Nat} {ln : Nat} (h : ∀ j, j < ln → B j = B' j) : c_rf B ln = c_rf B' ln := by
  funext rf c; unfold c_rf; rw [cg_nb h, cg_tk h]
theorem cg_ty {B B' : Nat → Nat} {ln : Nat} (h : ∀ j, j < ln → B j = B' j) : c_ty B ln = c_ty B' ln := by
  funext lu na rf c; unfold c_ty; rw [cg_tt h, cg_rf h, cg_sev h]
theorem cg_tl {B B' : Nat → Nat} {ln : Nat} (h : ∀ j, j < ln → B j = B' j) : ∀ lu na rf r fr n i c L, c_tl B ln lu na rf r fr n i c L = c_tl B' ln lu na rf r fr n i c L := by
  intro lu na rf r fr n
  induction n with
  | zero => intro i c L; rfl
  | succ n ih => intro i c L; rw [c_tl, c_tl, cg_ty h]; split; exact ih _ _ _; rfl
theorem cg_tys {B B' : Nat → Nat} {ln : Nat} (h : ∀ j, j < ln → B j = B' j) : c_tys B ln = c_tys B' ln := by
  funext lu na rf r fr lo hi c L
  show c_tl B ln lu na rf r fr (c_tw B ln 1 lo hi c).1 0 (c_tw B ln 1 lo hi c).2 L = _
  rw [cg_tl h, cg_tw h]
theorem cg_lp {f g : Nat → c_S → c_S} (h : ∀ k S, f k S = g k S) : c_lp f = c_lp g := by
  have : f = g := by funext k S; exact h k S
  rw [this]
theorem cg_rs1 {B B' : Nat → Nat} {ln : Nat} (h : ∀ j, j < ln → B j = B' j) : c_rs1 B ln = c_rs1 B' ln := by
  funext lu k S; unfold c_rs1; rw [cg_tys h, cg_tw h]
theorem cg_rS {B B' : Nat → Nat} {ln : Nat} (h : ∀ j, j < ln → B j = B' j) : c_rS B ln = c_rS B' ln := by
  funext lu S; unfold c_rS; rw [cg_tw h, cg_rs1 h]
theorem cg_rf1 {B B' : Nat → Nat} {ln : Nat} (h : ∀ j, j < ln → B j = B' j) : c_rf1 B ln = c_rf1 B' ln := by
  funext i S; unfold c_rf1; rw [cg_tw h, cg_tk h]
theorem cg_rF {B B' : Nat → Nat} {ln : Nat} (h : ∀ j, j < ln → B j = B' j) : c_rF B ln = c_rF B' ln := by
  funext S; unfold c_rF; rw [cg_tw h, cg_rf1 h]
theorem cg_rg1 {B B' : Nat → Nat} {ln : Nat} (h : ∀ j, j < ln → B j = B' j) : c_rg1 B ln = c_rg1 B' ln := by
  funext lu s S; unfold c_rg1; rw [cg_tys h, cg_tw h]
theorem cg_rh0 {B B' : Nat → Nat} {ln : Nat} (h : ∀ j, j < ln → B j = B' j) : c_rh0 B ln = c_rh0 B' ln := by
  funext i S; unfold c_rh0; rw [cg_tk h]
theorem cg_rh1 {B B' : Nat → Nat} {ln : Nat} (h : ∀ j, j < ln → B j = B' j) : c_rh1 B ln = c_rh1 B' ln := by
  funext lu i S; unfold c_rh1; rw [cg_rg1 h, cg_rh0 h]
theorem cg_rH {B B' : Nat → Nat} {ln : Nat} (h : ∀ j, j < ln → B j = B' j) : c_rH B ln = c_rH B' ln := by
  funext lu S; unfold c_rH; rw [cg_tw h, cg_rh1 h]
theorem cg_rE {B B' : Nat → Nat} {ln : Nat} (h : ∀ j, j < ln → B j = B' j) : c_rE B ln = c_rE B' ln := by
  funext lu S; unfold c_rE; rw [cg_tys h, cg_tw h]
theorem cg_fo {B B' : Nat → Nat} {ln : Nat} (h : ∀ j, j < ln → B j = B' j) : c_fo B ln = c_fo B' ln := by
  funext lu n1 na nf n4 lc ni s c; unfold c_fo; rw [cg_tn h, cg_os h, cg_tk h]
theorem cg_so {B B' : Nat → Nat} {ln : Nat} (h : ∀ j, j < ln → B j = B' j) : c_so B ln = c_so B' ln := by
  funext lu hm s c; unfold c_so; rw [cg_tn h, cg_tw h, cg_tk h]
theorem cg_ri1 {B B' : Nat → Nat} {ln : Nat} (h : ∀ j, j < ln → B j = B' j) : c_ri1 B ln = c_ri1 B' ln := by
  funext lu lc ni s S; unfold c_ri1; rw [cg_so h, cg_fo h, cg_to h]
theorem cg_rc0 {B B' : Nat → Nat} {ln : Nat} (h : ∀ j, j < ln → B j = B' j) : c_rc0 B ln = c_rc0 B' ln := by
  funext f S; unfold c_rc0; rw [cg_tw h]
theorem cg_rc {B B' : Nat → Nat} {ln : Nat} (h : ∀ j, j < ln → B j = B' j) : c_rc B ln = c_rc B' ln := by
  funext lu f S; unfold c_rc; rw [cg_ri1 h, cg_tw h, cg_rc0 h]
theorem cg_rn0 {B B' : Nat → Nat} {ln : Nat} (h : ∀ j, j < ln → B j = B' j) : c_rn0 B ln = c_rn0 B' ln := by
  funext lu f S; unfold c_rn0; rw [cg_rg1 h]
theorem cg_rn2 {B B' : Nat → Nat} {ln : Nat} (h : ∀ j, j < ln → B j = B' j) : c_rn2 B ln = c_rn2 B' ln := by
  funext lu f S; unfold c_rn2; rw [cg_tys h, cg_tw h]
theorem cg_rn1 {B B' : Nat → Nat} {ln : Nat} (h : ∀ j, j < ln → B j = B' j) : c_rn1 B ln = c_rn1 B' ln := by
  funext lu f S; unfold c_rn1; rw [cg_rc h, cg_rn2 h, cg_rn0 h]
theorem cg_rN {B B' : Nat → Nat} {ln : Nat} (h : ∀ j, j < ln → B j = B' j) : c_rN B ln = c_rN B' ln := by
  funext lu S; unfold c_rN; rw [cg_rn1 h, cg_tw h]
theorem cg_rm1 {B B' : Nat → Nat} {ln : Nat} (h : ∀ j, j < ln → B j = B' j) : c_rm1 B ln = c_rm1 B' ln := by
  funext i c; unfold c_rm1; rw [cg_tk h]
theorem cg_rM {B B' : Nat → Nat} {ln : Nat} (h : ∀ j, j < ln → B j = B' j) : c_rM B ln = c_rM B' ln := by
  funext c; unfold c_rM; rw [cg_rm1 h]
theorem cg_wn {B B' : Nat → Nat} {ln : Nat} (h : ∀ j, j < ln → B j = B' j) : c_wn B ln = c_wn B' ln := by
  funext S; unfold c_wn; rw [cg_tk h]
theorem cg_wt {B B' : Nat → Nat} {ln : Nat} (h : ∀ j, j < ln → B j = B' j) : c_wt B ln = c_wt B' ln := by
  funext lu c I L; unfold c_wt; rw [cg_rN h, cg_rE h, cg_rH h, cg_rF h, cg_rS h, cg_wn h, cg_rM h]
theorem cg_wf {B B' : Nat → Nat} {ln : Nat} (h : ∀ j, j < ln → B j = B' j) : c_wf B ln = c_wf B' ln := by
  funext lu c I L; unfold c_wf; rw [cg_wt h]
theorem cg_wk {B B' : Nat → Nat} {ln : Nat} (h : ∀ j, j < ln → B j = B' j) : c_wk B ln = c_wk B' ln := by
  funext lu S; unfold c_wk; rw [cg_wf h]
