/-! the pieces of a state -/
theorem tS_d {σ : mS} {r : Nat} {τ ρ : Rw} (h : tSt σ r τ ρ) : σ.1 r 0 = Int32.ofNat (ρ 0) := h.1
theorem tS_mi {σ : mS} {r : Nat} {τ ρ : Rw} (h : tSt σ r τ ρ) : σ.1 r 1 = Int32.ofNat (ρ 1) := h.2.1
theorem tS_lf {σ : mS} {r : Nat} {τ ρ : Rw} (h : tSt σ r τ ρ) {l : Nat} (hl : l < τ 0) : σ.1 (r + 1) l = Int32.ofNat (ρ (12 + l)) := h.2.2.1 l hl
theorem tS_la {σ : mS} {r : Nat} {τ ρ : Rw} (h : tSt σ r τ ρ) {p : Nat} (hp : p < 3) : σ.1 (r + 2) p = Int32.ofNat (ρ (24 + p)) := h.2.2.2.1 p hp
theorem tS_lo {σ : mS} {r : Nat} {τ ρ : Rw} (h : tSt σ r τ ρ) {p : Nat} (hp : p < 3) {k : Nat} (hk : k < ρ (24 + p)) : σ.1 (r + 3) (p * 60 + k) = Int32.ofNat (ρ (lo p k)) := h.2.2.2.2.1 p hp k hk
theorem tS_li {σ : mS} {r : Nat} {τ ρ : Rw} (h : tSt σ r τ ρ) {p : Nat} (hp : p < 3) {k : Nat} (hk : k < ρ (24 + p)) {c : Nat} (hc : c < 12) : σ.1 (r + 4) ((p * 60 + k) * 12 + c) = Int32.ofNat (ρ (li p k c)) := h.2.2.2.2.2.1 p hp k hk c hc
theorem tS_hT {σ : mS} {r : Nat} {τ ρ : Rw} (h : tSt σ r τ ρ) {s : Nat} (hs : s < τ 2) : σ.1 (r + 5) s = Int32.ofNat (ρ (27 + s)) := (h.2.2.2.2.2.2.1 s hs).1
theorem tS_hO {σ : mS} {r : Nat} {τ ρ : Rw} (h : tSt σ r τ ρ) {s : Nat} (hs : s < τ 2) : σ.1 (r + 6) s = Int32.ofNat (ρ (35 + s)) := (h.2.2.2.2.2.2.1 s hs).2.1
theorem tS_sa {σ : mS} {r : Nat} {τ ρ : Rw} (h : tSt σ r τ ρ) {s : Nat} (hs : s < τ 2) : σ.1 (r + 7) s = Int32.ofNat (ρ (43 + s)) - 1 := (h.2.2.2.2.2.2.1 s hs).2.2
theorem tS_st {σ : mS} {r : Nat} {τ ρ : Rw} (h : tSt σ r τ ρ) {m : Nat} (hm : m < 2) : σ.1 (r + 8) m = Int32.ofNat (ρ (2 + m)) - 1 := (h.2.2.2.2.2.2.2.1 m hm).1
theorem tS_wk {σ : mS} {r : Nat} {τ ρ : Rw} (h : tSt σ r τ ρ) {m : Nat} (hm : m < 2) : σ.1 (r + 9) m = Int32.ofNat (ρ (4 + m)) := (h.2.2.2.2.2.2.2.1 m hm).2.1
theorem tS_wy {σ : mS} {r : Nat} {τ ρ : Rw} (h : tSt σ r τ ρ) {m : Nat} (hm : m < 2) : σ.1 (r + 10) m = Int32.ofNat (ρ (6 + m)) := (h.2.2.2.2.2.2.2.1 m hm).2.2.1
theorem tS_wt {σ : mS} {r : Nat} {τ ρ : Rw} (h : tSt σ r τ ρ) {m : Nat} (hm : m < 2) : σ.1 (r + 11) m = Int32.ofNat (ρ (8 + m)) := (h.2.2.2.2.2.2.2.1 m hm).2.2.2.1
theorem tS_or {σ : mS} {r : Nat} {τ ρ : Rw} (h : tSt σ r τ ρ) {m : Nat} (hm : m < 2) : σ.1 (r + 12) m = Int32.ofNat (ρ (10 + m)) := (h.2.2.2.2.2.2.2.1 m hm).2.2.2.2
theorem abs_of {a b : Nat} (ha : a < 2147483648) (hb : b < 2147483648) : (if 0 ≤ Int32.ofNat a - Int32.ofNat b then Int32.ofNat a - Int32.ofNat b else 0 - (Int32.ofNat a - Int32.ofNat b)) = Int32.ofNat (dist a b) := by
  unfold dist
  by_cases h : b ≤ a
  · rw [of_sub h, if_pos (show (0 : Int32) ≤ Int32.ofNat (a - b) from (on_le (i := 0) (by omega) (by omega)).mpr (Nat.zero_le _))]
    congr 1; omega
  · have e : Int32.ofNat a - Int32.ofNat b = - Int32.ofNat (b - a) := by rw [← of_sub (by omega : a ≤ b), Int32.neg_sub]
    rw [e]
    have n : ¬ (0 : Int32) ≤ - Int32.ofNat (b - a) := by
      rw [i_le, Int32.toInt_neg, on_int (by omega), show (0 : Int32).toInt = 0 by decide, Int.bmod_eq_of_le (by omega) (by omega)]
      omega
    rw [if_neg n, Int32.zero_sub, Int32.neg_neg]
    congr 1; omega
theorem om_1 {m : Nat} (h : m < 2) : (1 : Int32) - Int32.ofNat m = Int32.ofNat (1 - m) := by
  rw [show (1 : Int32) = Int32.ofNat 1 from rfl]; exact of_sub (by omega)
theorem q12_of {x c : Nat} : Int32.ofNat x * 12 + Int32.ofNat c = Int32.ofNat (x * 12 + c) := by
  rw [show (12 : Int32) = Int32.ofNat 12 from rfl, of_mul, of_add]
theorem hu_of {p c : Nat} : (100 : Int32) * Int32.ofNat p + Int32.ofNat c = Int32.ofNat (100 * p + c) := by
  rw [show (100 : Int32) = Int32.ofNat 100 from rfl, of_mul, of_add]
theorem sP_on {ρ : Rw} {m p : Nat} (hs : ρ (2 + m) < 1000) (hp : p < 1000) : (sP ρ m = Int32.ofNat p) ↔ onAtD ρ m p = true := by
  unfold sP onAtD
  by_cases h : ρ (2 + m) = 0
  · rw [if_pos h]
    constructor
    · intro q; exact absurd q.symm ((on_m1 (by omega)).mp)
    · intro q; exact absurd h (of_decide_eq_true q).1
  · rw [if_neg h, of_inj (by omega) (by omega)]
    constructor
    · intro q; exact decide_eq_true ⟨h, q⟩
    · intro q; exact (of_decide_eq_true q).2
theorem sCe_on {ρ : Rw} {m p : Nat} (h : onAtD ρ m p = true) : sCe ρ m = Int32.ofNat (cellAt ρ m) := if_neg (of_decide_eq_true h).1
theorem cAt_lt {ρ : Rw} {m : Nat} : cellAt ρ m < 100 := Nat.mod_lt _ (by omega)
theorem dist_lt {a b n : Nat} (ha : a < n) (hb : b < n) : dist a b < n := by unfold dist; omega
theorem sGo_st {σ : mS} {r m p c : Nat} {τ ρ : Rw} (hρ : tSt σ r τ ρ) (hb : bRow τ ρ) (hm : m < 2) : tSt (uI (uI σ (r + 9) m (Int32.ofNat (ρ (4 + m) + if onAtD ρ m p then dist (cellAt ρ m) c else 10))) (r + 8) m (Int32.ofNat (100 * p + c))) r τ (sGo ρ m p c) := by
  have n4 : ¬ isSh (4 + m) := by unfold isSh; omega
  have n2 : isSh (2 + m) := by unfold isSh; omega
  refine tSt_w (tSt_w hρ hb (by unfold in0; omega) (lA_wk hm) (tv_0 n4).symm (by omega)) (bRow_c hb (cnt_set (by omega))) (by unfold in0; omega) (lA_st hm) ?_ (by omega)
  rw [tv_1 n2, st_m1 (by omega)]
  rfl
/-- a machine goes -/
theorem g_54 {w : mT} {σ : mS} {r m p c : Nat} {τ ρ : Rw} (hR : isS w r) (hρ : tSt σ r τ ρ) (hb : bRow τ ρ) (hm : m < 2) (hs : ρ (2 + m) < 1000) (hp : p < 1000) (hc : c < 1000) : ∃ σ', frR r (r + 14) σ σ' ∧ tSt σ' r τ (sGo ρ m p c) ∧ ∀ {D : Nat} {K : Hp → Prop}, 2 ≤ D → (wpV D 54 [.ref r, .int (Int32.ofNat m), .int (Int32.ofNat p), .int (Int32.ofNat c)] (mW w σ) K ↔ K (mW w σ')) := by
  refine ⟨_, frR_tr (frR_I (by omega)) (frR_I (by omega)), sGo_st hρ hb hm, fun hD => ?_⟩
  have hR' := hR
  simp only [isS] at hR
  refine cV_of (m := 1) (fun d hd Q hQ => ?_) rfl hD
  have hd1 : 1 ≤ d := by omega
  refine b54_0 ?_
  have e9 := tS_wk hρ hm
  have eb : inB (Int32.ofNat m) 2 = true := on_inB hm (by omega)
  have en := on_nat (i := m) (by omega)
  by_cases h : onAtD ρ m p = true
  · have e1 := (sP_on hs hp).mpr h
    have e2 := sCe_on h
    rw [if_pos h] at hQ
    simp only [↓rF_I, ↓rF_L, ↓rF_R, ↓rF_N, rO_m, rB_m, ↓rI_m, wI_m, ↓rB2_m, ↓rB3_m, wB2_m, wB3_m, ↓rL_m, wL_m, ↓rQ_m, wQ_m, ↓lI_m, pI_m, pL_m, pR_m, sI_m, sBy_m, sBo_m, sL_m, sQ_m, fst_m, true_and, and_true, tg_some, ln_some, uI_1, uI_2, uL_1, uL_2, uL_3, uQ_1, uQ_2, uQ_3, rv_i, rv_l, rv_n, rv_b0, rv_b1, RMR, ne_eq, reduceCtorEq, not_false_eq_true, Option.getD_some, if_true, if_false, and_self, false_and, and_false, Nat.add_left_cancel_iff, Nat.add_eq_left, Nat.left_eq_add, Nat.one_ne_zero, Nat.reduceAdd, Nat.reduceLT, Nat.reduceLeDiff, Nat.reduceEqDiff, true_implies, false_implies, implies_true, Option.some.injEq, forall_eq', forall_eq, reduceCtorEq, brT, brF, br_s, i_10, i_01, ib_0_2, ib_1_2, tn_0, tn_1, Int32.le_refl, eq_self, rv_bN, rv_iM, RCS r, hR, eb, en, e9, g_52 hR' hρ hm hs hd1, g_53 hR' hρ hm hs hd1, e1, e2, abs_of (Nat.lt_trans cAt_lt (by omega : 100 < 2147483648)) (show c < 2147483648 by omega), of_add, hu_of]
    exact hQ
  · have e1 : (sP ρ m = Int32.ofNat p) ↔ False := iff_false_intro (fun q => h ((sP_on hs hp).mp q))
    rw [if_neg h] at hQ
    have e10 : Int32.ofNat (ρ (4 + m)) + 10 = Int32.ofNat (ρ (4 + m) + 10) := of_add
    simp only [↓rF_I, ↓rF_L, ↓rF_R, ↓rF_N, rO_m, rB_m, ↓rI_m, wI_m, ↓rB2_m, ↓rB3_m, wB2_m, wB3_m, ↓rL_m, wL_m, ↓rQ_m, wQ_m, ↓lI_m, pI_m, pL_m, pR_m, sI_m, sBy_m, sBo_m, sL_m, sQ_m, fst_m, true_and, and_true, tg_some, ln_some, uI_1, uI_2, uL_1, uL_2, uL_3, uQ_1, uQ_2, uQ_3, rv_i, rv_l, rv_n, rv_b0, rv_b1, RMR, ne_eq, reduceCtorEq, not_false_eq_true, Option.getD_some, if_true, if_false, and_self, false_and, and_false, Nat.add_left_cancel_iff, Nat.add_eq_left, Nat.left_eq_add, Nat.one_ne_zero, Nat.reduceAdd, Nat.reduceLT, Nat.reduceLeDiff, Nat.reduceEqDiff, true_implies, false_implies, implies_true, Option.some.injEq, forall_eq', forall_eq, reduceCtorEq, brT, brF, br_s, i_10, i_01, ib_0_2, ib_1_2, tn_0, tn_1, Int32.le_refl, eq_self, rv_bN, rv_iM, RCS r, hR, eb, en, e9, g_52 hR' hρ hm hs hd1, e1, e10, hu_of]
    exact hQ
/-- is a cell free of the other machine -/
abbrev frP (τ ρ : Rw) (m p c : Nat) : Prop := ¬ (onAtD ρ (1 - m) p = true ∧ dist (cellAt ρ (1 - m)) c ≤ τ 3)
theorem g_55 {w : mT} {σ : mS} {r t m p c D : Nat} {τ ρ : Rw} {K : Int32 → Hp → Prop} (hR : isS w r) (hT : isT w t) (hρ : tSt σ r τ ρ) (hτ : tTold σ t τ) (hv : vTold τ) (hm : m < 2) (hs : ρ (2 + (1 - m)) < 1000) (hp : p < 1000) (hc : c < 1000) (hD : 2 ≤ D) : wpI D 55 [.ref r, .ref t, .int (Int32.ofNat m), .int (Int32.ofNat p), .int (Int32.ofNat c)] (mW w σ) K ↔ K (iB (frP τ ρ m p c)) (mW w σ) := by
  have hR' := hR
  simp only [isS] at hR
  simp only [isT] at hT
  refine cI_of (m := 1) (fun d hd Q hQ => ?_) rfl hD
  have hd1 : 1 ≤ d := by omega
  refine b55_0 ?_
  have hm2 : 1 - m < 2 := by omega
  have eg := hτ.1
  have v3 := hv.2.2.2.1
  by_cases h : onAtD ρ (1 - m) p = true
  · have e1 := (sP_on hs hp).mpr h
    have e2 := sCe_on h
    have dl : dist (cellAt ρ (1 - m)) c < 1000 := dist_lt (Nat.lt_trans cAt_lt (by omega)) hc
    have ea := abs_of (a := cellAt ρ (1 - m)) (b := c) (Nat.lt_trans cAt_lt (by omega)) (by omega)
    by_cases z : dist (cellAt ρ (1 - m)) c ≤ τ 3
    · rw [iB_f (p := frP τ ρ m p c) (fun q => q ⟨h, z⟩)] at hQ
      have l1 : (Int32.ofNat (dist (cellAt ρ (1 - m)) c) ≤ Int32.ofNat (τ 3)) ↔ True := iff_true_intro ((on_le (by omega) (by omega)).mpr z)
      simp only [↓rF_I, ↓rF_L, ↓rF_R, ↓rF_N, rO_m, rB_m, ↓rI_m, wI_m, ↓rB2_m, ↓rB3_m, wB2_m, wB3_m, ↓rL_m, wL_m, ↓rQ_m, wQ_m, ↓lI_m, pI_m, pL_m, pR_m, sI_m, sBy_m, sBo_m, sL_m, sQ_m, fst_m, true_and, and_true, tg_some, ln_some, uI_1, uI_2, uL_1, uL_2, uL_3, uQ_1, uQ_2, uQ_3, rv_i, rv_l, rv_n, rv_b0, rv_b1, RMR, ne_eq, reduceCtorEq, not_false_eq_true, Option.getD_some, if_true, if_false, and_self, false_and, and_false, Nat.add_left_cancel_iff, Nat.add_eq_left, Nat.left_eq_add, Nat.one_ne_zero, Nat.reduceAdd, Nat.reduceLT, Nat.reduceLeDiff, Nat.reduceEqDiff, true_implies, false_implies, implies_true, Option.some.injEq, forall_eq', forall_eq, reduceCtorEq, brT, brF, br_s, i_10, i_01, ib_0_2, ib_1_2, tn_0, tn_1, Int32.le_refl, eq_self, rv_bN, rv_iM, RCS r, RCT t, hR, hT, om_1 hm, eg, g_52 hR' hρ hm2 hs hd1, g_53 hR' hρ hm2 hs hd1, e1, e2, ea, l1]
      exact hQ
    · rw [iB_t (p := frP τ ρ m p c) (fun q => z q.2)] at hQ
      have l1 : (Int32.ofNat (dist (cellAt ρ (1 - m)) c) ≤ Int32.ofNat (τ 3)) ↔ False := iff_false_intro (fun q => z ((on_le (by omega) (by omega)).mp q))
      simp only [↓rF_I, ↓rF_L, ↓rF_R, ↓rF_N, rO_m, rB_m, ↓rI_m, wI_m, ↓rB2_m, ↓rB3_m, wB2_m, wB3_m, ↓rL_m, wL_m, ↓rQ_m, wQ_m, ↓lI_m, pI_m, pL_m, pR_m, sI_m, sBy_m, sBo_m, sL_m, sQ_m, fst_m, true_and, and_true, tg_some, ln_some, uI_1, uI_2, uL_1, uL_2, uL_3, uQ_1, uQ_2, uQ_3, rv_i, rv_l, rv_n, rv_b0, rv_b1, RMR, ne_eq, reduceCtorEq, not_false_eq_true, Option.getD_some, if_true, if_false, and_self, false_and, and_false, Nat.add_left_cancel_iff, Nat.add_eq_left, Nat.left_eq_add, Nat.one_ne_zero, Nat.reduceAdd, Nat.reduceLT, Nat.reduceLeDiff, Nat.reduceEqDiff, true_implies, false_implies, implies_true, Option.some.injEq, forall_eq', forall_eq, reduceCtorEq, brT, brF, br_s, i_10, i_01, ib_0_2, ib_1_2, tn_0, tn_1, Int32.le_refl, eq_self, rv_bN, rv_iM, RCS r, RCT t, hR, hT, om_1 hm, eg, g_52 hR' hρ hm2 hs hd1, g_53 hR' hρ hm2 hs hd1, e1, e2, ea, l1]
      exact hQ
  · have e1 : (sP ρ (1 - m) = Int32.ofNat p) ↔ False := iff_false_intro (fun q => h ((sP_on hs hp).mp q))
    rw [iB_t (p := frP τ ρ m p c) (fun q => h q.1)] at hQ
    simp only [↓rF_I, ↓rF_L, ↓rF_R, ↓rF_N, rO_m, rB_m, ↓rI_m, wI_m, ↓rB2_m, ↓rB3_m, wB2_m, wB3_m, ↓rL_m, wL_m, ↓rQ_m, wQ_m, ↓lI_m, pI_m, pL_m, pR_m, sI_m, sBy_m, sBo_m, sL_m, sQ_m, fst_m, true_and, and_true, tg_some, ln_some, uI_1, uI_2, uL_1, uL_2, uL_3, uQ_1, uQ_2, uQ_3, rv_i, rv_l, rv_n, rv_b0, rv_b1, RMR, ne_eq, reduceCtorEq, not_false_eq_true, Option.getD_some, if_true, if_false, and_self, false_and, and_false, Nat.add_left_cancel_iff, Nat.add_eq_left, Nat.left_eq_add, Nat.one_ne_zero, Nat.reduceAdd, Nat.reduceLT, Nat.reduceLeDiff, Nat.reduceEqDiff, true_implies, false_implies, implies_true, Option.some.injEq, forall_eq', forall_eq, reduceCtorEq, brT, brF, br_s, i_10, i_01, ib_0_2, ib_1_2, tn_0, tn_1, Int32.le_refl, eq_self, rv_bN, rv_iM, RCS r, hR, om_1 hm, g_52 hR' hρ hm2 hs hd1, e1]
    exact hQ
/-- tonnes times grades on a cell -/
theorem lp_57 {w : mT} {σ : mS} {r t p c d : Nat} {τ ρ : Rw} {Q : Option (Option Value) → Hp → Prop} (hR : isS w r) (hT : isT w t) (hρ : tSt σ r τ ρ) (hτ : tTold σ t τ) (hw : vTold τ) (hv : vRow τ ρ) (hp : p < 3) (hc : c < 12) (hd : 1 ≤ d) (hQ : Q (some (some (.int (Int32.ofNat (gOn τ ρ p c))))) (mW w σ)) : ∀ n i : Nat, i + n = ρ (24 + p) → Wp 57 6 [.ref r, .ref t, .int (Int32.ofNat p), .int (Int32.ofNat c), .int (Int32.ofNat (sm i (fun k => ρ (li p k c) * τ (16 + ρ (lo p k))))), .int (Int32.ofNat i)] [] (mW w σ) Q d := by
  simp only [isS] at hR
  simp only [isT] at hT
  have h60 := vR_la hv p hp
  have e1 := tS_la hρ hp
  have eb : inB (Int32.ofNat p) 3 = true := on_inB hp (by omega)
  have en := on_nat (i := p) (by omega)
  intro n
  induction n with
  | zero =>
    intro i hi
    have hi' : i = ρ (24 + p) := by omega
    subst hi'
    refine b57_6 ?_
    simp only [↓rF_I, ↓rF_L, ↓rF_R, ↓rF_N, rO_m, rB_m, ↓rI_m, wI_m, ↓rB2_m, ↓rB3_m, wB2_m, wB3_m, ↓rL_m, wL_m, ↓rQ_m, wQ_m, ↓lI_m, pI_m, pL_m, pR_m, sI_m, sBy_m, sBo_m, sL_m, sQ_m, fst_m, true_and, and_true, tg_some, ln_some, uI_1, uI_2, uL_1, uL_2, uL_3, uQ_1, uQ_2, uQ_3, rv_i, rv_l, rv_n, rv_b0, rv_b1, RMR, ne_eq, reduceCtorEq, not_false_eq_true, Option.getD_some, if_true, if_false, and_self, false_and, and_false, Nat.add_left_cancel_iff, Nat.add_eq_left, Nat.left_eq_add, Nat.one_ne_zero, Nat.reduceAdd, Nat.reduceLT, Nat.reduceLeDiff, Nat.reduceEqDiff, true_implies, false_implies, implies_true, Option.some.injEq, forall_eq', forall_eq, reduceCtorEq, brT, brF, br_s, i_10, i_01, ib_0_2, ib_1_2, tn_0, tn_1, Int32.le_refl, eq_self, rv_bN, rv_iM, RCS r, hR, eb, en, e1, Int32.le_refl]
    exact hQ
  | succ n ih =>
    intro i hi
    have l1 : ¬ Int32.ofNat (ρ (24 + p)) ≤ Int32.ofNat i := by
      intro q; exact absurd ((on_le (by omega) (by omega)).mp q) (by omega)
    have hi2 : i < ρ (24 + p) := by omega
    have e2 := tS_li hρ hp hi2 hc
    have eb2 : inB (Int32.ofNat ((p * 60 + i) * 12 + c)) 2160 = true := on_inB (by omega) (by omega)
    have en2 := on_nat (i := (p * 60 + i) * 12 + c) (by omega)
    have e3 := tS_lo hρ hp hi2
    have eb3 : inB (Int32.ofNat (p * 60 + i)) 180 = true := on_inB (by omega) (by omega)
    have en3 := on_nat (i := p * 60 + i) (by omega)
    have hl := vR_lo hv p hp i hi2
    have v0 := hw.1
    have e4 := (hτ.2.2.2.2.1 _ hl).2
    have eb4 : inB (Int32.ofNat (ρ (lo p i))) 12 = true := on_inB (by omega) (by omega)
    have en4 := on_nat (i := ρ (lo p i)) (by omega)
    refine b57_6 ?_
    simp only [↓rF_I, ↓rF_L, ↓rF_R, ↓rF_N, rO_m, rB_m, ↓rI_m, wI_m, ↓rB2_m, ↓rB3_m, wB2_m, wB3_m, ↓rL_m, wL_m, ↓rQ_m, wQ_m, ↓lI_m, pI_m, pL_m, pR_m, sI_m, sBy_m, sBo_m, sL_m, sQ_m, fst_m, true_and, and_true, tg_some, ln_some, uI_1, uI_2, uL_1, uL_2, uL_3, uQ_1, uQ_2, uQ_3, rv_i, rv_l, rv_n, rv_b0, rv_b1, RMR, ne_eq, reduceCtorEq, not_false_eq_true, Option.getD_some, if_true, if_false, and_self, false_and, and_false, Nat.add_left_cancel_iff, Nat.add_eq_left, Nat.left_eq_add, Nat.one_ne_zero, Nat.reduceAdd, Nat.reduceLT, Nat.reduceLeDiff, Nat.reduceEqDiff, true_implies, false_implies, implies_true, Option.some.injEq, forall_eq', forall_eq, reduceCtorEq, brT, brF, br_s, i_10, i_01, ib_0_2, ib_1_2, tn_0, tn_1, Int32.le_refl, eq_self, rv_bN, rv_iM, RCS r, RCT t, hR, hT, eb, en, e1, l1, g_51 hd, g_50 hd, q12_of, ro_of, eb2, en2, e2, eb3, en3, e3, eb4, en4, e4, of_mul, of_add, on_succ]
    have e5 : sm i (fun k => ρ (li p k c) * τ (16 + ρ (lo p k))) + ρ (li p i c) * τ (16 + ρ (lo p i)) = sm (i + 1) (fun k => ρ (li p k c) * τ (16 + ρ (lo p k))) := rfl
    rw [e5]
    exact ih (i + 1) (by omega)
theorem g_57 {w : mT} {σ : mS} {r t p c D : Nat} {τ ρ : Rw} {K : Int32 → Hp → Prop} (hR : isS w r) (hT : isT w t) (hρ : tSt σ r τ ρ) (hτ : tTold σ t τ) (hw : vTold τ) (hv : vRow τ ρ) (hp : p < 3) (hc : c < 12) (hD : 2 ≤ D) : wpI D 57 [.ref r, .ref t, .int (Int32.ofNat p), .int (Int32.ofNat c)] (mW w σ) K ↔ K (Int32.ofNat (gOn τ ρ p c)) (mW w σ) :=
  cI_of (m := 1) (fun d hd Q hQ => b57_0 (lp_57 hR hT hρ hτ hw hv hp hc hd hQ (ρ (24 + p)) 0 (Nat.zero_add _))) rfl hD
/-- of a pile -/
theorem lp_58 {w : mT} {σ : mS} {r t p d : Nat} {τ ρ : Rw} {Q : Option (Option Value) → Hp → Prop} (hR : isS w r) (hT : isT w t) (hρ : tSt σ r τ ρ) (hτ : tTold σ t τ) (hw : vTold τ) (hv : vRow τ ρ) (hp : p < τ 1) (hd : 2 ≤ d) (hQ : Q (some (some (.int (Int32.ofNat (tPi τ ρ p))))) (mW w σ)) : ∀ n i : Nat, i + n = τ (28 + p) → Wp 58 5 [.ref r, .ref t, .int (Int32.ofNat p), .int (Int32.ofNat (sm i (tOn ρ p))), .int (Int32.ofNat i)] [] (mW w σ) Q d := by
  have hR' := hR
  simp only [isS] at hR
  simp only [isT] at hT
  have v1 := hw.2.1
  have v2 := (hw.2.2.2.2.2.1 p hp).2
  have hp3 : p < 3 := by omega
  have e1 := hτ.2.2.2.2.2.1 p hp
  have eb : inB (Int32.ofNat p) 3 = true := on_inB hp3 (by omega)
  have en := on_nat (i := p) (by omega)
  intro n
  induction n with
  | zero =>
    intro i hi
    have hi' : i = τ (28 + p) := by omega
    subst hi'
    refine b58_5 ?_
    simp only [↓rF_I, ↓rF_L, ↓rF_R, ↓rF_N, rO_m, rB_m, ↓rI_m, wI_m, ↓rB2_m, ↓rB3_m, wB2_m, wB3_m, ↓rL_m, wL_m, ↓rQ_m, wQ_m, ↓lI_m, pI_m, pL_m, pR_m, sI_m, sBy_m, sBo_m, sL_m, sQ_m, fst_m, true_and, and_true, tg_some, ln_some, uI_1, uI_2, uL_1, uL_2, uL_3, uQ_1, uQ_2, uQ_3, rv_i, rv_l, rv_n, rv_b0, rv_b1, RMR, ne_eq, reduceCtorEq, not_false_eq_true, Option.getD_some, if_true, if_false, and_self, false_and, and_false, Nat.add_left_cancel_iff, Nat.add_eq_left, Nat.left_eq_add, Nat.one_ne_zero, Nat.reduceAdd, Nat.reduceLT, Nat.reduceLeDiff, Nat.reduceEqDiff, true_implies, false_implies, implies_true, Option.some.injEq, forall_eq', forall_eq, reduceCtorEq, brT, brF, br_s, i_10, i_01, ib_0_2, ib_1_2, tn_0, tn_1, Int32.le_refl, eq_self, rv_bN, rv_iM, RCS r, RCT t, hR, hT, eb, en, e1, Int32.le_refl]
    exact hQ
  | succ n ih =>
    intro i hi
    have l1 : ¬ Int32.ofNat (τ (28 + p)) ≤ Int32.ofNat i := by
      intro q; exact absurd ((on_le (by omega) (by omega)).mp q) (by omega)
    refine b58_5 ?_
    simp only [↓rF_I, ↓rF_L, ↓rF_R, ↓rF_N, rO_m, rB_m, ↓rI_m, wI_m, ↓rB2_m, ↓rB3_m, wB2_m, wB3_m, ↓rL_m, wL_m, ↓rQ_m, wQ_m, ↓lI_m, pI_m, pL_m, pR_m, sI_m, sBy_m, sBo_m, sL_m, sQ_m, fst_m, true_and, and_true, tg_some, ln_some, uI_1, uI_2, uL_1, uL_2, uL_3, uQ_1, uQ_2, uQ_3, rv_i, rv_l, rv_n, rv_b0, rv_b1, RMR, ne_eq, reduceCtorEq, not_false_eq_true, Option.getD_some, if_true, if_false, and_self, false_and, and_false, Nat.add_left_cancel_iff, Nat.add_eq_left, Nat.left_eq_add, Nat.one_ne_zero, Nat.reduceAdd, Nat.reduceLT, Nat.reduceLeDiff, Nat.reduceEqDiff, true_implies, false_implies, implies_true, Option.some.injEq, forall_eq', forall_eq, reduceCtorEq, brT, brF, br_s, i_10, i_01, ib_0_2, ib_1_2, tn_0, tn_1, Int32.le_refl, eq_self, rv_bN, rv_iM, RCS r, RCT t, hR, hT, eb, en, e1, l1, g_56 hR' hρ hv hp3 (show i < 12 by omega) hd, of_add, on_succ]
    have e5 : sm i (tOn ρ p) + tOn ρ p i = sm (i + 1) (tOn ρ p) := rfl
    rw [e5]
    exact ih (i + 1) (by omega)
theorem g_58 {w : mT} {σ : mS} {r t p D : Nat} {τ ρ : Rw} {K : Int32 → Hp → Prop} (hR : isS w r) (hT : isT w t) (hρ : tSt σ r τ ρ) (hτ : tTold σ t τ) (hw : vTold τ) (hv : vRow τ ρ) (hp : p < τ 1) (hD : 3 ≤ D) : wpI D 58 [.ref r, .ref t, .int (Int32.ofNat p)] (mW w σ) K ↔ K (Int32.ofNat (tPi τ ρ p)) (mW w σ) :=
  cI_of (m := 2) (fun d hd Q hQ => b58_0 (lp_58 hR hT hρ hτ hw hv hp hd hQ (τ (28 + p)) 0 (Nat.zero_add _))) rfl hD
theorem lp_59 {w : mT} {σ : mS} {r t p d : Nat} {τ ρ : Rw} {Q : Option (Option Value) → Hp → Prop} (hR : isS w r) (hT : isT w t) (hρ : tSt σ r τ ρ) (hτ : tTold σ t τ) (hw : vTold τ) (hv : vRow τ ρ) (hp : p < τ 1) (hd : 2 ≤ d) (hQ : Q (some (some (.int (Int32.ofNat (gPi τ ρ p))))) (mW w σ)) : ∀ n i : Nat, i + n = τ (28 + p) → Wp 59 5 [.ref r, .ref t, .int (Int32.ofNat p), .int (Int32.ofNat (sm i (gOn τ ρ p))), .int (Int32.ofNat i)] [] (mW w σ) Q d := by
  have hR' := hR
  have hT' := hT
  simp only [isS] at hR
  simp only [isT] at hT
  have v1 := hw.2.1
  have v2 := (hw.2.2.2.2.2.1 p hp).2
  have hp3 : p < 3 := by omega
  have e1 := hτ.2.2.2.2.2.1 p hp
  have eb : inB (Int32.ofNat p) 3 = true := on_inB hp3 (by omega)
  have en := on_nat (i := p) (by omega)
  intro n
  induction n with
  | zero =>
    intro i hi
    have hi' : i = τ (28 + p) := by omega
    subst hi'
    refine b59_5 ?_
    simp only [↓rF_I, ↓rF_L, ↓rF_R, ↓rF_N, rO_m, rB_m, ↓rI_m, wI_m, ↓rB2_m, ↓rB3_m, wB2_m, wB3_m, ↓rL_m, wL_m, ↓rQ_m, wQ_m, ↓lI_m, pI_m, pL_m, pR_m, sI_m, sBy_m, sBo_m, sL_m, sQ_m, fst_m, true_and, and_true, tg_some, ln_some, uI_1, uI_2, uL_1, uL_2, uL_3, uQ_1, uQ_2, uQ_3, rv_i, rv_l, rv_n, rv_b0, rv_b1, RMR, ne_eq, reduceCtorEq, not_false_eq_true, Option.getD_some, if_true, if_false, and_self, false_and, and_false, Nat.add_left_cancel_iff, Nat.add_eq_left, Nat.left_eq_add, Nat.one_ne_zero, Nat.reduceAdd, Nat.reduceLT, Nat.reduceLeDiff, Nat.reduceEqDiff, true_implies, false_implies, implies_true, Option.some.injEq, forall_eq', forall_eq, reduceCtorEq, brT, brF, br_s, i_10, i_01, ib_0_2, ib_1_2, tn_0, tn_1, Int32.le_refl, eq_self, rv_bN, rv_iM, RCS r, RCT t, hR, hT, eb, en, e1, Int32.le_refl]
    exact hQ
  | succ n ih =>
    intro i hi
    have l1 : ¬ Int32.ofNat (τ (28 + p)) ≤ Int32.ofNat i := by
      intro q; exact absurd ((on_le (by omega) (by omega)).mp q) (by omega)
    refine b59_5 ?_
    simp only [↓rF_I, ↓rF_L, ↓rF_R, ↓rF_N, rO_m, rB_m, ↓rI_m, wI_m, ↓rB2_m, ↓rB3_m, wB2_m, wB3_m, ↓rL_m, wL_m, ↓rQ_m, wQ_m, ↓lI_m, pI_m, pL_m, pR_m, sI_m, sBy_m, sBo_m, sL_m, sQ_m, fst_m, true_and, and_true, tg_some, ln_some, uI_1, uI_2, uL_1, uL_2, uL_3, uQ_1, uQ_2, uQ_3, rv_i, rv_l, rv_n, rv_b0, rv_b1, RMR, ne_eq, reduceCtorEq, not_false_eq_true, Option.getD_some, if_true, if_false, and_self, false_and, and_false, Nat.add_left_cancel_iff, Nat.add_eq_left, Nat.left_eq_add, Nat.one_ne_zero, Nat.reduceAdd, Nat.reduceLT, Nat.reduceLeDiff, Nat.reduceEqDiff, true_implies, false_implies, implies_true, Option.some.injEq, forall_eq', forall_eq, reduceCtorEq, brT, brF, br_s, i_10, i_01, ib_0_2, ib_1_2, tn_0, tn_1, Int32.le_refl, eq_self, rv_bN, rv_iM, RCS r, RCT t, hR, hT, eb, en, e1, l1, g_57 hR' hT' hρ hτ hw hv hp3 (show i < 12 by omega) hd, of_add, on_succ]
    have e5 : sm i (gOn τ ρ p) + gOn τ ρ p i = sm (i + 1) (gOn τ ρ p) := rfl
    rw [e5]
    exact ih (i + 1) (by omega)
theorem g_59 {w : mT} {σ : mS} {r t p D : Nat} {τ ρ : Rw} {K : Int32 → Hp → Prop} (hR : isS w r) (hT : isT w t) (hρ : tSt σ r τ ρ) (hτ : tTold σ t τ) (hw : vTold τ) (hv : vRow τ ρ) (hp : p < τ 1) (hD : 3 ≤ D) : wpI D 59 [.ref r, .ref t, .int (Int32.ofNat p)] (mW w σ) K ↔ K (Int32.ofNat (gPi τ ρ p)) (mW w σ) :=
  cI_of (m := 2) (fun d hd Q hQ => b59_0 (lp_59 hR hT hρ hτ hw hv hp hd hQ (τ (28 + p)) 0 (Nat.zero_add _))) rfl hD
/-- tonnes are laid -/
theorem cv_eq {σ : mS} {r j A J : Nat} {v : Int32} (hl : locA j = A ∧ locJ j = J) : cv (uI σ (r + A) J v) r j = v := by
  unfold cv
  rw [hl.1, hl.2, uI_1, if_pos ⟨rfl, rfl⟩]
theorem cv_ne {σ : mS} {r j j0 A J : Nat} {v : Int32} (hl : locA j0 = A ∧ locJ j0 = J) (hj : in0 j) (h0 : in0 j0) (hn : j ≠ j0) : cv (uI σ (r + A) J v) r j = cv σ r j := by
  unfold cv
  rw [uI_1]
  refine if_neg (fun q => hn (loc_inj hj h0 ?_ ?_))
  · rw [hl.1]; omega
  · rw [hl.2]; exact q.2
theorem cv_nA {σ : mS} {r j A J : Nat} {v : Int32} (h : locA j ≠ A ∨ locJ j ≠ J) : cv (uI σ (r + A) J v) r j = cv σ r j := by
  unfold cv
  rw [uI_1]
  exact if_neg (fun q => by rcases h with h | h <;> omega)
theorem cv_Ge {σ : mS} {r j A : Nat} {f : Nat → Int32} (hl : locA j = A) : cv (uG σ (r + A) f) r j = f (locJ j) := by
  unfold cv
  rw [hl, uG_1, if_pos rfl]
theorem cv_Gn {σ : mS} {r j A : Nat} {f : Nat → Int32} (hl : locA j ≠ A) : cv (uG σ (r + A) f) r j = cv σ r j := by
  unfold cv
  rw [uG_1]
  exact if_neg (by omega)
theorem lA_lip {p k c : Nat} : locA (li p k c) = 4 ∧ locJ (li p k c) = (p * 60 + k) * 12 + c := by
  obtain ⟨a, b⟩ := lA_li (j := (60 * p + k) * 12 + c)
  exact ⟨a, by rw [show li p k c = 311 + ((60 * p + k) * 12 + c) from rfl, b]; omega⟩
theorem lA_lop {p k : Nat} (hp : p < 3) (hk : k < 60) : locA (lo p k) = 3 ∧ locJ (lo p k) = p * 60 + k := by
  obtain ⟨a, b⟩ := lA_lo (j := 60 * p + k) (by omega)
  exact ⟨a, by rw [show lo p k = 131 + (60 * p + k) from rfl, b]; omega⟩
theorem in_li {p k c : Nat} (hp : p < 3) (hk : k < 60) (hc : c < 12) : in0 (li p k c) := by unfold in0 li; omega
theorem in_lo {p k : Nat} (hp : p < 3) (hk : k < 60) : in0 (lo p k) := by unfold in0 lo; omega
theorem g_61 {w : mT} {σ : mS} {r p k c t : Nat} {τ ρ : Rw} (hR : isS w r) (hρ : tSt σ r τ ρ) (hw : vTold τ) (hv : vRow τ ρ) (hp : p < 3) (hk : k < ρ (24 + p)) (hc : c < 12) (ht : t ≤ ρ (12 + ρ (lo p k))) : ∃ σ', frR r (r + 14) σ σ' ∧ tSt σ' r τ (sPour ρ p k c t) ∧ ∀ {D : Nat} {K : Hp → Prop}, 2 ≤ D → (wpV D 61 [.ref r, .int (Int32.ofNat p), .int (Int32.ofNat k), .int (Int32.ofNat c), .int (Int32.ofNat t)] (mW w σ) K ↔ K (mW w σ')) := by
  have h60 := vR_la hv p hp
  have hl := vR_lo hv p hp k hk
  have v0 := hw.1
  have hb := vRow_b hw hv
  refine ⟨uI (uI σ (r + 4) ((p * 60 + k) * 12 + c) (Int32.ofNat (ρ (li p k c) + t))) (r + 1) (ρ (lo p k)) (Int32.ofNat (ρ (12 + ρ (lo p k)) - t)), frR_tr (frR_I (by omega)) (frR_I (by omega)), ?_, fun hD => ?_⟩
  · refine tSt_w (tSt_w hρ hb (in_li hp (by omega) hc) lA_lip (tv_0 (by unfold isSh li; omega)).symm (by unfold li; omega)) (bRow_c hb (cnt_set (by unfold li; omega))) (by unfold in0; omega) (lA_lf (by omega)) (tv_0 (by unfold isSh; omega)).symm (by omega)
  · simp only [isS] at hR
    refine cV_of (m := 1) (fun d hd Q hQ => ?_) rfl hD
    have hd1 : 1 ≤ d := by omega
    refine b61_0 ?_
    have e2 := tS_li hρ hp hk hc
    have eb2 : inB (Int32.ofNat ((p * 60 + k) * 12 + c)) 2160 = true := on_inB (by omega) (by omega)
    have en2 := on_nat (i := (p * 60 + k) * 12 + c) (by omega)
    have e3 := tS_lo hρ hp hk
    have eb3 : inB (Int32.ofNat (p * 60 + k)) 180 = true := on_inB (by omega) (by omega)
    have en3 := on_nat (i := p * 60 + k) (by omega)
    have e4 := tS_lf hρ hl
    have eb4 : inB (Int32.ofNat (ρ (lo p k))) 12 = true := on_inB (by omega) (by omega)
    have en4 := on_nat (i := ρ (lo p k)) (by omega)
    simp only [↓rF_I, ↓rF_L, ↓rF_R, ↓rF_N, rO_m, rB_m, ↓rI_m, wI_m, ↓rB2_m, ↓rB3_m, wB2_m, wB3_m, ↓rL_m, wL_m, ↓rQ_m, wQ_m, ↓lI_m, pI_m, pL_m, pR_m, sI_m, sBy_m, sBo_m, sL_m, sQ_m, fst_m, true_and, and_true, tg_some, ln_some, uI_1, uI_2, uL_1, uL_2, uL_3, uQ_1, uQ_2, uQ_3, rv_i, rv_l, rv_n, rv_b0, rv_b1, RMR, ne_eq, reduceCtorEq, not_false_eq_true, Option.getD_some, if_true, if_false, and_self, false_and, and_false, Nat.add_left_cancel_iff, Nat.add_eq_left, Nat.left_eq_add, Nat.one_ne_zero, Nat.reduceAdd, Nat.reduceLT, Nat.reduceLeDiff, Nat.reduceEqDiff, true_implies, false_implies, implies_true, Option.some.injEq, forall_eq', forall_eq, reduceCtorEq, brT, brF, br_s, i_10, i_01, ib_0_2, ib_1_2, tn_0, tn_1, Int32.le_refl, eq_self, rv_bN, rv_iM, RCS r, hR, g_51 hd1, g_50 hd1, q12_of, ro_of, eb2, en2, e2, eb3, en3, e3, eb4, en4, e4, of_add, of_sub ht]
    exact hQ
/-- does a ship take more -/
abbrev tkP (τ ρ : Rw) (s : Nat) : Prop := ρ (43 + s) = 0 ∧ ρ (27 + s) < τ (31 + 6 * s)
theorem hold_lt {τ ρ : Rw} {s : Nat} (hv : vRow τ ρ) (hs : s < τ 2) : ρ (27 + s) ≤ 119988 := by
  have a := vR_all hv
  have b := sm_one (f := fun s => ρ (27 + s)) hs
  unfold allT at a
  omega
theorem left_lt {τ ρ : Rw} {l : Nat} (hv : vRow τ ρ) (hl : l < τ 0) : ρ (12 + l) ≤ 119988 := by
  have a := vR_all hv
  have b := sm_one (f := fun l => ρ (12 + l)) hl
  unfold allT at a
  omega
theorem tOn_lt {τ ρ : Rw} {p c : Nat} (hv : vRow τ ρ) (hp : p < 3) (hc : c < 12) : tOn ρ p c ≤ 119988 := by
  have a := vR_all hv
  have b := sm_one (f := fun p => sm 12 (fun c => tOn ρ p c)) hp
  have b2 := sm_one (f := fun c => tOn ρ p c) hc
  unfold allT at a
  omega
theorem g_62 {w : mT} {σ : mS} {r t s D : Nat} {τ ρ : Rw} {K : Int32 → Hp → Prop} (hR : isS w r) (hT : isT w t) (hρ : tSt σ r τ ρ) (hτ : tTold σ t τ) (hw : vTold τ) (hv : vRow τ ρ) (hs : s < τ 2) (hD : 1 ≤ D) : wpI D 62 [.ref r, .ref t, .int (Int32.ofNat s)] (mW w σ) K ↔ K (iB (tkP τ ρ s)) (mW w σ) := by
  simp only [isS] at hR
  simp only [isT] at hT
  refine cI_of (m := 0) (fun d hd Q hQ => ?_) rfl hD
  refine b62_0 ?_
  have v2 := hw.2.2.1
  have eb : inB (Int32.ofNat s) 8 = true := on_inB (by omega) (by omega)
  have en := on_nat (i := s) (by omega)
  have e1 := tS_sa hρ hs
  have e2 := tS_hT hρ hs
  have e3 := (hτ.2.2.2.2.2.2 s hs).1
  have b1 := hold_lt hv hs
  have b2 := (hw.2.2.2.2.2.2 s hs).1.2
  have b3 := vR_sa hv s hs
  by_cases h : ρ (43 + s) = 0
  · have e1' : σ.1 (r + 7) s = -1 := by rw [e1, h]; decide
    by_cases z : ρ (27 + s) < τ (31 + 6 * s)
    · rw [iB_t ⟨h, z⟩] at hQ
      have l1 : (Int32.ofNat (τ (31 + 6 * s)) ≤ Int32.ofNat (ρ (27 + s))) ↔ False := iff_false_intro (fun q => absurd ((on_le (by omega) (by omega)).mp q) (by omega))
      simp only [↓rF_I, ↓rF_L, ↓rF_R, ↓rF_N, rO_m, rB_m, ↓rI_m, wI_m, ↓rB2_m, ↓rB3_m, wB2_m, wB3_m, ↓rL_m, wL_m, ↓rQ_m, wQ_m, ↓lI_m, pI_m, pL_m, pR_m, sI_m, sBy_m, sBo_m, sL_m, sQ_m, fst_m, true_and, and_true, tg_some, ln_some, uI_1, uI_2, uL_1, uL_2, uL_3, uQ_1, uQ_2, uQ_3, rv_i, rv_l, rv_n, rv_b0, rv_b1, RMR, ne_eq, reduceCtorEq, not_false_eq_true, Option.getD_some, if_true, if_false, and_self, false_and, and_false, Nat.add_left_cancel_iff, Nat.add_eq_left, Nat.left_eq_add, Nat.one_ne_zero, Nat.reduceAdd, Nat.reduceLT, Nat.reduceLeDiff, Nat.reduceEqDiff, true_implies, false_implies, implies_true, Option.some.injEq, forall_eq', forall_eq, reduceCtorEq, brT, brF, br_s, i_10, i_01, ib_0_2, ib_1_2, tn_0, tn_1, Int32.le_refl, eq_self, rv_bN, rv_iM, RCS r, RCT t, hR, hT, eb, en, e1', e2, e3, l1]
      exact hQ
    · rw [iB_f (fun q => z q.2)] at hQ
      have l1 : (Int32.ofNat (τ (31 + 6 * s)) ≤ Int32.ofNat (ρ (27 + s))) ↔ True := iff_true_intro ((on_le (by omega) (by omega)).mpr (by omega))
      simp only [↓rF_I, ↓rF_L, ↓rF_R, ↓rF_N, rO_m, rB_m, ↓rI_m, wI_m, ↓rB2_m, ↓rB3_m, wB2_m, wB3_m, ↓rL_m, wL_m, ↓rQ_m, wQ_m, ↓lI_m, pI_m, pL_m, pR_m, sI_m, sBy_m, sBo_m, sL_m, sQ_m, fst_m, true_and, and_true, tg_some, ln_some, uI_1, uI_2, uL_1, uL_2, uL_3, uQ_1, uQ_2, uQ_3, rv_i, rv_l, rv_n, rv_b0, rv_b1, RMR, ne_eq, reduceCtorEq, not_false_eq_true, Option.getD_some, if_true, if_false, and_self, false_and, and_false, Nat.add_left_cancel_iff, Nat.add_eq_left, Nat.left_eq_add, Nat.one_ne_zero, Nat.reduceAdd, Nat.reduceLT, Nat.reduceLeDiff, Nat.reduceEqDiff, true_implies, false_implies, implies_true, Option.some.injEq, forall_eq', forall_eq, reduceCtorEq, brT, brF, br_s, i_10, i_01, ib_0_2, ib_1_2, tn_0, tn_1, Int32.le_refl, eq_self, rv_bN, rv_iM, RCS r, RCT t, hR, hT, eb, en, e1', e2, e3, l1]
      exact hQ
  · have e1' : (Int32.ofNat (ρ (43 + s)) - 1 = -1) ↔ False := iff_false_intro (fun q => h ((of_m1 (by omega)).mp q))
    rw [iB_f (fun q => h q.1)] at hQ
    simp only [↓rF_I, ↓rF_L, ↓rF_R, ↓rF_N, rO_m, rB_m, ↓rI_m, wI_m, ↓rB2_m, ↓rB3_m, wB2_m, wB3_m, ↓rL_m, wL_m, ↓rQ_m, wQ_m, ↓lI_m, pI_m, pL_m, pR_m, sI_m, sBy_m, sBo_m, sL_m, sQ_m, fst_m, true_and, and_true, tg_some, ln_some, uI_1, uI_2, uL_1, uL_2, uL_3, uQ_1, uQ_2, uQ_3, rv_i, rv_l, rv_n, rv_b0, rv_b1, RMR, ne_eq, reduceCtorEq, not_false_eq_true, Option.getD_some, if_true, if_false, and_self, false_and, and_false, Nat.add_left_cancel_iff, Nat.add_eq_left, Nat.left_eq_add, Nat.one_ne_zero, Nat.reduceAdd, Nat.reduceLT, Nat.reduceLeDiff, Nat.reduceEqDiff, true_implies, false_implies, implies_true, Option.some.injEq, forall_eq', forall_eq, reduceCtorEq, brT, brF, br_s, i_10, i_01, ib_0_2, ib_1_2, tn_0, tn_1, Int32.le_refl, eq_self, rv_bN, rv_iM, RCS r, RCT t, hR, hT, eb, en, e1, e1']
    exact hQ
theorem of_pos {a : Nat} (h : a < 2147483648) : ((0 : Int32) < Int32.ofNat a) ↔ 0 < a := on_lt (i := 0) (by omega) h
theorem of_le0 {a : Nat} (h : a < 2147483648) : (Int32.ofNat a ≤ (0 : Int32)) ↔ a = 0 := by
  rw [show (0 : Int32) = Int32.ofNat 0 from rfl, on_le h (by omega)]; omega
theorem of_eq0 {a : Nat} (h : a < 2147483648) : (Int32.ofNat a = (0 : Int32)) ↔ a = 0 := by
  rw [show (0 : Int32) = Int32.ofNat 0 from rfl]; exact of_inj h (by omega)
theorem g_64 {w : mT} {σ : mS} {r D : Nat} {τ ρ : Rw} {K : Int32 → Hp → Prop} (hR : isS w r) (hρ : tSt σ r τ ρ) (hb : bRow τ ρ) (hD : 1 ≤ D) : wpI D 64 [.ref r] (mW w σ) K ↔ K (iB (0 < ρ 10 ∨ 0 < ρ 11)) (mW w σ) := by
  simp only [isS] at hR
  refine cI_of (m := 0) (fun d hd Q hQ => ?_) rfl hD
  refine b64_0 ?_
  have e0 : σ.1 (r + 12) 0 = Int32.ofNat (ρ 10) := tS_or hρ (by omega : 0 < 2)
  have e1 : σ.1 (r + 12) 1 = Int32.ofNat (ρ 11) := tS_or hρ (by omega : 1 < 2)
  have b0 := hb.2.2.1
  have b1 := hb.2.2.2.1
  by_cases h : 0 < ρ 10
  · rw [iB_t (Or.inl h)] at hQ
    have l0 := iff_true_intro ((of_pos (by omega)).mpr h)
    simp only [↓rF_I, ↓rF_L, ↓rF_R, ↓rF_N, rO_m, rB_m, ↓rI_m, wI_m, ↓rB2_m, ↓rB3_m, wB2_m, wB3_m, ↓rL_m, wL_m, ↓rQ_m, wQ_m, ↓lI_m, pI_m, pL_m, pR_m, sI_m, sBy_m, sBo_m, sL_m, sQ_m, fst_m, true_and, and_true, tg_some, ln_some, uI_1, uI_2, uL_1, uL_2, uL_3, uQ_1, uQ_2, uQ_3, rv_i, rv_l, rv_n, rv_b0, rv_b1, RMR, ne_eq, reduceCtorEq, not_false_eq_true, Option.getD_some, if_true, if_false, and_self, false_and, and_false, Nat.add_left_cancel_iff, Nat.add_eq_left, Nat.left_eq_add, Nat.one_ne_zero, Nat.reduceAdd, Nat.reduceLT, Nat.reduceLeDiff, Nat.reduceEqDiff, true_implies, false_implies, implies_true, Option.some.injEq, forall_eq', forall_eq, reduceCtorEq, brT, brF, br_s, i_10, i_01, ib_0_2, ib_1_2, tn_0, tn_1, Int32.le_refl, eq_self, rv_bN, rv_iM, RCS r, hR, e0, l0]
    exact hQ
  · have l0 := iff_false_intro (fun q => h ((of_pos (by omega)).mp q))
    by_cases z : 0 < ρ 11
    · rw [iB_t (Or.inr z)] at hQ
      have l1 : (Int32.ofNat (ρ 11) ≤ (0 : Int32)) ↔ False := iff_false_intro (fun q => absurd ((of_le0 (by omega)).mp q) (by omega))
      simp only [↓rF_I, ↓rF_L, ↓rF_R, ↓rF_N, rO_m, rB_m, ↓rI_m, wI_m, ↓rB2_m, ↓rB3_m, wB2_m, wB3_m, ↓rL_m, wL_m, ↓rQ_m, wQ_m, ↓lI_m, pI_m, pL_m, pR_m, sI_m, sBy_m, sBo_m, sL_m, sQ_m, fst_m, true_and, and_true, tg_some, ln_some, uI_1, uI_2, uL_1, uL_2, uL_3, uQ_1, uQ_2, uQ_3, rv_i, rv_l, rv_n, rv_b0, rv_b1, RMR, ne_eq, reduceCtorEq, not_false_eq_true, Option.getD_some, if_true, if_false, and_self, false_and, and_false, Nat.add_left_cancel_iff, Nat.add_eq_left, Nat.left_eq_add, Nat.one_ne_zero, Nat.reduceAdd, Nat.reduceLT, Nat.reduceLeDiff, Nat.reduceEqDiff, true_implies, false_implies, implies_true, Option.some.injEq, forall_eq', forall_eq, reduceCtorEq, brT, brF, br_s, i_10, i_01, ib_0_2, ib_1_2, tn_0, tn_1, Int32.le_refl, eq_self, rv_bN, rv_iM, RCS r, hR, e0, e1, l0, l1]
      exact hQ
    · rw [iB_f (fun q => q.elim h z)] at hQ
      have l1 : (Int32.ofNat (ρ 11) ≤ (0 : Int32)) ↔ True := iff_true_intro ((of_le0 (by omega)).mpr (by omega))
      simp only [↓rF_I, ↓rF_L, ↓rF_R, ↓rF_N, rO_m, rB_m, ↓rI_m, wI_m, ↓rB2_m, ↓rB3_m, wB2_m, wB3_m, ↓rL_m, wL_m, ↓rQ_m, wQ_m, ↓lI_m, pI_m, pL_m, pR_m, sI_m, sBy_m, sBo_m, sL_m, sQ_m, fst_m, true_and, and_true, tg_some, ln_some, uI_1, uI_2, uL_1, uL_2, uL_3, uQ_1, uQ_2, uQ_3, rv_i, rv_l, rv_n, rv_b0, rv_b1, RMR, ne_eq, reduceCtorEq, not_false_eq_true, Option.getD_some, if_true, if_false, and_self, false_and, and_false, Nat.add_left_cancel_iff, Nat.add_eq_left, Nat.left_eq_add, Nat.one_ne_zero, Nat.reduceAdd, Nat.reduceLT, Nat.reduceLeDiff, Nat.reduceEqDiff, true_implies, false_implies, implies_true, Option.some.injEq, forall_eq', forall_eq, reduceCtorEq, brT, brF, br_s, i_10, i_01, ib_0_2, ib_1_2, tn_0, tn_1, Int32.le_refl, eq_self, rv_bN, rv_iM, RCS r, hR, e0, e1, l0, l1]
      exact hQ
theorem g_65 {w : mT} {σ : mS} {a0 : Int32} {D : Nat} {K : Int32 → Hp → Prop} (hD : 1 ≤ D) : wpI D 65 [.int a0] (mW w σ) K ↔ K ((a0 * 8) * 6) (mW w σ) :=
  cI_of (m := 0) (fun d hd Q hQ => b65_0 ⟨rfl, hQ⟩) rfl hD
/-- within a ship's bounds -/
abbrev wiP (τ : Rw) (s T O : Nat) : Prop := τ (31 + 6 * s + 1) * T ≤ O ∧ O ≤ τ (31 + 6 * s + 2) * T
theorem g_74 {w : mT} {σ : mS} {t s T O D : Nat} {τ : Rw} {K : Int32 → Hp → Prop} (hT : isT w t) (hτ : tTold σ t τ) (hw : vTold τ) (hs : s < τ 2) (hTl : T ≤ 2000000) (hO : O < 2147483648) (hD : 1 ≤ D) : wpI D 74 [.ref t, .int (Int32.ofNat s), .int (Int32.ofNat T), .int (Int32.ofNat O)] (mW w σ) K ↔ K (iB (wiP τ s T O)) (mW w σ) := by
  simp only [isT] at hT
  refine cI_of (m := 0) (fun d hd Q hQ => ?_) rfl hD
  refine b74_0 ?_
  have v2 := hw.2.2.1
  have eb : inB (Int32.ofNat s) 8 = true := on_inB (by omega) (by omega)
  have en := on_nat (i := s) (by omega)
  have e1 := (hτ.2.2.2.2.2.2 s hs).2.1
  have e2 := (hτ.2.2.2.2.2.2 s hs).2.2.1
  have b1 := (hw.2.2.2.2.2.2 s hs).2.1
  have b2 := (hw.2.2.2.2.2.2 s hs).2.2.1
  have m1 : τ (31 + 6 * s + 1) * T ≤ 999 * 2000000 := Nat.mul_le_mul b1 hTl
  have m2 : τ (31 + 6 * s + 2) * T ≤ 999 * 2000000 := Nat.mul_le_mul b2 hTl
  by_cases h : τ (31 + 6 * s + 1) * T ≤ O
  · have l1 : (Int32.ofNat O < Int32.ofNat (τ (31 + 6 * s + 1) * T)) ↔ False := iff_false_intro (fun q => absurd ((on_lt (by omega) (by omega)).mp q) (by omega))
    by_cases z : O ≤ τ (31 + 6 * s + 2) * T
    · rw [iB_t ⟨h, z⟩] at hQ
      have l2 : (Int32.ofNat (τ (31 + 6 * s + 2) * T) < Int32.ofNat O) ↔ False := iff_false_intro (fun q => absurd ((on_lt (by omega) (by omega)).mp q) (by omega))
      simp only [↓rF_I, ↓rF_L, ↓rF_R, ↓rF_N, rO_m, rB_m, ↓rI_m, wI_m, ↓rB2_m, ↓rB3_m, wB2_m, wB3_m, ↓rL_m, wL_m, ↓rQ_m, wQ_m, ↓lI_m, pI_m, pL_m, pR_m, sI_m, sBy_m, sBo_m, sL_m, sQ_m, fst_m, true_and, and_true, tg_some, ln_some, uI_1, uI_2, uL_1, uL_2, uL_3, uQ_1, uQ_2, uQ_3, rv_i, rv_l, rv_n, rv_b0, rv_b1, RMR, ne_eq, reduceCtorEq, not_false_eq_true, Option.getD_some, if_true, if_false, and_self, false_and, and_false, Nat.add_left_cancel_iff, Nat.add_eq_left, Nat.left_eq_add, Nat.one_ne_zero, Nat.reduceAdd, Nat.reduceLT, Nat.reduceLeDiff, Nat.reduceEqDiff, true_implies, false_implies, implies_true, Option.some.injEq, forall_eq', forall_eq, reduceCtorEq, brT, brF, br_s, i_10, i_01, ib_0_2, ib_1_2, tn_0, tn_1, Int32.le_refl, eq_self, rv_bN, rv_iM, RCT t, hT, eb, en, e1, e2, of_mul, l1, l2]
      exact hQ
    · rw [iB_f (fun q => z q.2)] at hQ
      have l2 : (Int32.ofNat (τ (31 + 6 * s + 2) * T) < Int32.ofNat O) ↔ True := iff_true_intro ((on_lt (by omega) (by omega)).mpr (by omega))
      simp only [↓rF_I, ↓rF_L, ↓rF_R, ↓rF_N, rO_m, rB_m, ↓rI_m, wI_m, ↓rB2_m, ↓rB3_m, wB2_m, wB3_m, ↓rL_m, wL_m, ↓rQ_m, wQ_m, ↓lI_m, pI_m, pL_m, pR_m, sI_m, sBy_m, sBo_m, sL_m, sQ_m, fst_m, true_and, and_true, tg_some, ln_some, uI_1, uI_2, uL_1, uL_2, uL_3, uQ_1, uQ_2, uQ_3, rv_i, rv_l, rv_n, rv_b0, rv_b1, RMR, ne_eq, reduceCtorEq, not_false_eq_true, Option.getD_some, if_true, if_false, and_self, false_and, and_false, Nat.add_left_cancel_iff, Nat.add_eq_left, Nat.left_eq_add, Nat.one_ne_zero, Nat.reduceAdd, Nat.reduceLT, Nat.reduceLeDiff, Nat.reduceEqDiff, true_implies, false_implies, implies_true, Option.some.injEq, forall_eq', forall_eq, reduceCtorEq, brT, brF, br_s, i_10, i_01, ib_0_2, ib_1_2, tn_0, tn_1, Int32.le_refl, eq_self, rv_bN, rv_iM, RCT t, hT, eb, en, e1, e2, of_mul, l1, l2]
      exact hQ
  · rw [iB_f (fun q => h q.1)] at hQ
    have l1 : (Int32.ofNat O < Int32.ofNat (τ (31 + 6 * s + 1) * T)) ↔ True := iff_true_intro ((on_lt (by omega) (by omega)).mpr (by omega))
    simp only [↓rF_I, ↓rF_L, ↓rF_R, ↓rF_N, rO_m, rB_m, ↓rI_m, wI_m, ↓rB2_m, ↓rB3_m, wB2_m, wB3_m, ↓rL_m, wL_m, ↓rQ_m, wQ_m, ↓lI_m, pI_m, pL_m, pR_m, sI_m, sBy_m, sBo_m, sL_m, sQ_m, fst_m, true_and, and_true, tg_some, ln_some, uI_1, uI_2, uL_1, uL_2, uL_3, uQ_1, uQ_2, uQ_3, rv_i, rv_l, rv_n, rv_b0, rv_b1, RMR, ne_eq, reduceCtorEq, not_false_eq_true, Option.getD_some, if_true, if_false, and_self, false_and, and_false, Nat.add_left_cancel_iff, Nat.add_eq_left, Nat.left_eq_add, Nat.one_ne_zero, Nat.reduceAdd, Nat.reduceLT, Nat.reduceLeDiff, Nat.reduceEqDiff, true_implies, false_implies, implies_true, Option.some.injEq, forall_eq', forall_eq, reduceCtorEq, brT, brF, br_s, i_10, i_01, ib_0_2, ib_1_2, tn_0, tn_1, Int32.le_refl, eq_self, rv_bN, rv_iM, RCT t, hT, eb, en, e1, e2, of_mul, l1]
    exact hQ
