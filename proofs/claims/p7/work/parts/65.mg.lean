/-! the model: a machine's step -/
def shK (R : Rw) (b e n : Nat) : Rw := fun j => if b ≤ j ∧ j < b + n then R (j + e) else R j
theorem shK_s {R : Rw} {b e n : Nat} (j : Nat) : rSet (shK R b e n) (b + n) (R (b + e + n)) j = shK R b e (n + 1) j := by
  unfold shK
  rw [rSet_1]
  by_cases c : j = b + n
  · rw [if_pos c, if_pos (by omega), c, show b + n + e = b + e + n by omega]
  · rw [if_neg c]
    by_cases y : b ≤ j ∧ j < b + n
    · rw [if_pos y, if_pos (by omega)]
    · rw [if_neg y, if_neg (by omega)]
theorem shK_e {R : Rw} {b e n : Nat} : shK R b e n (b + e + n) = R (b + e + n) ∨ e = 0 := by
  by_cases z : e = 0
  · exact Or.inr z
  · exact Or.inl (if_neg (by omega))
theorem lp_196 {w : mT} {R : Rw} {m e b N : Nat} (hw : lit w) (hm : m < 2) (he : 0 < e) (hb : b + e + N ≤ 2471) (hb2 : 12 ≤ b) (hN : N = e * R (10 + m)) : ∀ (r i : Nat) (σ : mS), i + r = N → mRow σ 85 0 (shK R b e i) → ∃ σ', frR 85 86 σ σ' ∧ mRow σ' 85 0 (rSet (shK R b e N) (6 + m) 0) ∧ ∀ {Q : Option (Option Value) → Hp → Prop} {d : Nat}, Q (some none) (mW w σ') → Wp 196 39 [.ref 81, .int (Int32.ofNat m), .int (Int32.ofNat e), .int (Int32.ofNat b), .int (Int32.ofNat i)] [] (mW w σ) Q d := by
  have eM : ∀ i, shK R b e i (10 + m) = R (10 + m) := fun i => if_neg (by omega)
  intro r
  induction r with
  | zero =>
    intro i σ hi hρ
    have hi' : i = N := by omega
    subst hi'
    have m1 := mr hρ (by omega : 10 + m < 2471)
    rw [eM] at m1
    refine ⟨uI σ 85 (6 + m) 0, frR_I (by omega), mR_w (x := 0) hρ, fun hQ => ?_⟩
    refine b196_39 ?_
    simp only [↓br_pos, ↓br_neg, ↓rF_I, ↓rF_L, ↓rF_R, ↓rF_N, rO_m, rB_m, ↓rI_m, wI_m, ↓rB2_m, ↓rB3_m, wB2_m, wB3_m, ↓rL_m, wL_m, ↓rQ_m, wQ_m, ↓lI_m, pI_m, pL_m, pR_m, sI_m, sBy_m, sBo_m, sL_m, sQ_m, fst_m, true_and, and_true, tg_some, ln_some, uI_1, uI_2, uL_1, uL_2, uL_3, uQ_1, uQ_2, uQ_3, rv_i, rv_l, rv_n, rv_b0, rv_b1, RMR, ne_eq, reduceCtorEq, not_false_eq_true, Option.getD_some, if_true, if_false, and_self, false_and, and_false, Nat.add_left_cancel_iff, Nat.add_eq_left, Nat.left_eq_add, Nat.one_ne_zero, Nat.reduceAdd, Nat.reduceLT, Nat.reduceLeDiff, Nat.reduceEqDiff, true_implies, false_implies, implies_true, Option.some.injEq, forall_eq', forall_eq, reduceCtorEq, brT, brF, br_s, i_10, i_01, ib_0_2, ib_1_2, tn_0, tn_1, Int32.le_refl, eq_self, rv_bN, rv_iM, RCM 81, RLY, lit_at hw, ad_2, ad_4, ad_6, ad_8, ad_10, ad_12, ad_16, ad_24, ad_27, ad_28, ad_31, ad_35, ad_43, ad_51, ad_107, ad_131, ad_311, ml_3, ml_6, ml_7, ml_60, ml_100, ml_2471, mq_12, ar_2, ar_3, ar_4, ar_5, ar_6, of_add, of_mul, on_succ, m1, ← hN, Int32.le_refl, ix (by omega : 6 + m < 2471) (by omega)]
    exact hQ
  | succ r ih =>
    intro i σ hi hρ
    have m1 := mr hρ (by omega : 10 + m < 2471)
    rw [eM] at m1
    have l1 : (Int32.ofNat N ≤ Int32.ofNat i) ↔ False := iff_false_intro (fun q => absurd ((on_le (by omega) (by omega)).mp q) (by omega))
    have m2 := mr hρ (by omega : b + e + i < 2471)
    rw [shK_e.resolve_right (by omega)] at m2
    obtain ⟨σ2, f2, t2, e2⟩ := ih (i + 1) (uI σ 85 (b + i) (Int32.ofNat (R (b + e + i)))) (by omega) (mR_e (mR_w hρ) (fun j hj => (shK_s j).symm))
    refine ⟨σ2, frR_tr (frR_I (by omega)) f2, t2, fun hQ => ?_⟩
    refine b196_39 ?_
    simp only [↓br_pos, ↓br_neg, ↓rF_I, ↓rF_L, ↓rF_R, ↓rF_N, rO_m, rB_m, ↓rI_m, wI_m, ↓rB2_m, ↓rB3_m, wB2_m, wB3_m, ↓rL_m, wL_m, ↓rQ_m, wQ_m, ↓lI_m, pI_m, pL_m, pR_m, sI_m, sBy_m, sBo_m, sL_m, sQ_m, fst_m, true_and, and_true, tg_some, ln_some, uI_1, uI_2, uL_1, uL_2, uL_3, uQ_1, uQ_2, uQ_3, rv_i, rv_l, rv_n, rv_b0, rv_b1, RMR, ne_eq, reduceCtorEq, not_false_eq_true, Option.getD_some, if_true, if_false, and_self, false_and, and_false, Nat.add_left_cancel_iff, Nat.add_eq_left, Nat.left_eq_add, Nat.one_ne_zero, Nat.reduceAdd, Nat.reduceLT, Nat.reduceLeDiff, Nat.reduceEqDiff, true_implies, false_implies, implies_true, Option.some.injEq, forall_eq', forall_eq, reduceCtorEq, brT, brF, br_s, i_10, i_01, ib_0_2, ib_1_2, tn_0, tn_1, Int32.le_refl, eq_self, rv_bN, rv_iM, RCM 81, RLY, lit_at hw, ad_2, ad_4, ad_6, ad_8, ad_10, ad_12, ad_16, ad_24, ad_27, ad_28, ad_31, ad_35, ad_43, ad_51, ad_107, ad_131, ad_311, ml_3, ml_6, ml_7, ml_60, ml_100, ml_2471, mq_12, ar_2, ar_3, ar_4, ar_5, ar_6, of_add, of_mul, on_succ, m1, ← hN, l1, m2, ix (by omega : b + i < 2471) (by omega)]
    exact e2 hQ
theorem o_196_0 {w : mT} {σ : mS} {ρ : Rw} (hw : lit w) (hρ : mRow σ 85 0 ρ) (hn : 0 < ρ 10) (hn8 : ρ 10 ≤ 8) : ∃ σ', frR 85 86 σ σ' ∧ mRow σ' 85 0 (sE0 ρ) ∧ ∀ {D : Nat} {K : Hp → Prop}, 1 ≤ D → (wpV D 196 [.ref 81, .int (0 : Int32)] (mW w σ) K ↔ K (mW w σ')) := by
  obtain ⟨σ2, f2, t2, e2⟩ := lp_196 (w := w) (R := rSet ρ 10 (ρ 10 - 1)) (m := 0) (e := 7) (b := 51) (N := 7 * (ρ 10 - 1)) hw (by omega) (by omega) (by omega) (by omega) (by rw [show (10 : Nat) + 0 = 10 from rfl, rS_eq]) (7 * (ρ 10 - 1)) 0 (uI σ 85 10 (Int32.ofNat (ρ 10 - 1))) (by omega) (mR_e (mR_w hρ) (fun j hj => by unfold shK; rw [if_neg (by omega)]))
  refine ⟨σ2, frR_tr (frR_I (by omega)) f2, mR_e t2 (fun j hj => ?_), fun hD => cV_of (m := 0) (fun d hd Q hQ => ?_) rfl hD⟩
  · unfold sE0 shK
    rw [rSet_1, rSet_1, rSet_1]
    by_cases c6 : j = 6
    · rw [if_neg (by omega), if_pos c6, if_pos (by omega)]
    · rw [if_neg (by omega : ¬ j = 6 + 0)]
      by_cases c10 : j = 10
      · rw [if_pos c10, if_neg (by omega : ¬ (51 ≤ j ∧ j < 51 + 7 * (ρ 10 - 1))), if_pos c10, if_neg (by omega : ¬ j = 6 + 0)]
      · rw [if_neg c10, if_neg c6]
        by_cases y : 51 ≤ j ∧ j < 51 + 7 * (ρ 10 - 1)
        · rw [if_pos y, if_pos y, if_neg (by omega)]
        · rw [if_neg y, if_neg y, if_neg c10]
  · have a10 : (10 : Int32) + 0 = 10 := by decide
    refine b196_0 ?_
    simp only [↓br_pos, ↓br_neg, ↓rF_I, ↓rF_L, ↓rF_R, ↓rF_N, rO_m, rB_m, ↓rI_m, wI_m, ↓rB2_m, ↓rB3_m, wB2_m, wB3_m, ↓rL_m, wL_m, ↓rQ_m, wQ_m, ↓lI_m, pI_m, pL_m, pR_m, sI_m, sBy_m, sBo_m, sL_m, sQ_m, fst_m, true_and, and_true, tg_some, ln_some, uI_1, uI_2, uL_1, uL_2, uL_3, uQ_1, uQ_2, uQ_3, rv_i, rv_l, rv_n, rv_b0, rv_b1, RMR, ne_eq, reduceCtorEq, not_false_eq_true, Option.getD_some, if_true, if_false, and_self, false_and, and_false, Nat.add_left_cancel_iff, Nat.add_eq_left, Nat.left_eq_add, Nat.one_ne_zero, Nat.reduceAdd, Nat.reduceLT, Nat.reduceLeDiff, Nat.reduceEqDiff, true_implies, false_implies, implies_true, Option.some.injEq, forall_eq', forall_eq, reduceCtorEq, brT, brF, br_s, i_10, i_01, ib_0_2, ib_1_2, tn_0, tn_1, Int32.le_refl, eq_self, rv_bN, rv_iM, RCM 81, RLY, lit_at hw, z00, a10, mr_10l hρ, on_pred hn]
    exact e2 hQ
theorem o_196_1 {w : mT} {σ : mS} {ρ : Rw} (hw : lit w) (hρ : mRow σ 85 0 ρ) (hn : 0 < ρ 11) (hn8 : ρ 11 ≤ 8) : ∃ σ', frR 85 86 σ σ' ∧ mRow σ' 85 0 (sE1 ρ) ∧ ∀ {D : Nat} {K : Hp → Prop}, 1 ≤ D → (wpV D 196 [.ref 81, .int (1 : Int32)] (mW w σ) K ↔ K (mW w σ')) := by
  obtain ⟨σ2, f2, t2, e2⟩ := lp_196 (w := w) (R := rSet ρ 11 (ρ 11 - 1)) (m := 1) (e := 3) (b := 107) (N := 3 * (ρ 11 - 1)) hw (by omega) (by omega) (by omega) (by omega) (by rw [show (10 : Nat) + 1 = 11 from rfl, rS_eq]) (3 * (ρ 11 - 1)) 0 (uI σ 85 11 (Int32.ofNat (ρ 11 - 1))) (by omega) (mR_e (mR_w hρ) (fun j hj => by unfold shK; rw [if_neg (by omega)]))
  refine ⟨σ2, frR_tr (frR_I (by omega)) f2, mR_e t2 (fun j hj => ?_), fun hD => cV_of (m := 0) (fun d hd Q hQ => ?_) rfl hD⟩
  · unfold sE1 shK
    rw [rSet_1, rSet_1, rSet_1]
    by_cases c6 : j = 7
    · rw [if_neg (by omega), if_pos c6, if_pos (by omega)]
    · rw [if_neg (by omega : ¬ j = 6 + 1)]
      by_cases c10 : j = 11
      · rw [if_pos c10, if_neg (by omega : ¬ (107 ≤ j ∧ j < 107 + 3 * (ρ 11 - 1))), if_pos c10, if_neg (by omega : ¬ j = 6 + 1)]
      · rw [if_neg c10, if_neg c6]
        by_cases y : 107 ≤ j ∧ j < 107 + 3 * (ρ 11 - 1)
        · rw [if_pos y, if_pos y, if_neg (by omega)]
        · rw [if_neg y, if_neg y, if_neg c10]
  · have a10 : (10 : Int32) + 1 = 11 := by decide
    refine b196_0 ?_
    simp only [↓br_pos, ↓br_neg, ↓rF_I, ↓rF_L, ↓rF_R, ↓rF_N, rO_m, rB_m, ↓rI_m, wI_m, ↓rB2_m, ↓rB3_m, wB2_m, wB3_m, ↓rL_m, wL_m, ↓rQ_m, wQ_m, ↓lI_m, pI_m, pL_m, pR_m, sI_m, sBy_m, sBo_m, sL_m, sQ_m, fst_m, true_and, and_true, tg_some, ln_some, uI_1, uI_2, uL_1, uL_2, uL_3, uQ_1, uQ_2, uQ_3, rv_i, rv_l, rv_n, rv_b0, rv_b1, RMR, ne_eq, reduceCtorEq, not_false_eq_true, Option.getD_some, if_true, if_false, and_self, false_and, and_false, Nat.add_left_cancel_iff, Nat.add_eq_left, Nat.left_eq_add, Nat.one_ne_zero, Nat.reduceAdd, Nat.reduceLT, Nat.reduceLeDiff, Nat.reduceEqDiff, true_implies, false_implies, implies_true, Option.some.injEq, forall_eq', forall_eq, reduceCtorEq, brT, brF, br_s, i_10, i_01, ib_0_2, ib_1_2, tn_0, tn_1, Int32.le_refl, eq_self, rv_bN, rv_iM, RCM 81, RLY, lit_at hw, z10, a10, mr_11l hρ, on_pred hn]
    exact e2 hQ
theorem g_197 {w : mT} {σ : mS} {ρ : Rw} {m : Nat} {D : Nat} {K : Int32 → Hp → Prop} (hw : lit w) (hρ : mRow σ 85 0 ρ) (hm : m < 2) (hD : 1 ≤ D) : wpI D 197 [.ref 81, .int (Int32.ofNat m)] (mW w σ) K ↔ K 1 (mW w (uI σ 85 (8 + m) (Int32.ofNat (ρ (8 + m) + 1)))) := by
  refine cI_of (m := 0) (fun d hd Q hQ => ?_) rfl hD
  refine b197_0 ?_
  simp only [↓br_pos, ↓br_neg, ↓rF_I, ↓rF_L, ↓rF_R, ↓rF_N, rO_m, rB_m, ↓rI_m, wI_m, ↓rB2_m, ↓rB3_m, wB2_m, wB3_m, ↓rL_m, wL_m, ↓rQ_m, wQ_m, ↓lI_m, pI_m, pL_m, pR_m, sI_m, sBy_m, sBo_m, sL_m, sQ_m, fst_m, true_and, and_true, tg_some, ln_some, uI_1, uI_2, uL_1, uL_2, uL_3, uQ_1, uQ_2, uQ_3, rv_i, rv_l, rv_n, rv_b0, rv_b1, RMR, ne_eq, reduceCtorEq, not_false_eq_true, Option.getD_some, if_true, if_false, and_self, false_and, and_false, Nat.add_left_cancel_iff, Nat.add_eq_left, Nat.left_eq_add, Nat.one_ne_zero, Nat.reduceAdd, Nat.reduceLT, Nat.reduceLeDiff, Nat.reduceEqDiff, true_implies, false_implies, implies_true, Option.some.injEq, forall_eq', forall_eq, reduceCtorEq, brT, brF, br_s, i_10, i_01, ib_0_2, ib_1_2, tn_0, tn_1, Int32.le_refl, eq_self, rv_bN, rv_iM, RCM 81, RLY, lit_at hw, ad_2, ad_4, ad_6, ad_8, ad_10, ad_12, ad_16, ad_24, ad_27, ad_28, ad_31, ad_35, ad_43, ad_51, ad_107, ad_131, ad_311, ml_3, ml_6, ml_7, ml_60, ml_100, ml_2471, mq_12, ar_2, ar_3, ar_4, ar_5, ar_6, of_add, of_mul, on_succ, mr hρ (by omega : 8 + m < 2471)]
  exact hQ
/-- to the next cell -/
theorem o_198 {w : mT} {σ : mS} {ρ : Rw} {m p c : Nat} {x : Int32} (hw : lit w) (hρ : mRow σ 85 0 ρ) (hx : x = Int32.ofNat m) (hm : m < 2) (ho : onAtD ρ m p = true) (hd1 : dist (cellAt ρ m) c = 1) : ∃ σ', frR 85 86 σ σ' ∧ mRow σ' 85 0 (sGo ρ m p c) ∧ ∀ {D : Nat} {K : Hp → Prop}, 2 ≤ D → (wpV D 198 [.ref 81, .int x, .int (Int32.ofNat p), .int (Int32.ofNat c)] (mW w σ) K ↔ K (mW w σ')) := by
  subst hx
  refine ⟨uI (uI σ 85 (4 + m) (Int32.ofNat (ρ (4 + m) + 1))) 85 (2 + m) (Int32.ofNat (100 * p + c + 1)), frR_tr (frR_I (by omega)) (frR_I (by omega)), ?_, fun hD => cV_of (m := 1) (fun d hd Q hQ => ?_) rfl hD⟩
  · have := mR_w (j := 2 + m) (x := 100 * p + c + 1) (mR_w (j := 4 + m) (x := ρ (4 + m) + 1) hρ)
    unfold sGo
    rw [if_pos ho, hd1]
    exact this
  · refine b198_0 ?_
    have g := fun {y : Int32} {K : Hp → Prop} => g_176 (K := K) (σ := uI σ 85 (4 + m) y) (m := m) (x := Int32.ofNat m) (p := p) (c := c) hw rfl hm hd
    simp only [↓br_pos, ↓br_neg, ↓rF_I, ↓rF_L, ↓rF_R, ↓rF_N, rO_m, rB_m, ↓rI_m, wI_m, ↓rB2_m, ↓rB3_m, wB2_m, wB3_m, ↓rL_m, wL_m, ↓rQ_m, wQ_m, ↓lI_m, pI_m, pL_m, pR_m, sI_m, sBy_m, sBo_m, sL_m, sQ_m, fst_m, true_and, and_true, tg_some, ln_some, uI_1, uI_2, uL_1, uL_2, uL_3, uQ_1, uQ_2, uQ_3, rv_i, rv_l, rv_n, rv_b0, rv_b1, RMR, ne_eq, reduceCtorEq, not_false_eq_true, Option.getD_some, if_true, if_false, and_self, false_and, and_false, Nat.add_left_cancel_iff, Nat.add_eq_left, Nat.left_eq_add, Nat.one_ne_zero, Nat.reduceAdd, Nat.reduceLT, Nat.reduceLeDiff, Nat.reduceEqDiff, true_implies, false_implies, implies_true, Option.some.injEq, forall_eq', forall_eq, reduceCtorEq, brT, brF, br_s, i_10, i_01, ib_0_2, ib_1_2, tn_0, tn_1, Int32.le_refl, eq_self, rv_bN, rv_iM, RCM 81, RLY, lit_at hw, ad_2, ad_4, ad_6, ad_8, ad_10, ad_12, ad_16, ad_24, ad_27, ad_28, ad_31, ad_35, ad_43, ad_51, ad_107, ad_131, ad_311, ml_3, ml_6, ml_7, ml_60, ml_100, ml_2471, mq_12, ar_2, ar_3, ar_4, ar_5, ar_6, of_add, of_mul, on_succ, mr hρ (by omega : 4 + m < 2471), g]
    exact hQ
/-- the ways of nears: it stands there; it waits; it comes nearer -/
theorem n_199r {w : mT} {σ : mS} {τ ρ : Rw} {m p g : Nat} {x : Int32} {D : Nat} {K : Int32 → Hp → Prop} (hw : lit w) (hρ : mRow σ 85 0 ρ) (hv : vTold τ) (hr : vRow τ ρ) (hx : x = Int32.ofNat m) (hm : m < 2) (hp : p < 1000) (ho : onAtD ρ m p = true) (hg : cellAt ρ m = g) (hD : 2 ≤ D) : wpI D 199 [.ref 81, .int x, .int (Int32.ofNat p), .int (Int32.ofNat g)] (mW w σ) K ↔ K 3 (mW w σ) := by
  subst hx
  subst hg
  refine cI_of (m := 1) (fun d hd Q hQ => ?_) rfl hD
  have hs := onP_lt hv (vR_on hr hm)
  have y0 := (of_decide_eq_true ho).1
  have g0 := fun {K : Int32 → Hp → Prop} => g_170 (K := K) (m := m) (p := p) hw hρ hm hs hp hd
  refine b199_0 ?_
  simp only [↓br_pos, ↓br_neg, ↓rF_I, ↓rF_L, ↓rF_R, ↓rF_N, rO_m, rB_m, ↓rI_m, wI_m, ↓rB2_m, ↓rB3_m, wB2_m, wB3_m, ↓rL_m, wL_m, ↓rQ_m, wQ_m, ↓lI_m, pI_m, pL_m, pR_m, sI_m, sBy_m, sBo_m, sL_m, sQ_m, fst_m, true_and, and_true, tg_some, ln_some, uI_1, uI_2, uL_1, uL_2, uL_3, uQ_1, uQ_2, uQ_3, rv_i, rv_l, rv_n, rv_b0, rv_b1, RMR, ne_eq, reduceCtorEq, not_false_eq_true, Option.getD_some, if_true, if_false, and_self, false_and, and_false, Nat.add_left_cancel_iff, Nat.add_eq_left, Nat.left_eq_add, Nat.one_ne_zero, Nat.reduceAdd, Nat.reduceLT, Nat.reduceLeDiff, Nat.reduceEqDiff, true_implies, false_implies, implies_true, Option.some.injEq, forall_eq', forall_eq, reduceCtorEq, brT, brF, br_s, i_10, i_01, ib_0_2, ib_1_2, tn_0, tn_1, Int32.le_refl, eq_self, rv_bN, rv_iM, RCM 81, RLY, lit_at hw, g0, iB_t ho, z10, g_171 hw hρ hm y0 hs hd]
  exact hQ
theorem n_199 {w : mT} {σ : mS} {τ ρ : Rw} {m p g : Nat} {x : Int32} (hw : lit w) (hτ : mTold σ τ) (hρ : mRow σ 85 0 ρ) (hv : vTold τ) (hr : vRow τ ρ) (hx : x = Int32.ofNat m) (hm : m < 2) (hp : p < τ 1) (hg : g < τ (28 + p)) (hn : ¬ (onAtD ρ m p = true ∧ cellAt ρ m = g)) : ∃ σ' W, frR 85 86 σ σ' ∧ (W = if onAtD ρ m p = true then decide (¬ frP τ ρ m p (nx (cellAt ρ m) g)) else decide (¬ ρ (6 + m) < 10 ∧ ¬ frP τ ρ m p g)) ∧ mRow σ' 85 0 (if W = true then rSet ρ (8 + m) (ρ (8 + m) + 1) else if onAtD ρ m p = true then sMv τ ρ m p (nx (cellAt ρ m) g) else sTr τ ρ m p g) ∧ ∀ {D : Nat} {K : Int32 → Hp → Prop}, 3 ≤ D → (wpI D 199 [.ref 81, .int x, .int (Int32.ofNat p), .int (Int32.ofNat g)] (mW w σ) K ↔ K (if W = true then 1 else 0) (mW w σ')) := by
  subst hx
  have v1 := hv.2.1
  have v2 := (hv.2.2.2.2.2.1 p hp).2
  have hs := onP_lt hv (vR_on hr hm)
  have hs' := onP_lt hv (vR_on hr (by omega : 1 - m < 2))
  have l100 := cAt_lt (ρ := ρ) (m := m)
  by_cases ho : onAtD ρ m p = true
  · have hc : cellAt ρ m ≠ g := fun q => hn ⟨ho, q⟩
    have oc := (on_cell hv hr hm ho).2
    have nl := nx_lt oc hg
    have y0 := (of_decide_eq_true ho).1
    have dn : dist (cellAt ρ m) (nx (cellAt ρ m) g) = 1 := by unfold nx dist; split <;> omega
    obtain ⟨σ2, f2, t2, e2⟩ := o_198 (x := Int32.ofNat m) (p := p) (c := nx (cellAt ρ m) g) hw hρ rfl hm ho dn
    have c1 : (Int32.ofNat (cellAt ρ m) = Int32.ofNat g) ↔ False := iff_false_intro (fun q => hc ((of_inj (by omega) (by omega)).mp q))
    by_cases hf : frP τ ρ m p (nx (cellAt ρ m) g)
    · refine ⟨σ2, false, f2, by rw [if_pos ho, decide_eq_false (fun q => q hf)], ?_, fun hD => cI_of (m := 2) (fun d hd Q hQ => ?_) rfl hD⟩
      · rw [if_neg (by decide), if_pos ho]
        unfold sMv
        rw [if_pos hf]
        exact t2
      · have hd1 : 1 ≤ d := by omega
        rw [if_neg (by decide)] at hQ
        have g0 := fun {K : Int32 → Hp → Prop} => g_170 (K := K) (m := m) (p := p) hw hρ hm hs (by omega) hd1
        have g2 := fun {K : Int32 → Hp → Prop} => g_172 (K := K) (m := m) (p := p) (c := nx (cellAt ρ m) g) hw hτ hρ hv hm hs' (by omega) (by omega) hd
        refine b199_0 ?_
        by_cases z : cellAt ρ m < g
        · have c2 : (Int32.ofNat g ≤ Int32.ofNat (cellAt ρ m)) ↔ False := iff_false_intro (fun q => absurd ((on_le (by omega) (by omega)).mp q) (by omega))
          have en : nx (cellAt ρ m) g = cellAt ρ m + 1 := if_pos z
          rw [en] at g2 hf e2
          simp only [↓br_pos, ↓br_neg, ↓rF_I, ↓rF_L, ↓rF_R, ↓rF_N, rO_m, rB_m, ↓rI_m, wI_m, ↓rB2_m, ↓rB3_m, wB2_m, wB3_m, ↓rL_m, wL_m, ↓rQ_m, wQ_m, ↓lI_m, pI_m, pL_m, pR_m, sI_m, sBy_m, sBo_m, sL_m, sQ_m, fst_m, true_and, and_true, tg_some, ln_some, uI_1, uI_2, uL_1, uL_2, uL_3, uQ_1, uQ_2, uQ_3, rv_i, rv_l, rv_n, rv_b0, rv_b1, RMR, ne_eq, reduceCtorEq, not_false_eq_true, Option.getD_some, if_true, if_false, and_self, false_and, and_false, Nat.add_left_cancel_iff, Nat.add_eq_left, Nat.left_eq_add, Nat.one_ne_zero, Nat.reduceAdd, Nat.reduceLT, Nat.reduceLeDiff, Nat.reduceEqDiff, true_implies, false_implies, implies_true, Option.some.injEq, forall_eq', forall_eq, reduceCtorEq, brT, brF, br_s, i_10, i_01, ib_0_2, ib_1_2, tn_0, tn_1, Int32.le_refl, eq_self, rv_bN, rv_iM, RCM 81, RLY, lit_at hw, g0, iB_t ho, z10, g_171 hw hρ hm y0 hs hd1, c1, c2, on_succ, g2, iB_t hf, e2 hd]
          exact hQ
        · have c2 : (Int32.ofNat g ≤ Int32.ofNat (cellAt ρ m)) ↔ True := iff_true_intro ((on_le (by omega) (by omega)).mpr (by omega))
          have en : nx (cellAt ρ m) g = cellAt ρ m - 1 := if_neg z
          rw [en] at g2 hf e2
          simp only [↓br_pos, ↓br_neg, ↓rF_I, ↓rF_L, ↓rF_R, ↓rF_N, rO_m, rB_m, ↓rI_m, wI_m, ↓rB2_m, ↓rB3_m, wB2_m, wB3_m, ↓rL_m, wL_m, ↓rQ_m, wQ_m, ↓lI_m, pI_m, pL_m, pR_m, sI_m, sBy_m, sBo_m, sL_m, sQ_m, fst_m, true_and, and_true, tg_some, ln_some, uI_1, uI_2, uL_1, uL_2, uL_3, uQ_1, uQ_2, uQ_3, rv_i, rv_l, rv_n, rv_b0, rv_b1, RMR, ne_eq, reduceCtorEq, not_false_eq_true, Option.getD_some, if_true, if_false, and_self, false_and, and_false, Nat.add_left_cancel_iff, Nat.add_eq_left, Nat.left_eq_add, Nat.one_ne_zero, Nat.reduceAdd, Nat.reduceLT, Nat.reduceLeDiff, Nat.reduceEqDiff, true_implies, false_implies, implies_true, Option.some.injEq, forall_eq', forall_eq, reduceCtorEq, brT, brF, br_s, i_10, i_01, ib_0_2, ib_1_2, tn_0, tn_1, Int32.le_refl, eq_self, rv_bN, rv_iM, RCM 81, RLY, lit_at hw, g0, iB_t ho, z10, g_171 hw hρ hm y0 hs hd1, c1, c2, on_pred (by omega : 0 < cellAt ρ m), g2, iB_t hf, e2 hd]
          exact hQ
    · refine ⟨_, true, frR_I (a := 85) (j := 8 + m) (x := Int32.ofNat (ρ (8 + m) + 1)) (by omega), by rw [if_pos ho, decide_eq_true hf], ?_, fun hD => cI_of (m := 2) (fun d hd Q hQ => ?_) rfl hD⟩
      · rw [if_pos rfl]
        exact mR_w hρ
      · have hd1 : 1 ≤ d := by omega
        rw [if_pos rfl] at hQ
        have g0 := fun {K : Int32 → Hp → Prop} => g_170 (K := K) (m := m) (p := p) hw hρ hm hs (by omega) hd1
        have g2 := fun {K : Int32 → Hp → Prop} => g_172 (K := K) (m := m) (p := p) (c := nx (cellAt ρ m) g) hw hτ hρ hv hm hs' (by omega) (by omega) hd
        refine b199_0 ?_
        by_cases z : cellAt ρ m < g
        · have c2 : (Int32.ofNat g ≤ Int32.ofNat (cellAt ρ m)) ↔ False := iff_false_intro (fun q => absurd ((on_le (by omega) (by omega)).mp q) (by omega))
          have en : nx (cellAt ρ m) g = cellAt ρ m + 1 := if_pos z
          rw [en] at g2 hf
          simp only [↓br_pos, ↓br_neg, ↓rF_I, ↓rF_L, ↓rF_R, ↓rF_N, rO_m, rB_m, ↓rI_m, wI_m, ↓rB2_m, ↓rB3_m, wB2_m, wB3_m, ↓rL_m, wL_m, ↓rQ_m, wQ_m, ↓lI_m, pI_m, pL_m, pR_m, sI_m, sBy_m, sBo_m, sL_m, sQ_m, fst_m, true_and, and_true, tg_some, ln_some, uI_1, uI_2, uL_1, uL_2, uL_3, uQ_1, uQ_2, uQ_3, rv_i, rv_l, rv_n, rv_b0, rv_b1, RMR, ne_eq, reduceCtorEq, not_false_eq_true, Option.getD_some, if_true, if_false, and_self, false_and, and_false, Nat.add_left_cancel_iff, Nat.add_eq_left, Nat.left_eq_add, Nat.one_ne_zero, Nat.reduceAdd, Nat.reduceLT, Nat.reduceLeDiff, Nat.reduceEqDiff, true_implies, false_implies, implies_true, Option.some.injEq, forall_eq', forall_eq, reduceCtorEq, brT, brF, br_s, i_10, i_01, ib_0_2, ib_1_2, tn_0, tn_1, Int32.le_refl, eq_self, rv_bN, rv_iM, RCM 81, RLY, lit_at hw, g0, iB_t ho, z10, z00, g_171 hw hρ hm y0 hs hd1, c1, c2, on_succ, g2, iB_f hf, g_197 hw hρ hm hd1]
          exact hQ
        · have c2 : (Int32.ofNat g ≤ Int32.ofNat (cellAt ρ m)) ↔ True := iff_true_intro ((on_le (by omega) (by omega)).mpr (by omega))
          have en : nx (cellAt ρ m) g = cellAt ρ m - 1 := if_neg z
          rw [en] at g2 hf
          simp only [↓br_pos, ↓br_neg, ↓rF_I, ↓rF_L, ↓rF_R, ↓rF_N, rO_m, rB_m, ↓rI_m, wI_m, ↓rB2_m, ↓rB3_m, wB2_m, wB3_m, ↓rL_m, wL_m, ↓rQ_m, wQ_m, ↓lI_m, pI_m, pL_m, pR_m, sI_m, sBy_m, sBo_m, sL_m, sQ_m, fst_m, true_and, and_true, tg_some, ln_some, uI_1, uI_2, uL_1, uL_2, uL_3, uQ_1, uQ_2, uQ_3, rv_i, rv_l, rv_n, rv_b0, rv_b1, RMR, ne_eq, reduceCtorEq, not_false_eq_true, Option.getD_some, if_true, if_false, and_self, false_and, and_false, Nat.add_left_cancel_iff, Nat.add_eq_left, Nat.left_eq_add, Nat.one_ne_zero, Nat.reduceAdd, Nat.reduceLT, Nat.reduceLeDiff, Nat.reduceEqDiff, true_implies, false_implies, implies_true, Option.some.injEq, forall_eq', forall_eq, reduceCtorEq, brT, brF, br_s, i_10, i_01, ib_0_2, ib_1_2, tn_0, tn_1, Int32.le_refl, eq_self, rv_bN, rv_iM, RCM 81, RLY, lit_at hw, g0, iB_t ho, z10, z00, g_171 hw hρ hm y0 hs hd1, c1, c2, on_pred (by omega : 0 < cellAt ρ m), g2, iB_f hf, g_197 hw hρ hm hd1]
          exact hQ
  · have w6 := vR_way hr hm
    have eo2 : way1 ρ m (2 + (1 - m)) = ρ (2 + (1 - m)) := by unfold way1; split; exact rS_ne (by omega); rfl
    have eo : onAtD (way1 ρ m) m p = onAtD ρ m p := by
      have : way1 ρ m (2 + m) = ρ (2 + m) := by unfold way1; split; exact rS_ne (by omega); rfl
      unfold onAtD
      rw [this]
    have e4 : way1 ρ m (4 + m) = ρ (4 + m) := by unfold way1; split; exact rS_ne (by omega); rfl
    -- the row behind the way
    by_cases z : ρ (6 + m) = 10
    · have ew : way1 ρ m = ρ := by unfold way1; rw [if_neg (by omega)]
      have c10 : (Int32.ofNat (ρ (6 + m)) = (10 : Int32)) ↔ True := iff_true_intro (by rw [z]; rfl)
      have c11 : ((10 : Int32) ≤ Int32.ofNat (ρ (6 + m))) ↔ True := iff_true_intro (by rw [z]; decide)
      by_cases hf : frP τ ρ m p g
      · have hG := mR_w (j := 6 + m) (x := 0) (mR_w (j := 4 + m) (x := ρ (4 + m) + 10) (mR_w (j := 2 + m) (x := 100 * p + g + 1) hρ))
        refine ⟨_, false, frR_tr (frR_I (a := 85) (j := 2 + m) (x := Int32.ofNat (100 * p + g + 1)) (by omega)) (frR_tr (frR_I (a := 85) (j := 4 + m) (x := Int32.ofNat (ρ (4 + m) + 10)) (by omega)) (frR_I (a := 85) (j := 6 + m) (x := 0) (by omega))), by rw [if_neg ho, decide_eq_false (fun q => q.2 hf)], ?_, fun hD => cI_of (m := 2) (fun d hd Q hQ => ?_) rfl hD⟩
        · rw [if_neg (by decide), if_neg ho]
          unfold sTr
          rw [if_pos (show arrP τ ρ m p g from ⟨by rw [ew]; omega, hf⟩), ew]
          refine mR_e hG (fun j hj => ?_)
          unfold sGo
          rw [if_neg ho, rSet_1, rSet_1, rSet_1, rSet_1, rSet_1, rSet_1]
          by_cases k6 : j = 6 + m
          · rw [if_pos k6, if_pos k6]
          · rw [if_neg k6, if_neg k6]
            by_cases k2 : j = 2 + m
            · rw [if_pos k2, if_neg (by omega), if_pos k2]
            · rw [if_neg k2, if_neg k2]
        · have hd1 : 1 ≤ d := by omega
          rw [if_neg (by decide)] at hQ
          have x1 : ((4 + m : Nat) = 2 + m) ↔ False := iff_false_intro (by omega)
          have g0 := fun {K : Int32 → Hp → Prop} => g_170 (K := K) (m := m) (p := p) hw hρ hm hs (by omega) hd1
          have g2 := fun {K : Int32 → Hp → Prop} => g_172 (K := K) (m := m) (p := p) (c := g) hw hτ hρ hv hm hs' (by omega) (by omega) hd
          have g6 := fun {K : Hp → Prop} => g_176 (K := K) (σ := σ) (m := m) (x := Int32.ofNat m) (p := p) (c := g) hw rfl hm hd1
          have a10 : Int32.ofNat (ρ (4 + m)) + (10 : Int32) = Int32.ofNat (ρ (4 + m) + 10) := of_add (b := 10)
          refine b199_0 ?_
          simp only [↓br_pos, ↓br_neg, ↓rF_I, ↓rF_L, ↓rF_R, ↓rF_N, rO_m, rB_m, ↓rI_m, wI_m, ↓rB2_m, ↓rB3_m, wB2_m, wB3_m, ↓rL_m, wL_m, ↓rQ_m, wQ_m, ↓lI_m, pI_m, pL_m, pR_m, sI_m, sBy_m, sBo_m, sL_m, sQ_m, fst_m, true_and, and_true, tg_some, ln_some, uI_1, uI_2, uL_1, uL_2, uL_3, uQ_1, uQ_2, uQ_3, rv_i, rv_l, rv_n, rv_b0, rv_b1, RMR, ne_eq, reduceCtorEq, not_false_eq_true, Option.getD_some, if_true, if_false, and_self, false_and, and_false, Nat.add_left_cancel_iff, Nat.add_eq_left, Nat.left_eq_add, Nat.one_ne_zero, Nat.reduceAdd, Nat.reduceLT, Nat.reduceLeDiff, Nat.reduceEqDiff, true_implies, false_implies, implies_true, Option.some.injEq, forall_eq', forall_eq, reduceCtorEq, brT, brF, br_s, i_10, i_01, ib_0_2, ib_1_2, tn_0, tn_1, Int32.le_refl, eq_self, rv_bN, rv_iM, RCM 81, RLY, lit_at hw, g0, iB_f ho, z00, z10, ad_2, ad_4, ad_6, ad_8, ad_10, ad_12, ad_16, ad_24, ad_27, ad_28, ad_31, ad_35, ad_43, ad_51, ad_107, ad_131, ad_311, ml_3, ml_6, ml_7, ml_60, ml_100, ml_2471, mq_12, ar_2, ar_3, ar_4, ar_5, ar_6, of_add, of_mul, on_succ, mr hρ (by omega : 6 + m < 2471), c10]
          refine b199_48 ?_
          simp only [↓br_pos, ↓br_neg, ↓rF_I, ↓rF_L, ↓rF_R, ↓rF_N, rO_m, rB_m, ↓rI_m, wI_m, ↓rB2_m, ↓rB3_m, wB2_m, wB3_m, ↓rL_m, wL_m, ↓rQ_m, wQ_m, ↓lI_m, pI_m, pL_m, pR_m, sI_m, sBy_m, sBo_m, sL_m, sQ_m, fst_m, true_and, and_true, tg_some, ln_some, uI_1, uI_2, uL_1, uL_2, uL_3, uQ_1, uQ_2, uQ_3, rv_i, rv_l, rv_n, rv_b0, rv_b1, RMR, ne_eq, reduceCtorEq, not_false_eq_true, Option.getD_some, if_true, if_false, and_self, false_and, and_false, Nat.add_left_cancel_iff, Nat.add_eq_left, Nat.left_eq_add, Nat.one_ne_zero, Nat.reduceAdd, Nat.reduceLT, Nat.reduceLeDiff, Nat.reduceEqDiff, true_implies, false_implies, implies_true, Option.some.injEq, forall_eq', forall_eq, reduceCtorEq, brT, brF, br_s, i_10, i_01, ib_0_2, ib_1_2, tn_0, tn_1, Int32.le_refl, eq_self, rv_bN, rv_iM, RCM 81, RLY, lit_at hw, ad_2, ad_4, ad_6, ad_8, ad_10, ad_12, ad_16, ad_24, ad_27, ad_28, ad_31, ad_35, ad_43, ad_51, ad_107, ad_131, ad_311, ml_3, ml_6, ml_7, ml_60, ml_100, ml_2471, mq_12, ar_2, ar_3, ar_4, ar_5, ar_6, of_add, of_mul, on_succ, mr hρ (by omega : 6 + m < 2471), c11, g2, iB_t hf, z10, g6, mr hρ (by omega : 4 + m < 2471), x1, a10]
          exact hQ
      · refine ⟨_, true, frR_I (a := 85) (j := 8 + m) (x := Int32.ofNat (ρ (8 + m) + 1)) (by omega), by rw [if_neg ho, decide_eq_true ⟨by omega, hf⟩], ?_, fun hD => cI_of (m := 2) (fun d hd Q hQ => ?_) rfl hD⟩
        · rw [if_pos rfl]
          exact mR_w hρ
        · have hd1 : 1 ≤ d := by omega
          rw [if_pos rfl] at hQ
          have g0 := fun {K : Int32 → Hp → Prop} => g_170 (K := K) (m := m) (p := p) hw hρ hm hs (by omega) hd1
          have g2 := fun {K : Int32 → Hp → Prop} => g_172 (K := K) (m := m) (p := p) (c := g) hw hτ hρ hv hm hs' (by omega) (by omega) hd
          refine b199_0 ?_
          simp only [↓br_pos, ↓br_neg, ↓rF_I, ↓rF_L, ↓rF_R, ↓rF_N, rO_m, rB_m, ↓rI_m, wI_m, ↓rB2_m, ↓rB3_m, wB2_m, wB3_m, ↓rL_m, wL_m, ↓rQ_m, wQ_m, ↓lI_m, pI_m, pL_m, pR_m, sI_m, sBy_m, sBo_m, sL_m, sQ_m, fst_m, true_and, and_true, tg_some, ln_some, uI_1, uI_2, uL_1, uL_2, uL_3, uQ_1, uQ_2, uQ_3, rv_i, rv_l, rv_n, rv_b0, rv_b1, RMR, ne_eq, reduceCtorEq, not_false_eq_true, Option.getD_some, if_true, if_false, and_self, false_and, and_false, Nat.add_left_cancel_iff, Nat.add_eq_left, Nat.left_eq_add, Nat.one_ne_zero, Nat.reduceAdd, Nat.reduceLT, Nat.reduceLeDiff, Nat.reduceEqDiff, true_implies, false_implies, implies_true, Option.some.injEq, forall_eq', forall_eq, reduceCtorEq, brT, brF, br_s, i_10, i_01, ib_0_2, ib_1_2, tn_0, tn_1, Int32.le_refl, eq_self, rv_bN, rv_iM, RCM 81, RLY, lit_at hw, g0, iB_f ho, z00, z10, ad_2, ad_4, ad_6, ad_8, ad_10, ad_12, ad_16, ad_24, ad_27, ad_28, ad_31, ad_35, ad_43, ad_51, ad_107, ad_131, ad_311, ml_3, ml_6, ml_7, ml_60, ml_100, ml_2471, mq_12, ar_2, ar_3, ar_4, ar_5, ar_6, of_add, of_mul, on_succ, mr hρ (by omega : 6 + m < 2471), c10]
          refine b199_48 ?_
          simp only [↓br_pos, ↓br_neg, ↓rF_I, ↓rF_L, ↓rF_R, ↓rF_N, rO_m, rB_m, ↓rI_m, wI_m, ↓rB2_m, ↓rB3_m, wB2_m, wB3_m, ↓rL_m, wL_m, ↓rQ_m, wQ_m, ↓lI_m, pI_m, pL_m, pR_m, sI_m, sBy_m, sBo_m, sL_m, sQ_m, fst_m, true_and, and_true, tg_some, ln_some, uI_1, uI_2, uL_1, uL_2, uL_3, uQ_1, uQ_2, uQ_3, rv_i, rv_l, rv_n, rv_b0, rv_b1, RMR, ne_eq, reduceCtorEq, not_false_eq_true, Option.getD_some, if_true, if_false, and_self, false_and, and_false, Nat.add_left_cancel_iff, Nat.add_eq_left, Nat.left_eq_add, Nat.one_ne_zero, Nat.reduceAdd, Nat.reduceLT, Nat.reduceLeDiff, Nat.reduceEqDiff, true_implies, false_implies, implies_true, Option.some.injEq, forall_eq', forall_eq, reduceCtorEq, brT, brF, br_s, i_10, i_01, ib_0_2, ib_1_2, tn_0, tn_1, Int32.le_refl, eq_self, rv_bN, rv_iM, RCM 81, RLY, lit_at hw, ad_2, ad_4, ad_6, ad_8, ad_10, ad_12, ad_16, ad_24, ad_27, ad_28, ad_31, ad_35, ad_43, ad_51, ad_107, ad_131, ad_311, ml_3, ml_6, ml_7, ml_60, ml_100, ml_2471, mq_12, ar_2, ar_3, ar_4, ar_5, ar_6, of_add, of_mul, on_succ, mr hρ (by omega : 6 + m < 2471), c11, g2, iB_f hf, z00, z10, g_197 hw hρ hm hd1]
          exact b199_88 ⟨rfl, hQ⟩
    · have ew : way1 ρ m = rSet ρ (6 + m) (ρ (6 + m) + 1) := by unfold way1; rw [if_pos (by omega)]
      have c10 : (Int32.ofNat (ρ (6 + m)) = (10 : Int32)) ↔ False := iff_false_intro (fun q => z ((of_inj (b := 10) (by omega) (by omega)).mp q))
      have hρ1 : mRow (uI σ 85 (6 + m) (Int32.ofNat (ρ (6 + m) + 1))) 85 0 (way1 ρ m) := by rw [ew]; exact mR_w hρ
      have hτ1 : mTold (uI σ 85 (6 + m) (Int32.ofNat (ρ (6 + m) + 1))) τ := mT_c hτ (uI_o (by omega))
      have e6 : way1 ρ m (6 + m) = ρ (6 + m) + 1 := by rw [ew, rS_eq]
      have fW : (if onAtD ρ m p = true then decide (¬ frP τ ρ m p (nx (cellAt ρ m) g)) else decide (¬ ρ (6 + m) < 10 ∧ ¬ frP τ ρ m p g)) = false := by rw [if_neg ho, decide_eq_false (fun q => q.1 (by omega))]
      by_cases y : ρ (6 + m) + 1 = 10
      · have c11 : ((10 : Int32) ≤ Int32.ofNat (ρ (6 + m) + 1)) ↔ True := iff_true_intro (by rw [y]; decide)
        by_cases hf : frP τ ρ m p g
        · have hf1 : frP τ (way1 ρ m) m p g := (frP_w hm).mpr hf
          have hG := mR_w (j := 6 + m) (x := 0) (mR_w (j := 4 + m) (x := ρ (4 + m) + 10) (mR_w (j := 2 + m) (x := 100 * p + g + 1) hρ1))
          refine ⟨_, false, frR_tr (frR_I (a := 85) (j := 6 + m) (x := Int32.ofNat (ρ (6 + m) + 1)) (by omega)) (frR_tr (frR_I (a := 85) (j := 2 + m) (x := Int32.ofNat (100 * p + g + 1)) (by omega)) (frR_tr (frR_I (a := 85) (j := 4 + m) (x := Int32.ofNat (ρ (4 + m) + 10)) (by omega)) (frR_I (a := 85) (j := 6 + m) (x := 0) (by omega)))), fW.symm, ?_, fun hD => cI_of (m := 2) (fun d hd Q hQ => ?_) rfl hD⟩
          · rw [if_neg (by decide), if_neg ho]
            unfold sTr
            rw [if_pos (show arrP τ ρ m p g from ⟨by rw [e6]; omega, hf⟩)]
            refine mR_e hG (fun j hj => ?_)
            unfold sGo
            rw [eo, if_neg ho, e4, rSet_1, rSet_1, rSet_1, rSet_1, rSet_1, rSet_1]
            by_cases k6 : j = 6 + m
            · rw [if_pos k6, if_pos k6]
            · rw [if_neg k6, if_neg k6]
              by_cases k2 : j = 2 + m
              · rw [if_pos k2, if_neg (by omega), if_pos k2]
              · rw [if_neg k2, if_neg k2]
          · have hd1 : 1 ≤ d := by omega
            rw [if_neg (by decide)] at hQ
            have x1 : ((4 + m : Nat) = 2 + m) ↔ False := iff_false_intro (by omega)
            have x2 : ((4 + m : Nat) = 6 + m) ↔ False := iff_false_intro (by omega)
            have g0 := fun {K : Int32 → Hp → Prop} => g_170 (K := K) (m := m) (p := p) hw hρ hm hs (by omega) hd1
            have g2 := fun {K : Int32 → Hp → Prop} => g_172 (K := K) (m := m) (p := p) (c := g) hw hτ1 hρ1 hv hm (by rw [eo2]; exact hs') (by omega) (by omega) hd
            have g6 := fun {K : Hp → Prop} => g_176 (K := K) (σ := uI σ 85 (6 + m) (Int32.ofNat (ρ (6 + m) + 1))) (m := m) (x := Int32.ofNat m) (p := p) (c := g) hw rfl hm hd1
            have a10 : Int32.ofNat (ρ (4 + m)) + (10 : Int32) = Int32.ofNat (ρ (4 + m) + 10) := of_add (b := 10)
            refine b199_0 ?_
            simp only [↓br_pos, ↓br_neg, ↓rF_I, ↓rF_L, ↓rF_R, ↓rF_N, rO_m, rB_m, ↓rI_m, wI_m, ↓rB2_m, ↓rB3_m, wB2_m, wB3_m, ↓rL_m, wL_m, ↓rQ_m, wQ_m, ↓lI_m, pI_m, pL_m, pR_m, sI_m, sBy_m, sBo_m, sL_m, sQ_m, fst_m, true_and, and_true, tg_some, ln_some, uI_1, uI_2, uL_1, uL_2, uL_3, uQ_1, uQ_2, uQ_3, rv_i, rv_l, rv_n, rv_b0, rv_b1, RMR, ne_eq, reduceCtorEq, not_false_eq_true, Option.getD_some, if_true, if_false, and_self, false_and, and_false, Nat.add_left_cancel_iff, Nat.add_eq_left, Nat.left_eq_add, Nat.one_ne_zero, Nat.reduceAdd, Nat.reduceLT, Nat.reduceLeDiff, Nat.reduceEqDiff, true_implies, false_implies, implies_true, Option.some.injEq, forall_eq', forall_eq, reduceCtorEq, brT, brF, br_s, i_10, i_01, ib_0_2, ib_1_2, tn_0, tn_1, Int32.le_refl, eq_self, rv_bN, rv_iM, RCM 81, RLY, lit_at hw, g0, iB_f ho, z00, ad_2, ad_4, ad_6, ad_8, ad_10, ad_12, ad_16, ad_24, ad_27, ad_28, ad_31, ad_35, ad_43, ad_51, ad_107, ad_131, ad_311, ml_3, ml_6, ml_7, ml_60, ml_100, ml_2471, mq_12, ar_2, ar_3, ar_4, ar_5, ar_6, of_add, of_mul, on_succ, mr hρ (by omega : 6 + m < 2471), c10]
            refine b199_48 ?_
            simp only [↓br_pos, ↓br_neg, ↓rF_I, ↓rF_L, ↓rF_R, ↓rF_N, rO_m, rB_m, ↓rI_m, wI_m, ↓rB2_m, ↓rB3_m, wB2_m, wB3_m, ↓rL_m, wL_m, ↓rQ_m, wQ_m, ↓lI_m, pI_m, pL_m, pR_m, sI_m, sBy_m, sBo_m, sL_m, sQ_m, fst_m, true_and, and_true, tg_some, ln_some, uI_1, uI_2, uL_1, uL_2, uL_3, uQ_1, uQ_2, uQ_3, rv_i, rv_l, rv_n, rv_b0, rv_b1, RMR, ne_eq, reduceCtorEq, not_false_eq_true, Option.getD_some, if_true, if_false, and_self, false_and, and_false, Nat.add_left_cancel_iff, Nat.add_eq_left, Nat.left_eq_add, Nat.one_ne_zero, Nat.reduceAdd, Nat.reduceLT, Nat.reduceLeDiff, Nat.reduceEqDiff, true_implies, false_implies, implies_true, Option.some.injEq, forall_eq', forall_eq, reduceCtorEq, brT, brF, br_s, i_10, i_01, ib_0_2, ib_1_2, tn_0, tn_1, Int32.le_refl, eq_self, rv_bN, rv_iM, RCM 81, RLY, lit_at hw, ad_2, ad_4, ad_6, ad_8, ad_10, ad_12, ad_16, ad_24, ad_27, ad_28, ad_31, ad_35, ad_43, ad_51, ad_107, ad_131, ad_311, ml_3, ml_6, ml_7, ml_60, ml_100, ml_2471, mq_12, ar_2, ar_3, ar_4, ar_5, ar_6, of_add, of_mul, on_succ, ix (by omega : 6 + m < 2471) (by omega), c11, g2, iB_t hf1, z10, g6, mr hρ (by omega : 4 + m < 2471), x1, x2, a10]
            exact hQ
        · have hf1 : ¬ frP τ (way1 ρ m) m p g := fun q => hf ((frP_w hm).mp q)
          refine ⟨_, false, frR_I (a := 85) (j := 6 + m) (x := Int32.ofNat (ρ (6 + m) + 1)) (by omega), fW.symm, ?_, fun hD => cI_of (m := 2) (fun d hd Q hQ => ?_) rfl hD⟩
          · rw [if_neg (by decide), if_neg ho]
            unfold sTr
            rw [if_neg (fun q : arrP τ ρ m p g => hf q.2)]
            exact hρ1
          · have hd1 : 1 ≤ d := by omega
            rw [if_neg (by decide)] at hQ
            have g0 := fun {K : Int32 → Hp → Prop} => g_170 (K := K) (m := m) (p := p) hw hρ hm hs (by omega) hd1
            have g2 := fun {K : Int32 → Hp → Prop} => g_172 (K := K) (m := m) (p := p) (c := g) hw hτ1 hρ1 hv hm (by rw [eo2]; exact hs') (by omega) (by omega) hd
            refine b199_0 ?_
            simp only [↓br_pos, ↓br_neg, ↓rF_I, ↓rF_L, ↓rF_R, ↓rF_N, rO_m, rB_m, ↓rI_m, wI_m, ↓rB2_m, ↓rB3_m, wB2_m, wB3_m, ↓rL_m, wL_m, ↓rQ_m, wQ_m, ↓lI_m, pI_m, pL_m, pR_m, sI_m, sBy_m, sBo_m, sL_m, sQ_m, fst_m, true_and, and_true, tg_some, ln_some, uI_1, uI_2, uL_1, uL_2, uL_3, uQ_1, uQ_2, uQ_3, rv_i, rv_l, rv_n, rv_b0, rv_b1, RMR, ne_eq, reduceCtorEq, not_false_eq_true, Option.getD_some, if_true, if_false, and_self, false_and, and_false, Nat.add_left_cancel_iff, Nat.add_eq_left, Nat.left_eq_add, Nat.one_ne_zero, Nat.reduceAdd, Nat.reduceLT, Nat.reduceLeDiff, Nat.reduceEqDiff, true_implies, false_implies, implies_true, Option.some.injEq, forall_eq', forall_eq, reduceCtorEq, brT, brF, br_s, i_10, i_01, ib_0_2, ib_1_2, tn_0, tn_1, Int32.le_refl, eq_self, rv_bN, rv_iM, RCM 81, RLY, lit_at hw, g0, iB_f ho, z00, ad_2, ad_4, ad_6, ad_8, ad_10, ad_12, ad_16, ad_24, ad_27, ad_28, ad_31, ad_35, ad_43, ad_51, ad_107, ad_131, ad_311, ml_3, ml_6, ml_7, ml_60, ml_100, ml_2471, mq_12, ar_2, ar_3, ar_4, ar_5, ar_6, of_add, of_mul, on_succ, mr hρ (by omega : 6 + m < 2471), c10]
            refine b199_48 ?_
            simp only [↓br_pos, ↓br_neg, ↓rF_I, ↓rF_L, ↓rF_R, ↓rF_N, rO_m, rB_m, ↓rI_m, wI_m, ↓rB2_m, ↓rB3_m, wB2_m, wB3_m, ↓rL_m, wL_m, ↓rQ_m, wQ_m, ↓lI_m, pI_m, pL_m, pR_m, sI_m, sBy_m, sBo_m, sL_m, sQ_m, fst_m, true_and, and_true, tg_some, ln_some, uI_1, uI_2, uL_1, uL_2, uL_3, uQ_1, uQ_2, uQ_3, rv_i, rv_l, rv_n, rv_b0, rv_b1, RMR, ne_eq, reduceCtorEq, not_false_eq_true, Option.getD_some, if_true, if_false, and_self, false_and, and_false, Nat.add_left_cancel_iff, Nat.add_eq_left, Nat.left_eq_add, Nat.one_ne_zero, Nat.reduceAdd, Nat.reduceLT, Nat.reduceLeDiff, Nat.reduceEqDiff, true_implies, false_implies, implies_true, Option.some.injEq, forall_eq', forall_eq, reduceCtorEq, brT, brF, br_s, i_10, i_01, ib_0_2, ib_1_2, tn_0, tn_1, Int32.le_refl, eq_self, rv_bN, rv_iM, RCM 81, RLY, lit_at hw, ad_2, ad_4, ad_6, ad_8, ad_10, ad_12, ad_16, ad_24, ad_27, ad_28, ad_31, ad_35, ad_43, ad_51, ad_107, ad_131, ad_311, ml_3, ml_6, ml_7, ml_60, ml_100, ml_2471, mq_12, ar_2, ar_3, ar_4, ar_5, ar_6, of_add, of_mul, on_succ, ix (by omega : 6 + m < 2471) (by omega), c11, g2, iB_f hf1, z00]
            exact b199_88 ⟨rfl, hQ⟩
      · have c11 : ((10 : Int32) ≤ Int32.ofNat (ρ (6 + m) + 1)) ↔ False := iff_false_intro (fun q => absurd ((on_le (i := 10) (by omega) (by omega)).mp q) (by omega))
        refine ⟨_, false, frR_I (a := 85) (j := 6 + m) (x := Int32.ofNat (ρ (6 + m) + 1)) (by omega), fW.symm, ?_, fun hD => cI_of (m := 2) (fun d hd Q hQ => ?_) rfl hD⟩
        · rw [if_neg (by decide), if_neg ho]
          unfold sTr
          rw [if_neg (fun q : arrP τ ρ m p g => q.1 (by rw [e6]; omega))]
          exact hρ1
        · have hd1 : 1 ≤ d := by omega
          rw [if_neg (by decide)] at hQ
          have g0 := fun {K : Int32 → Hp → Prop} => g_170 (K := K) (m := m) (p := p) hw hρ hm hs (by omega) hd1
          refine b199_0 ?_
          simp only [↓br_pos, ↓br_neg, ↓rF_I, ↓rF_L, ↓rF_R, ↓rF_N, rO_m, rB_m, ↓rI_m, wI_m, ↓rB2_m, ↓rB3_m, wB2_m, wB3_m, ↓rL_m, wL_m, ↓rQ_m, wQ_m, ↓lI_m, pI_m, pL_m, pR_m, sI_m, sBy_m, sBo_m, sL_m, sQ_m, fst_m, true_and, and_true, tg_some, ln_some, uI_1, uI_2, uL_1, uL_2, uL_3, uQ_1, uQ_2, uQ_3, rv_i, rv_l, rv_n, rv_b0, rv_b1, RMR, ne_eq, reduceCtorEq, not_false_eq_true, Option.getD_some, if_true, if_false, and_self, false_and, and_false, Nat.add_left_cancel_iff, Nat.add_eq_left, Nat.left_eq_add, Nat.one_ne_zero, Nat.reduceAdd, Nat.reduceLT, Nat.reduceLeDiff, Nat.reduceEqDiff, true_implies, false_implies, implies_true, Option.some.injEq, forall_eq', forall_eq, reduceCtorEq, brT, brF, br_s, i_10, i_01, ib_0_2, ib_1_2, tn_0, tn_1, Int32.le_refl, eq_self, rv_bN, rv_iM, RCM 81, RLY, lit_at hw, g0, iB_f ho, z00, ad_2, ad_4, ad_6, ad_8, ad_10, ad_12, ad_16, ad_24, ad_27, ad_28, ad_31, ad_35, ad_43, ad_51, ad_107, ad_131, ad_311, ml_3, ml_6, ml_7, ml_60, ml_100, ml_2471, mq_12, ar_2, ar_3, ar_4, ar_5, ar_6, of_add, of_mul, on_succ, mr hρ (by omega : 6 + m < 2471), c10]
          refine b199_48 ?_
          simp only [↓br_pos, ↓br_neg, ↓rF_I, ↓rF_L, ↓rF_R, ↓rF_N, rO_m, rB_m, ↓rI_m, wI_m, ↓rB2_m, ↓rB3_m, wB2_m, wB3_m, ↓rL_m, wL_m, ↓rQ_m, wQ_m, ↓lI_m, pI_m, pL_m, pR_m, sI_m, sBy_m, sBo_m, sL_m, sQ_m, fst_m, true_and, and_true, tg_some, ln_some, uI_1, uI_2, uL_1, uL_2, uL_3, uQ_1, uQ_2, uQ_3, rv_i, rv_l, rv_n, rv_b0, rv_b1, RMR, ne_eq, reduceCtorEq, not_false_eq_true, Option.getD_some, if_true, if_false, and_self, false_and, and_false, Nat.add_left_cancel_iff, Nat.add_eq_left, Nat.left_eq_add, Nat.one_ne_zero, Nat.reduceAdd, Nat.reduceLT, Nat.reduceLeDiff, Nat.reduceEqDiff, true_implies, false_implies, implies_true, Option.some.injEq, forall_eq', forall_eq, reduceCtorEq, brT, brF, br_s, i_10, i_01, ib_0_2, ib_1_2, tn_0, tn_1, Int32.le_refl, eq_self, rv_bN, rv_iM, RCM 81, RLY, lit_at hw, ad_2, ad_4, ad_6, ad_8, ad_10, ad_12, ad_16, ad_24, ad_27, ad_28, ad_31, ad_35, ad_43, ad_51, ad_107, ad_131, ad_311, ml_3, ml_6, ml_7, ml_60, ml_100, ml_2471, mq_12, ar_2, ar_3, ar_4, ar_5, ar_6, of_add, of_mul, on_succ, ix (by omega : 6 + m < 2471) (by omega), c11]
          exact hQ
