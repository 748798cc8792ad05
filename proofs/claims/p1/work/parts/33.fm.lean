theorem fr_132 {w : mT} {σ : mS} {D : Nat} {K : Int32 → Hp → Prop} (hw : lit w) (hs : σ.1 81 3 = 0) (hD : 1 ≤ D) : wpI D 132 [.ref 81, .int 0] (mW w σ) K ↔ K (-1) (mW w σ) := by
  refine cI_of (m := 0) (fun d hd Q hQ => ?_) rfl hD
  refine b132_0 ?_
  simp only [↓rF_I, ↓rF_L, ↓rF_R, ↓rF_N, rO_m, rB_m, ↓rI_m, wI_m, ↓rB2_m, ↓rB3_m, wB2_m, wB3_m, ↓rL_m, wL_m, ↓rQ_m, wQ_m, ↓lI_m, pI_m, pL_m, pR_m, sI_m, sBy_m, sBo_m, sL_m, sQ_m, fst_m, true_and, and_true, tg_some, ln_some, uI_1, uI_2, uL_1, uL_2, uL_3, uQ_1, uQ_2, uQ_3, rv_i, rv_l, rv_n, rv_b0, rv_b1, RMR, ne_eq, reduceCtorEq, not_false_eq_true, Option.getD_some, if_true, if_false, and_self, false_and, and_false, Nat.add_left_cancel_iff, Nat.add_eq_left, Nat.left_eq_add, Nat.one_ne_zero, Nat.reduceAdd, Nat.reduceLT, Nat.reduceLeDiff, Nat.reduceEqDiff, RCX 0, RCG 2, RCT 4, RCT 15, RCT 25, RCS 35, RCS 49, RCH 63, RCP 67, RCB 72, RCR 77, RCM 81, RLY, lit_at hw, true_implies, false_implies, implies_true, Option.some.injEq, forall_eq', forall_eq, reduceCtorEq, brT, brF, br_s, i_10, i_01, ib_0_2, ib_1_2, tn_0, tn_1, Int32.le_refl, eq_self, hs]
  exact hQ
theorem m1_32 : ((-1 : Int32) = 32) ↔ False := iff_false_intro (by decide)
theorem m1_10 : ((-1 : Int32) = 10) ↔ False := iff_false_intro (by decide)
theorem m1_0 : ((-1 : Int32) < 0) ↔ True := iff_true_intro (by decide)
theorem m1_00 : ((0 : Int32) ≤ -1) ↔ False := iff_false_intro (by decide)
def go0 (σ : mS) : mS := uI (uI (uI (uI σ 81 4 0) 81 7 0) 81 8 0) 81 6 0
theorem fr_133 {w : mT} {σ : mS} {D : Nat} {K : Hp → Prop} (hw : lit w) (hs : σ.1 81 3 = 0) (hn : σ.1 81 5 = 0) (hD : 2 ≤ D) : wpV D 133 [.ref 81] (mW w σ) K ↔ K (mW w (go0 σ)) := by
  refine cV_of (m := 1) (fun d hd Q hQ => ?_) rfl hD
  have h2 : (uI (uI (uI σ 81 4 0) 81 7 0) 81 8 0).1 81 3 = 0 := by simp [uI_1, hs]
  have hd1 : 1 ≤ d := hd
  refine b133_0 ?_
  simp only [↓rF_I, ↓rF_L, ↓rF_R, ↓rF_N, rO_m, rB_m, ↓rI_m, wI_m, ↓rB2_m, ↓rB3_m, wB2_m, wB3_m, ↓rL_m, wL_m, ↓rQ_m, wQ_m, ↓lI_m, pI_m, pL_m, pR_m, sI_m, sBy_m, sBo_m, sL_m, sQ_m, fst_m, true_and, and_true, tg_some, ln_some, uI_1, uI_2, uL_1, uL_2, uL_3, uQ_1, uQ_2, uQ_3, rv_i, rv_l, rv_n, rv_b0, rv_b1, RMR, ne_eq, reduceCtorEq, not_false_eq_true, Option.getD_some, if_true, if_false, and_self, false_and, and_false, Nat.add_left_cancel_iff, Nat.add_eq_left, Nat.left_eq_add, Nat.one_ne_zero, Nat.reduceAdd, Nat.reduceLT, Nat.reduceLeDiff, Nat.reduceEqDiff, RCX 0, RCG 2, RCT 4, RCT 15, RCT 25, RCS 35, RCS 49, RCH 63, RCP 67, RCB 72, RCR 77, RCM 81, RLY, lit_at hw, true_implies, false_implies, implies_true, Option.some.injEq, forall_eq', forall_eq, reduceCtorEq, brT, brF, br_s, i_10, i_01, ib_0_2, ib_1_2, tn_0, tn_1, Int32.le_refl, eq_self, hn, fr_132 hw hs hd1, fr_132 hw h2 hd1, m1_32, m1_10, m1_0, m1_00, Nat.reduceEqDiff]
  exact hQ
theorem lp_150b {w : mT} {d : Nat} {Q : Option (Option Value) → Hp → Prop} (hw : lit w) : ∀ (n i : Nat) (σ : mS), i + n = 12 → (∀ σ', Q (some none) (mW w σ')) → Wp 150 24 [.ref 81, .int (Int32.ofNat i)] [] (mW w σ) Q d := by
  intro n
  induction n with
  | zero =>
    intro i σ hi hQ
    refine b150_24 ?_
    simp only [↓rF_I, ↓rF_L, ↓rF_R, ↓rF_N, rO_m, rB_m, ↓rI_m, wI_m, ↓rB2_m, ↓rB3_m, wB2_m, wB3_m, ↓rL_m, wL_m, ↓rQ_m, wQ_m, ↓lI_m, pI_m, pL_m, pR_m, sI_m, sBy_m, sBo_m, sL_m, sQ_m, fst_m, true_and, and_true, tg_some, ln_some, uI_1, uI_2, uL_1, uL_2, uL_3, uQ_1, uQ_2, uQ_3, rv_i, rv_l, rv_n, rv_b0, rv_b1, RMR, ne_eq, reduceCtorEq, not_false_eq_true, Option.getD_some, if_true, if_false, and_self, false_and, and_false, Nat.add_left_cancel_iff, Nat.add_eq_left, Nat.left_eq_add, Nat.one_ne_zero, Nat.reduceAdd, Nat.reduceLT, Nat.reduceLeDiff, Nat.reduceEqDiff, RCX 0, RCG 2, RCT 4, RCT 15, RCT 25, RCS 35, RCS 49, RCH 63, RCP 67, RCB 72, RCR 77, RCM 81, RLY, lit_at hw, true_implies, false_implies, implies_true, Option.some.injEq, forall_eq', forall_eq, reduceCtorEq, brT, brF, br_s, i_10, i_01, ib_0_2, ib_1_2, tn_0, tn_1, Int32.le_refl, eq_self, yle (x := 12) (c := 12) (i := i) rfl (by omega) (by omega)]
    exact hQ σ
  | succ n ih =>
    intro i σ hi hQ
    refine b150_24 ?_
    simp only [↓rF_I, ↓rF_L, ↓rF_R, ↓rF_N, rO_m, rB_m, ↓rI_m, wI_m, ↓rB2_m, ↓rB3_m, wB2_m, wB3_m, ↓rL_m, wL_m, ↓rQ_m, wQ_m, ↓lI_m, pI_m, pL_m, pR_m, sI_m, sBy_m, sBo_m, sL_m, sQ_m, fst_m, true_and, and_true, tg_some, ln_some, uI_1, uI_2, uL_1, uL_2, uL_3, uQ_1, uQ_2, uQ_3, rv_i, rv_l, rv_n, rv_b0, rv_b1, RMR, ne_eq, reduceCtorEq, not_false_eq_true, Option.getD_some, if_true, if_false, and_self, false_and, and_false, Nat.add_left_cancel_iff, Nat.add_eq_left, Nat.left_eq_add, Nat.one_ne_zero, Nat.reduceAdd, Nat.reduceLT, Nat.reduceLeDiff, Nat.reduceEqDiff, RCX 0, RCG 2, RCT 4, RCT 15, RCT 25, RCS 35, RCS 49, RCH 63, RCP 67, RCB 72, RCR 77, RCM 81, RLY, lit_at hw, true_implies, false_implies, implies_true, Option.some.injEq, forall_eq', forall_eq, reduceCtorEq, brT, brF, br_s, i_10, i_01, ib_0_2, ib_1_2, tn_0, tn_1, Int32.le_refl, eq_self, nle (x := 12) (c := 12) (i := i) rfl (by omega) (by omega), ib_ad (a := 4) (i := i) (n := 102) (by decide) (by rw [show (4 : Int32).toInt = 4 by decide]; omega) (by decide), ib_ad (a := 12) (i := i) (n := 2471) (by decide) (by rw [show (12 : Int32).toInt = 12 by decide]; omega) (by decide), on_succ]
    exact ih (i + 1) _ (by omega) hQ
theorem lp_150a {w : mT} {d : Nat} {Q : Option (Option Value) → Hp → Prop} (hw : lit w) : ∀ (n i : Nat) (σ : mS), i + n = 2471 → (∀ σ', Q (some none) (mW w σ')) → Wp 150 2 [.ref 81, .int (Int32.ofNat i)] [] (mW w σ) Q d := by
  intro n
  induction n with
  | zero =>
    intro i σ hi hQ
    refine b150_2 ?_
    simp only [↓rF_I, ↓rF_L, ↓rF_R, ↓rF_N, rO_m, rB_m, ↓rI_m, wI_m, ↓rB2_m, ↓rB3_m, wB2_m, wB3_m, ↓rL_m, wL_m, ↓rQ_m, wQ_m, ↓lI_m, pI_m, pL_m, pR_m, sI_m, sBy_m, sBo_m, sL_m, sQ_m, fst_m, true_and, and_true, tg_some, ln_some, uI_1, uI_2, uL_1, uL_2, uL_3, uQ_1, uQ_2, uQ_3, rv_i, rv_l, rv_n, rv_b0, rv_b1, RMR, ne_eq, reduceCtorEq, not_false_eq_true, Option.getD_some, if_true, if_false, and_self, false_and, and_false, Nat.add_left_cancel_iff, Nat.add_eq_left, Nat.left_eq_add, Nat.one_ne_zero, Nat.reduceAdd, Nat.reduceLT, Nat.reduceLeDiff, Nat.reduceEqDiff, RCX 0, RCG 2, RCT 4, RCT 15, RCT 25, RCS 35, RCS 49, RCH 63, RCP 67, RCB 72, RCR 77, RCM 81, RLY, lit_at hw, true_implies, false_implies, implies_true, Option.some.injEq, forall_eq', forall_eq, reduceCtorEq, brT, brF, br_s, i_10, i_01, ib_0_2, ib_1_2, tn_0, tn_1, Int32.le_refl, eq_self, yle (x := 2471) (c := 2471) (i := i) rfl (by omega) (by omega)]
    exact lp_150b hw 12 0 σ rfl hQ
  | succ n ih =>
    intro i σ hi hQ
    refine b150_2 ?_
    simp only [↓rF_I, ↓rF_L, ↓rF_R, ↓rF_N, rO_m, rB_m, ↓rI_m, wI_m, ↓rB2_m, ↓rB3_m, wB2_m, wB3_m, ↓rL_m, wL_m, ↓rQ_m, wQ_m, ↓lI_m, pI_m, pL_m, pR_m, sI_m, sBy_m, sBo_m, sL_m, sQ_m, fst_m, true_and, and_true, tg_some, ln_some, uI_1, uI_2, uL_1, uL_2, uL_3, uQ_1, uQ_2, uQ_3, rv_i, rv_l, rv_n, rv_b0, rv_b1, RMR, ne_eq, reduceCtorEq, not_false_eq_true, Option.getD_some, if_true, if_false, and_self, false_and, and_false, Nat.add_left_cancel_iff, Nat.add_eq_left, Nat.left_eq_add, Nat.one_ne_zero, Nat.reduceAdd, Nat.reduceLT, Nat.reduceLeDiff, Nat.reduceEqDiff, RCX 0, RCG 2, RCT 4, RCT 15, RCT 25, RCS 35, RCS 49, RCH 63, RCP 67, RCB 72, RCR 77, RCM 81, RLY, lit_at hw, true_implies, false_implies, implies_true, Option.some.injEq, forall_eq', forall_eq, reduceCtorEq, brT, brF, br_s, i_10, i_01, ib_0_2, ib_1_2, tn_0, tn_1, Int32.le_refl, eq_self, nle (x := 2471) (c := 2471) (i := i) rfl (by omega) (by omega), on_inB (i := i) (n := 2471) (by omega) (by omega), on_nat (i := i) (by omega), on_succ]
    exact ih (i + 1) _ (by omega) hQ
theorem ex_150 {w : mT} {σ : mS} {D : Nat} (hw : lit w) (hD : 1 ≤ D) : ∃ w' σ', (w' = w) ∧ ∀ K, wpV D 150 [.ref 81] (mW w σ) K ↔ K (mW w' σ') := by
  refine cV_ex (m := 0) (P := fun w' _ => w' = w) (fun d hd Q hQ => ?_) rfl hD
  exact b150_0 (lp_150a hw 2471 0 σ rfl (fun σ' => hQ w σ' rfl))
theorem lp_148c {w : mT} {d : Nat} {Q : Option (Option Value) → Hp → Prop} (hw : lit w) (hd : 1 ≤ d) : ∀ (n i : Nat) (σ : mS), i + n = 102 → (∀ σ', Q (some (some (.int 0))) (mW w σ')) → Wp 148 150 [.ref 81, .int 0, .int 0, .int 1, .int (Int32.ofNat i)] [] (mW w σ) Q d := by
  intro n
  induction n with
  | zero =>
    intro i σ hi hQ
    obtain ⟨w2, σ2, rfl, p2⟩ := ex_150 (σ := σ) (D := d) hw hd
    refine b148_150 ?_
    simp only [↓rF_I, ↓rF_L, ↓rF_R, ↓rF_N, rO_m, rB_m, ↓rI_m, wI_m, ↓rB2_m, ↓rB3_m, wB2_m, wB3_m, ↓rL_m, wL_m, ↓rQ_m, wQ_m, ↓lI_m, pI_m, pL_m, pR_m, sI_m, sBy_m, sBo_m, sL_m, sQ_m, fst_m, true_and, and_true, tg_some, ln_some, uI_1, uI_2, uL_1, uL_2, uL_3, uQ_1, uQ_2, uQ_3, rv_i, rv_l, rv_n, rv_b0, rv_b1, RMR, ne_eq, reduceCtorEq, not_false_eq_true, Option.getD_some, if_true, if_false, and_self, false_and, and_false, Nat.add_left_cancel_iff, Nat.add_eq_left, Nat.left_eq_add, Nat.one_ne_zero, Nat.reduceAdd, Nat.reduceLT, Nat.reduceLeDiff, Nat.reduceEqDiff, RCX 0, RCG 2, RCT 4, RCT 15, RCT 25, RCS 35, RCS 49, RCH 63, RCP 67, RCB 72, RCR 77, RCM 81, RLY, lit_at hw, true_implies, false_implies, implies_true, Option.some.injEq, forall_eq', forall_eq, reduceCtorEq, brT, brF, br_s, i_10, i_01, ib_0_2, ib_1_2, tn_0, tn_1, Int32.le_refl, eq_self, yle (x := 102) (c := 102) (i := i) rfl (by omega) (by omega), p2]
    exact hQ _
  | succ n ih =>
    intro i σ hi hQ
    refine b148_150 ?_
    simp only [↓rF_I, ↓rF_L, ↓rF_R, ↓rF_N, rO_m, rB_m, ↓rI_m, wI_m, ↓rB2_m, ↓rB3_m, wB2_m, wB3_m, ↓rL_m, wL_m, ↓rQ_m, wQ_m, ↓lI_m, pI_m, pL_m, pR_m, sI_m, sBy_m, sBo_m, sL_m, sQ_m, fst_m, true_and, and_true, tg_some, ln_some, uI_1, uI_2, uL_1, uL_2, uL_3, uQ_1, uQ_2, uQ_3, rv_i, rv_l, rv_n, rv_b0, rv_b1, RMR, ne_eq, reduceCtorEq, not_false_eq_true, Option.getD_some, if_true, if_false, and_self, false_and, and_false, Nat.add_left_cancel_iff, Nat.add_eq_left, Nat.left_eq_add, Nat.one_ne_zero, Nat.reduceAdd, Nat.reduceLT, Nat.reduceLeDiff, Nat.reduceEqDiff, RCX 0, RCG 2, RCT 4, RCT 15, RCT 25, RCS 35, RCS 49, RCH 63, RCP 67, RCB 72, RCR 77, RCM 81, RLY, lit_at hw, true_implies, false_implies, implies_true, Option.some.injEq, forall_eq', forall_eq, reduceCtorEq, brT, brF, br_s, i_10, i_01, ib_0_2, ib_1_2, tn_0, tn_1, Int32.le_refl, eq_self, nle (x := 102) (c := 102) (i := i) rfl (by omega) (by omega), on_inB (i := i) (n := 102) (by omega) (by omega), on_nat (i := i) (by omega), on_succ]
    exact ih (i + 1) _ (by omega) hQ
theorem lp_148a {w : mT} {d : Nat} {Q : Option (Option Value) → Hp → Prop} (hw : lit w) (hd : 2 ≤ d) : ∀ (n i : Nat) (σ : mS), σ.1 81 3 = 0 → σ.1 81 5 = 0 → i + n = 102 → (∀ σ', Q (some (some (.int 0))) (mW w σ')) → Wp 148 53 [.ref 81, .int 0, .int (Int32.ofNat i), jk, jk] [] (mW w σ) Q d := by
  intro n
  induction n with
  | zero =>
    intro i σ hs hn hi hQ
    have s1 : (uI σ 84 3 1).1 81 3 = 0 := by simp [uI_1, hs]
    have s2 : (uI σ 84 3 1).1 81 5 = 0 := by simp [uI_1, hn]
    have s3 : (go0 (uI σ 84 3 1)).1 81 6 = 0 := by simp [go0, uI_1]
    refine b148_53 ?_
    simp only [↓rF_I, ↓rF_L, ↓rF_R, ↓rF_N, rO_m, rB_m, ↓rI_m, wI_m, ↓rB2_m, ↓rB3_m, wB2_m, wB3_m, ↓rL_m, wL_m, ↓rQ_m, wQ_m, ↓lI_m, pI_m, pL_m, pR_m, sI_m, sBy_m, sBo_m, sL_m, sQ_m, fst_m, true_and, and_true, tg_some, ln_some, uI_1, uI_2, uL_1, uL_2, uL_3, uQ_1, uQ_2, uQ_3, rv_i, rv_l, rv_n, rv_b0, rv_b1, RMR, ne_eq, reduceCtorEq, not_false_eq_true, Option.getD_some, if_true, if_false, and_self, false_and, and_false, Nat.add_left_cancel_iff, Nat.add_eq_left, Nat.left_eq_add, Nat.one_ne_zero, Nat.reduceAdd, Nat.reduceLT, Nat.reduceLeDiff, Nat.reduceEqDiff, RCX 0, RCG 2, RCT 4, RCT 15, RCT 25, RCS 35, RCS 49, RCH 63, RCP 67, RCB 72, RCR 77, RCM 81, RLY, lit_at hw, true_implies, false_implies, implies_true, Option.some.injEq, forall_eq', forall_eq, reduceCtorEq, brT, brF, br_s, i_10, i_01, ib_0_2, ib_1_2, tn_0, tn_1, Int32.le_refl, eq_self, inB_2471_0, inB_2471_1, inB_2471_2, inB_2471_3, inB_2471_4, inB_2471_5, inB_2471_6, inB_2471_7, inB_2471_8, inB_2471_9, inB_2471_10, inB_2471_11, inB_2471_12, inB_2471_13, inB_2471_14, inB_2471_15, inB_2471_16, inB_102_0, inB_102_1, inB_102_2, inB_102_3, yle (x := 102) (c := 102) (i := i) rfl (by omega) (by omega), tn_3, fr_133 hw s1 s2 hd]
    refine b148_87 ?_
    simp only [↓rF_I, ↓rF_L, ↓rF_R, ↓rF_N, rO_m, rB_m, ↓rI_m, wI_m, ↓rB2_m, ↓rB3_m, wB2_m, wB3_m, ↓rL_m, wL_m, ↓rQ_m, wQ_m, ↓lI_m, pI_m, pL_m, pR_m, sI_m, sBy_m, sBo_m, sL_m, sQ_m, fst_m, true_and, and_true, tg_some, ln_some, uI_1, uI_2, uL_1, uL_2, uL_3, uQ_1, uQ_2, uQ_3, rv_i, rv_l, rv_n, rv_b0, rv_b1, RMR, ne_eq, reduceCtorEq, not_false_eq_true, Option.getD_some, if_true, if_false, and_self, false_and, and_false, Nat.add_left_cancel_iff, Nat.add_eq_left, Nat.left_eq_add, Nat.one_ne_zero, Nat.reduceAdd, Nat.reduceLT, Nat.reduceLeDiff, Nat.reduceEqDiff, RCX 0, RCG 2, RCT 4, RCT 15, RCT 25, RCS 35, RCS 49, RCH 63, RCP 67, RCB 72, RCR 77, RCM 81, RLY, lit_at hw, true_implies, false_implies, implies_true, Option.some.injEq, forall_eq', forall_eq, reduceCtorEq, brT, brF, br_s, i_10, i_01, ib_0_2, ib_1_2, tn_0, tn_1, Int32.le_refl, eq_self, s3]
    exact lp_148c hw (by omega) 102 0 _ rfl hQ
  | succ n ih =>
    intro i σ hs hn hi hQ
    refine b148_53 ?_
    simp only [↓rF_I, ↓rF_L, ↓rF_R, ↓rF_N, rO_m, rB_m, ↓rI_m, wI_m, ↓rB2_m, ↓rB3_m, wB2_m, wB3_m, ↓rL_m, wL_m, ↓rQ_m, wQ_m, ↓lI_m, pI_m, pL_m, pR_m, sI_m, sBy_m, sBo_m, sL_m, sQ_m, fst_m, true_and, and_true, tg_some, ln_some, uI_1, uI_2, uL_1, uL_2, uL_3, uQ_1, uQ_2, uQ_3, rv_i, rv_l, rv_n, rv_b0, rv_b1, RMR, ne_eq, reduceCtorEq, not_false_eq_true, Option.getD_some, if_true, if_false, and_self, false_and, and_false, Nat.add_left_cancel_iff, Nat.add_eq_left, Nat.left_eq_add, Nat.one_ne_zero, Nat.reduceAdd, Nat.reduceLT, Nat.reduceLeDiff, Nat.reduceEqDiff, RCX 0, RCG 2, RCT 4, RCT 15, RCT 25, RCS 35, RCS 49, RCH 63, RCP 67, RCB 72, RCR 77, RCM 81, RLY, lit_at hw, true_implies, false_implies, implies_true, Option.some.injEq, forall_eq', forall_eq, reduceCtorEq, brT, brF, br_s, i_10, i_01, ib_0_2, ib_1_2, tn_0, tn_1, Int32.le_refl, eq_self, nle (x := 102) (c := 102) (i := i) rfl (by omega) (by omega), on_inB (i := i) (n := 102) (by omega) (by omega), on_nat (i := i) (by omega), on_succ]
    exact ih (i + 1) _ (by simp [uI_1, hs]) (by simp [uI_1, hn]) (by omega) hQ
theorem ex_148 {w : mT} {σ : mS} {a1 : Int32} {D : Nat} (hw : lit w) (hF : frO σ) (hD : 8 ≤ D) : ∃ w' σ', xt w w' ∧ ∀ K, wpI D 148 [.ref 81, .int a1] (mW w σ) K ↔ K (sT a1) (mW w' σ') := by
  have hG := hF
  unfold frO at hF
  have hU : uI σ 81 0 0 = σ := uI_same hF.1
  refine cI_ex (m := 7) (fun d hd Q hQ => ?_) rfl hD
  have hd1 : 1 ≤ d := by omega
  have hd2 : 2 ≤ d := by omega
  have hd3 : 3 ≤ d := by omega
  have hd4 : 4 ≤ d := by omega
  have hd5 : 5 ≤ d := by omega
  have hd6 : 6 ≤ d := by omega
  have hd7 : 7 ≤ d := by omega
  refine b148_0 ?_
  have ev : vin (Int32.toInt64 a1) 0 (Int32.toInt64 0) = if a1 = 0 then 1 else 0 := by
    unfold vin
    rw [Int32.toInt_toInt64, Int32.toInt_toInt64, show (0 : Int64).toInt = 0 by decide, show (0 : Int32).toInt = 0 by decide]
    by_cases q : a1 = 0
    · rw [if_pos q, q]; decide
    · rw [if_neg q, if_neg]
      intro z
      exact q (Int32.toInt_inj.mp (by rw [show (0 : Int32).toInt = 0 by decide]; omega))
  by_cases h : a1 = 0
  · rw [sT, if_pos h] at hQ
    rw [if_pos h] at ev
    subst h
    simp only [↓rF_I, ↓rF_L, ↓rF_R, ↓rF_N, rO_m, rB_m, ↓rI_m, wI_m, ↓rB2_m, ↓rB3_m, wB2_m, wB3_m, ↓rL_m, wL_m, ↓rQ_m, wQ_m, ↓lI_m, pI_m, pL_m, pR_m, sI_m, sBy_m, sBo_m, sL_m, sQ_m, fst_m, true_and, and_true, tg_some, ln_some, uI_1, uI_2, uL_1, uL_2, uL_3, uQ_1, uQ_2, uQ_3, rv_i, rv_l, rv_n, rv_b0, rv_b1, RMR, ne_eq, reduceCtorEq, not_false_eq_true, Option.getD_some, if_true, if_false, and_self, false_and, and_false, Nat.add_left_cancel_iff, Nat.add_eq_left, Nat.left_eq_add, Nat.one_ne_zero, Nat.reduceAdd, Nat.reduceLT, Nat.reduceLeDiff, Nat.reduceEqDiff, RCX 0, RCG 2, RCT 4, RCT 15, RCT 25, RCS 35, RCS 49, RCH 63, RCP 67, RCB 72, RCR 77, RCM 81, RLY, lit_at hw, true_implies, false_implies, implies_true, Option.some.injEq, forall_eq', forall_eq, reduceCtorEq, brT, brF, br_s, i_10, i_01, ib_0_2, ib_1_2, tn_0, tn_1, Int32.le_refl, eq_self, hF, hU, fr_129, fr_128, vin_z0, vin_z1, vin_z2, vin_z3, vin_z4, vin_z5, rv_vin, tn_2, tn_3, inB_102_0, inB_102_1, inB_102_2, inB_102_3, inB_2471_0, inB_2471_1, inB_2471_2, inB_2471_3, inB_2471_4, inB_2471_5, inB_2471_6, inB_2471_7, inB_2471_8, inB_2471_9, inB_2471_10, inB_2471_11, inB_2471_12, inB_2471_13, inB_2471_14, inB_2471_15, inB_2471_16, hd1, hd2, hd3, hd4, hd5, hd6, hd7, ev]
    refine lp_148a hw (by omega) 102 0 _ ?_ ?_ rfl (fun σ' => hQ _ _ (xt_rf hw)) <;> simp [uI_1, hF]
  · rw [sT, if_neg h] at hQ
    rw [if_neg h] at ev
    simp only [↓rF_I, ↓rF_L, ↓rF_R, ↓rF_N, rO_m, rB_m, ↓rI_m, wI_m, ↓rB2_m, ↓rB3_m, wB2_m, wB3_m, ↓rL_m, wL_m, ↓rQ_m, wQ_m, ↓lI_m, pI_m, pL_m, pR_m, sI_m, sBy_m, sBo_m, sL_m, sQ_m, fst_m, true_and, and_true, tg_some, ln_some, uI_1, uI_2, uL_1, uL_2, uL_3, uQ_1, uQ_2, uQ_3, rv_i, rv_l, rv_n, rv_b0, rv_b1, RMR, ne_eq, reduceCtorEq, not_false_eq_true, Option.getD_some, if_true, if_false, and_self, false_and, and_false, Nat.add_left_cancel_iff, Nat.add_eq_left, Nat.left_eq_add, Nat.one_ne_zero, Nat.reduceAdd, Nat.reduceLT, Nat.reduceLeDiff, Nat.reduceEqDiff, RCX 0, RCG 2, RCT 4, RCT 15, RCT 25, RCS 35, RCS 49, RCH 63, RCP 67, RCB 72, RCR 77, RCM 81, RLY, lit_at hw, true_implies, false_implies, implies_true, Option.some.injEq, forall_eq', forall_eq, reduceCtorEq, brT, brF, br_s, i_10, i_01, ib_0_2, ib_1_2, tn_0, tn_1, Int32.le_refl, eq_self, hF, hU, fr_129, fr_128, vin_z0, vin_z1, vin_z2, vin_z3, vin_z4, vin_z5, rv_vin, tn_2, tn_3, inB_102_0, inB_102_1, inB_102_2, inB_102_3, inB_2471_0, inB_2471_1, inB_2471_2, inB_2471_3, inB_2471_4, inB_2471_5, inB_2471_6, inB_2471_7, inB_2471_8, inB_2471_9, inB_2471_10, inB_2471_11, inB_2471_12, inB_2471_13, inB_2471_14, inB_2471_15, inB_2471_16, hd1, hd2, hd3, hd4, hd5, hd6, hd7, ev]
    exact hQ _ _ (xt_rf hw)
