/-! History: forget, take back, images -/
theorem g_9 {w : mT} {σ : mS} {D : Nat} {K : Hp → Prop} (hw : lit w) (hD : 1 ≤ D) : wpV D 9 [.ref 63] (mW w σ) K ↔ K (mW w (uI (uI (uI σ 63 2 0) 66 0 0) 66 1 0)) := by
  refine cV_of (m := 0) (fun d hd Q hQ => ?_) rfl hD
  have l0 : ((2 : Int32) ≤ 0) ↔ False := by decide
  have l1 : ((2 : Int32) ≤ 0 + 1) ↔ False := by decide
  have l2 : ((2 : Int32) ≤ 0 + 1 + 1) ↔ True := by decide
  have b1 : inB ((0 : Int32) + 1) 2 = true := by decide
  have n1 : ((0 : Int32) + 1).toNatClampNeg = 1 := by decide
  refine b9_0 ?_
  simp only [↓br_pos, ↓br_neg, ↓rF_I, ↓rF_L, ↓rF_R, ↓rF_N, rO_m, rB_m, ↓rI_m, wI_m, ↓rB2_m, ↓rB3_m, wB2_m, wB3_m, ↓rL_m, wL_m, ↓rQ_m, wQ_m, ↓lI_m, pI_m, pL_m, pR_m, sI_m, sBy_m, sBo_m, sL_m, sQ_m, fst_m, true_and, and_true, tg_some, ln_some, uI_1, uI_2, uL_1, uL_2, uL_3, uQ_1, uQ_2, uQ_3, rv_i, rv_l, rv_n, rv_b0, rv_b1, RMR, ne_eq, reduceCtorEq, not_false_eq_true, Option.getD_some, if_true, if_false, and_self, false_and, and_false, Nat.add_left_cancel_iff, Nat.add_eq_left, Nat.left_eq_add, Nat.one_ne_zero, Nat.reduceAdd, Nat.reduceLT, Nat.reduceLeDiff, Nat.reduceEqDiff, true_implies, false_implies, implies_true, Option.some.injEq, forall_eq', forall_eq, reduceCtorEq, brT, brF, br_s, i_10, i_01, ib_0_2, ib_1_2, tn_0, tn_1, Int32.le_refl, eq_self, rv_bN, rv_iM, RCX 0, RCG 2, RCT 4, RCT 15, RCT 25, RCS 35, RCS 49, RCH 63, RCP 67, RCB 72, RCR 77, RCM 81, RLY, lit_at hw]
  refine b9_7 ?_
  simp only [↓br_pos, ↓br_neg, ↓rF_I, ↓rF_L, ↓rF_R, ↓rF_N, rO_m, rB_m, ↓rI_m, wI_m, ↓rB2_m, ↓rB3_m, wB2_m, wB3_m, ↓rL_m, wL_m, ↓rQ_m, wQ_m, ↓lI_m, pI_m, pL_m, pR_m, sI_m, sBy_m, sBo_m, sL_m, sQ_m, fst_m, true_and, and_true, tg_some, ln_some, uI_1, uI_2, uL_1, uL_2, uL_3, uQ_1, uQ_2, uQ_3, rv_i, rv_l, rv_n, rv_b0, rv_b1, RMR, ne_eq, reduceCtorEq, not_false_eq_true, Option.getD_some, if_true, if_false, and_self, false_and, and_false, Nat.add_left_cancel_iff, Nat.add_eq_left, Nat.left_eq_add, Nat.one_ne_zero, Nat.reduceAdd, Nat.reduceLT, Nat.reduceLeDiff, Nat.reduceEqDiff, true_implies, false_implies, implies_true, Option.some.injEq, forall_eq', forall_eq, reduceCtorEq, brT, brF, br_s, i_10, i_01, ib_0_2, ib_1_2, tn_0, tn_1, Int32.le_refl, eq_self, rv_bN, rv_iM, RCX 0, RCG 2, RCT 4, RCT 15, RCT 25, RCS 35, RCS 49, RCH 63, RCP 67, RCB 72, RCR 77, RCM 81, RLY, lit_at hw, l0, nb_0]
  refine b9_7 ?_
  simp only [↓br_pos, ↓br_neg, ↓rF_I, ↓rF_L, ↓rF_R, ↓rF_N, rO_m, rB_m, ↓rI_m, wI_m, ↓rB2_m, ↓rB3_m, wB2_m, wB3_m, ↓rL_m, wL_m, ↓rQ_m, wQ_m, ↓lI_m, pI_m, pL_m, pR_m, sI_m, sBy_m, sBo_m, sL_m, sQ_m, fst_m, true_and, and_true, tg_some, ln_some, uI_1, uI_2, uL_1, uL_2, uL_3, uQ_1, uQ_2, uQ_3, rv_i, rv_l, rv_n, rv_b0, rv_b1, RMR, ne_eq, reduceCtorEq, not_false_eq_true, Option.getD_some, if_true, if_false, and_self, false_and, and_false, Nat.add_left_cancel_iff, Nat.add_eq_left, Nat.left_eq_add, Nat.one_ne_zero, Nat.reduceAdd, Nat.reduceLT, Nat.reduceLeDiff, Nat.reduceEqDiff, true_implies, false_implies, implies_true, Option.some.injEq, forall_eq', forall_eq, reduceCtorEq, brT, brF, br_s, i_10, i_01, ib_0_2, ib_1_2, tn_0, tn_1, Int32.le_refl, eq_self, rv_bN, rv_iM, RCX 0, RCG 2, RCT 4, RCT 15, RCT 25, RCS 35, RCS 49, RCH 63, RCP 67, RCB 72, RCR 77, RCM 81, RLY, lit_at hw, l1, nb_0, b1, n1]
  refine b9_7 ?_
  simp only [↓br_pos, ↓br_neg, ↓rF_I, ↓rF_L, ↓rF_R, ↓rF_N, rO_m, rB_m, ↓rI_m, wI_m, ↓rB2_m, ↓rB3_m, wB2_m, wB3_m, ↓rL_m, wL_m, ↓rQ_m, wQ_m, ↓lI_m, pI_m, pL_m, pR_m, sI_m, sBy_m, sBo_m, sL_m, sQ_m, fst_m, true_and, and_true, tg_some, ln_some, uI_1, uI_2, uL_1, uL_2, uL_3, uQ_1, uQ_2, uQ_3, rv_i, rv_l, rv_n, rv_b0, rv_b1, RMR, ne_eq, reduceCtorEq, not_false_eq_true, Option.getD_some, if_true, if_false, and_self, false_and, and_false, Nat.add_left_cancel_iff, Nat.add_eq_left, Nat.left_eq_add, Nat.one_ne_zero, Nat.reduceAdd, Nat.reduceLT, Nat.reduceLeDiff, Nat.reduceEqDiff, true_implies, false_implies, implies_true, Option.some.injEq, forall_eq', forall_eq, reduceCtorEq, brT, brF, br_s, i_10, i_01, ib_0_2, ib_1_2, tn_0, tn_1, Int32.le_refl, eq_self, rv_bN, rv_iM, RCX 0, RCG 2, RCT 4, RCT 15, RCT 25, RCS 35, RCS 49, RCH 63, RCP 67, RCB 72, RCR 77, RCM 81, RLY, lit_at hw, l2]
  exact hQ
theorem hiT_0 {σ : mS} {τ τ' : Rw} {n o : Nat} {bk bk' : Nat → Rw} {has : Nat → Bool} {im im' : Nat → Rw} (H : hiT σ τ n o bk has im) : hiT (uI (uI (uI σ 63 2 0) 66 0 0) 66 1 0) τ' 0 o bk' (fun _ => false) im' := by
  obtain ⟨a1, a2, a3, a4, a5, a6⟩ := H
  refine ⟨?_, a2, ?_, by omega, fun i hi => by omega, fun k hk => ⟨?_, fun q => Bool.noConfusion q⟩⟩
  · rw [uI_1, if_neg (by omega), uI_1, if_neg (by omega), uI_1, if_neg (by omega)]; exact a1
  · rw [uI_1, if_neg (by omega), uI_1, if_neg (by omega), uI_1, if_pos ⟨rfl, rfl⟩]; rfl
  · have : k = 0 ∨ k = 1 := by omega
    rcases this with rfl | rfl
    · rw [uI_1, if_neg (by omega), uI_1, if_pos ⟨rfl, rfl⟩]; rfl
    · rw [uI_1, if_pos ⟨rfl, rfl⟩]; rfl
theorem g_10 {w : mT} {σ : mS} {τ : Rw} {n o D : Nat} {bk : Nat → Rw} {has : Nat → Bool} {im : Nat → Rw} {K : Int32 → Hp → Prop} (hw : lit w) (H : hiT σ τ n o bk has im) (hD : 1 ≤ D) : wpI D 10 [.ref 63] (mW w σ) K ↔ K (Int32.ofNat ((if has 0 = true then 1 else 0) + (if has 1 = true then 1 else 0))) (mW w σ) := by
  obtain ⟨a1, a2, a3, a4, a5, a6⟩ := H
  refine cI_of (m := 0) (fun d hd Q hQ => ?_) rfl hD
  have i0 := (a6 0 (by omega)).1
  have i1 := (a6 1 (by omega)).1
  have l0 : ((2 : Int32) ≤ 0) ↔ False := by decide
  have l1 : ((2 : Int32) ≤ 0 + 1) ↔ False := by decide
  have l2 : ((2 : Int32) ≤ 0 + 1 + 1) ↔ True := by decide
  have b1 : inB ((0 : Int32) + 1) 2 = true := by decide
  have n1 : ((0 : Int32) + 1).toNatClampNeg = 1 := by decide
  refine b10_0 ?_
  refine b10_4 ?_
  by_cases h0 : has 0 = true
  · rw [if_pos h0] at i0 hQ
    simp only [↓br_pos, ↓br_neg, ↓rF_I, ↓rF_L, ↓rF_R, ↓rF_N, rO_m, rB_m, ↓rI_m, wI_m, ↓rB2_m, ↓rB3_m, wB2_m, wB3_m, ↓rL_m, wL_m, ↓rQ_m, wQ_m, ↓lI_m, pI_m, pL_m, pR_m, sI_m, sBy_m, sBo_m, sL_m, sQ_m, fst_m, true_and, and_true, tg_some, ln_some, uI_1, uI_2, uL_1, uL_2, uL_3, uQ_1, uQ_2, uQ_3, rv_i, rv_l, rv_n, rv_b0, rv_b1, RMR, ne_eq, reduceCtorEq, not_false_eq_true, Option.getD_some, if_true, if_false, and_self, false_and, and_false, Nat.add_left_cancel_iff, Nat.add_eq_left, Nat.left_eq_add, Nat.one_ne_zero, Nat.reduceAdd, Nat.reduceLT, Nat.reduceLeDiff, Nat.reduceEqDiff, true_implies, false_implies, implies_true, Option.some.injEq, forall_eq', forall_eq, reduceCtorEq, brT, brF, br_s, i_10, i_01, ib_0_2, ib_1_2, tn_0, tn_1, Int32.le_refl, eq_self, rv_bN, rv_iM, RCX 0, RCG 2, RCT 4, RCT 15, RCT 25, RCS 35, RCS 49, RCH 63, RCP 67, RCB 72, RCR 77, RCM 81, RLY, lit_at hw, l0, i0]
    refine b10_4 ?_
    by_cases h1 : has 1 = true
    · rw [if_pos h1] at i1 hQ
      simp only [↓br_pos, ↓br_neg, ↓rF_I, ↓rF_L, ↓rF_R, ↓rF_N, rO_m, rB_m, ↓rI_m, wI_m, ↓rB2_m, ↓rB3_m, wB2_m, wB3_m, ↓rL_m, wL_m, ↓rQ_m, wQ_m, ↓lI_m, pI_m, pL_m, pR_m, sI_m, sBy_m, sBo_m, sL_m, sQ_m, fst_m, true_and, and_true, tg_some, ln_some, uI_1, uI_2, uL_1, uL_2, uL_3, uQ_1, uQ_2, uQ_3, rv_i, rv_l, rv_n, rv_b0, rv_b1, RMR, ne_eq, reduceCtorEq, not_false_eq_true, Option.getD_some, if_true, if_false, and_self, false_and, and_false, Nat.add_left_cancel_iff, Nat.add_eq_left, Nat.left_eq_add, Nat.one_ne_zero, Nat.reduceAdd, Nat.reduceLT, Nat.reduceLeDiff, Nat.reduceEqDiff, true_implies, false_implies, implies_true, Option.some.injEq, forall_eq', forall_eq, reduceCtorEq, brT, brF, br_s, i_10, i_01, ib_0_2, ib_1_2, tn_0, tn_1, Int32.le_refl, eq_self, rv_bN, rv_iM, RCX 0, RCG 2, RCT 4, RCT 15, RCT 25, RCS 35, RCS 49, RCH 63, RCP 67, RCB 72, RCR 77, RCM 81, RLY, lit_at hw, l1, i1, b1, n1]
      refine b10_4 ?_
      simp only [↓br_pos, ↓br_neg, ↓rF_I, ↓rF_L, ↓rF_R, ↓rF_N, rO_m, rB_m, ↓rI_m, wI_m, ↓rB2_m, ↓rB3_m, wB2_m, wB3_m, ↓rL_m, wL_m, ↓rQ_m, wQ_m, ↓lI_m, pI_m, pL_m, pR_m, sI_m, sBy_m, sBo_m, sL_m, sQ_m, fst_m, true_and, and_true, tg_some, ln_some, uI_1, uI_2, uL_1, uL_2, uL_3, uQ_1, uQ_2, uQ_3, rv_i, rv_l, rv_n, rv_b0, rv_b1, RMR, ne_eq, reduceCtorEq, not_false_eq_true, Option.getD_some, if_true, if_false, and_self, false_and, and_false, Nat.add_left_cancel_iff, Nat.add_eq_left, Nat.left_eq_add, Nat.one_ne_zero, Nat.reduceAdd, Nat.reduceLT, Nat.reduceLeDiff, Nat.reduceEqDiff, true_implies, false_implies, implies_true, Option.some.injEq, forall_eq', forall_eq, reduceCtorEq, brT, brF, br_s, i_10, i_01, ib_0_2, ib_1_2, tn_0, tn_1, Int32.le_refl, eq_self, rv_bN, rv_iM, l2]
      exact hQ
    · rw [if_neg h1] at i1 hQ
      simp only [↓br_pos, ↓br_neg, ↓rF_I, ↓rF_L, ↓rF_R, ↓rF_N, rO_m, rB_m, ↓rI_m, wI_m, ↓rB2_m, ↓rB3_m, wB2_m, wB3_m, ↓rL_m, wL_m, ↓rQ_m, wQ_m, ↓lI_m, pI_m, pL_m, pR_m, sI_m, sBy_m, sBo_m, sL_m, sQ_m, fst_m, true_and, and_true, tg_some, ln_some, uI_1, uI_2, uL_1, uL_2, uL_3, uQ_1, uQ_2, uQ_3, rv_i, rv_l, rv_n, rv_b0, rv_b1, RMR, ne_eq, reduceCtorEq, not_false_eq_true, Option.getD_some, if_true, if_false, and_self, false_and, and_false, Nat.add_left_cancel_iff, Nat.add_eq_left, Nat.left_eq_add, Nat.one_ne_zero, Nat.reduceAdd, Nat.reduceLT, Nat.reduceLeDiff, Nat.reduceEqDiff, true_implies, false_implies, implies_true, Option.some.injEq, forall_eq', forall_eq, reduceCtorEq, brT, brF, br_s, i_10, i_01, ib_0_2, ib_1_2, tn_0, tn_1, Int32.le_refl, eq_self, rv_bN, rv_iM, RCX 0, RCG 2, RCT 4, RCT 15, RCT 25, RCS 35, RCS 49, RCH 63, RCP 67, RCB 72, RCR 77, RCM 81, RLY, lit_at hw, l1, i1, b1, n1]
      refine b10_4 ?_
      simp only [↓br_pos, ↓br_neg, ↓rF_I, ↓rF_L, ↓rF_R, ↓rF_N, rO_m, rB_m, ↓rI_m, wI_m, ↓rB2_m, ↓rB3_m, wB2_m, wB3_m, ↓rL_m, wL_m, ↓rQ_m, wQ_m, ↓lI_m, pI_m, pL_m, pR_m, sI_m, sBy_m, sBo_m, sL_m, sQ_m, fst_m, true_and, and_true, tg_some, ln_some, uI_1, uI_2, uL_1, uL_2, uL_3, uQ_1, uQ_2, uQ_3, rv_i, rv_l, rv_n, rv_b0, rv_b1, RMR, ne_eq, reduceCtorEq, not_false_eq_true, Option.getD_some, if_true, if_false, and_self, false_and, and_false, Nat.add_left_cancel_iff, Nat.add_eq_left, Nat.left_eq_add, Nat.one_ne_zero, Nat.reduceAdd, Nat.reduceLT, Nat.reduceLeDiff, Nat.reduceEqDiff, true_implies, false_implies, implies_true, Option.some.injEq, forall_eq', forall_eq, reduceCtorEq, brT, brF, br_s, i_10, i_01, ib_0_2, ib_1_2, tn_0, tn_1, Int32.le_refl, eq_self, rv_bN, rv_iM, l2]
      exact hQ
  · rw [if_neg h0] at i0 hQ
    simp only [↓br_pos, ↓br_neg, ↓rF_I, ↓rF_L, ↓rF_R, ↓rF_N, rO_m, rB_m, ↓rI_m, wI_m, ↓rB2_m, ↓rB3_m, wB2_m, wB3_m, ↓rL_m, wL_m, ↓rQ_m, wQ_m, ↓lI_m, pI_m, pL_m, pR_m, sI_m, sBy_m, sBo_m, sL_m, sQ_m, fst_m, true_and, and_true, tg_some, ln_some, uI_1, uI_2, uL_1, uL_2, uL_3, uQ_1, uQ_2, uQ_3, rv_i, rv_l, rv_n, rv_b0, rv_b1, RMR, ne_eq, reduceCtorEq, not_false_eq_true, Option.getD_some, if_true, if_false, and_self, false_and, and_false, Nat.add_left_cancel_iff, Nat.add_eq_left, Nat.left_eq_add, Nat.one_ne_zero, Nat.reduceAdd, Nat.reduceLT, Nat.reduceLeDiff, Nat.reduceEqDiff, true_implies, false_implies, implies_true, Option.some.injEq, forall_eq', forall_eq, reduceCtorEq, brT, brF, br_s, i_10, i_01, ib_0_2, ib_1_2, tn_0, tn_1, Int32.le_refl, eq_self, rv_bN, rv_iM, RCX 0, RCG 2, RCT 4, RCT 15, RCT 25, RCS 35, RCS 49, RCH 63, RCP 67, RCB 72, RCR 77, RCM 81, RLY, lit_at hw, l0, i0]
    refine b10_4 ?_
    by_cases h1 : has 1 = true
    · rw [if_pos h1] at i1 hQ
      simp only [↓br_pos, ↓br_neg, ↓rF_I, ↓rF_L, ↓rF_R, ↓rF_N, rO_m, rB_m, ↓rI_m, wI_m, ↓rB2_m, ↓rB3_m, wB2_m, wB3_m, ↓rL_m, wL_m, ↓rQ_m, wQ_m, ↓lI_m, pI_m, pL_m, pR_m, sI_m, sBy_m, sBo_m, sL_m, sQ_m, fst_m, true_and, and_true, tg_some, ln_some, uI_1, uI_2, uL_1, uL_2, uL_3, uQ_1, uQ_2, uQ_3, rv_i, rv_l, rv_n, rv_b0, rv_b1, RMR, ne_eq, reduceCtorEq, not_false_eq_true, Option.getD_some, if_true, if_false, and_self, false_and, and_false, Nat.add_left_cancel_iff, Nat.add_eq_left, Nat.left_eq_add, Nat.one_ne_zero, Nat.reduceAdd, Nat.reduceLT, Nat.reduceLeDiff, Nat.reduceEqDiff, true_implies, false_implies, implies_true, Option.some.injEq, forall_eq', forall_eq, reduceCtorEq, brT, brF, br_s, i_10, i_01, ib_0_2, ib_1_2, tn_0, tn_1, Int32.le_refl, eq_self, rv_bN, rv_iM, RCX 0, RCG 2, RCT 4, RCT 15, RCT 25, RCS 35, RCS 49, RCH 63, RCP 67, RCB 72, RCR 77, RCM 81, RLY, lit_at hw, l1, i1, b1, n1]
      refine b10_4 ?_
      simp only [↓br_pos, ↓br_neg, ↓rF_I, ↓rF_L, ↓rF_R, ↓rF_N, rO_m, rB_m, ↓rI_m, wI_m, ↓rB2_m, ↓rB3_m, wB2_m, wB3_m, ↓rL_m, wL_m, ↓rQ_m, wQ_m, ↓lI_m, pI_m, pL_m, pR_m, sI_m, sBy_m, sBo_m, sL_m, sQ_m, fst_m, true_and, and_true, tg_some, ln_some, uI_1, uI_2, uL_1, uL_2, uL_3, uQ_1, uQ_2, uQ_3, rv_i, rv_l, rv_n, rv_b0, rv_b1, RMR, ne_eq, reduceCtorEq, not_false_eq_true, Option.getD_some, if_true, if_false, and_self, false_and, and_false, Nat.add_left_cancel_iff, Nat.add_eq_left, Nat.left_eq_add, Nat.one_ne_zero, Nat.reduceAdd, Nat.reduceLT, Nat.reduceLeDiff, Nat.reduceEqDiff, true_implies, false_implies, implies_true, Option.some.injEq, forall_eq', forall_eq, reduceCtorEq, brT, brF, br_s, i_10, i_01, ib_0_2, ib_1_2, tn_0, tn_1, Int32.le_refl, eq_self, rv_bN, rv_iM, l2]
      exact hQ
    · rw [if_neg h1] at i1 hQ
      simp only [↓br_pos, ↓br_neg, ↓rF_I, ↓rF_L, ↓rF_R, ↓rF_N, rO_m, rB_m, ↓rI_m, wI_m, ↓rB2_m, ↓rB3_m, wB2_m, wB3_m, ↓rL_m, wL_m, ↓rQ_m, wQ_m, ↓lI_m, pI_m, pL_m, pR_m, sI_m, sBy_m, sBo_m, sL_m, sQ_m, fst_m, true_and, and_true, tg_some, ln_some, uI_1, uI_2, uL_1, uL_2, uL_3, uQ_1, uQ_2, uQ_3, rv_i, rv_l, rv_n, rv_b0, rv_b1, RMR, ne_eq, reduceCtorEq, not_false_eq_true, Option.getD_some, if_true, if_false, and_self, false_and, and_false, Nat.add_left_cancel_iff, Nat.add_eq_left, Nat.left_eq_add, Nat.one_ne_zero, Nat.reduceAdd, Nat.reduceLT, Nat.reduceLeDiff, Nat.reduceEqDiff, true_implies, false_implies, implies_true, Option.some.injEq, forall_eq', forall_eq, reduceCtorEq, brT, brF, br_s, i_10, i_01, ib_0_2, ib_1_2, tn_0, tn_1, Int32.le_refl, eq_self, rv_bN, rv_iM, RCX 0, RCG 2, RCT 4, RCT 15, RCT 25, RCS 35, RCS 49, RCH 63, RCP 67, RCB 72, RCR 77, RCM 81, RLY, lit_at hw, l1, i1, b1, n1]
      refine b10_4 ?_
      simp only [↓br_pos, ↓br_neg, ↓rF_I, ↓rF_L, ↓rF_R, ↓rF_N, rO_m, rB_m, ↓rI_m, wI_m, ↓rB2_m, ↓rB3_m, wB2_m, wB3_m, ↓rL_m, wL_m, ↓rQ_m, wQ_m, ↓lI_m, pI_m, pL_m, pR_m, sI_m, sBy_m, sBo_m, sL_m, sQ_m, fst_m, true_and, and_true, tg_some, ln_some, uI_1, uI_2, uL_1, uL_2, uL_3, uQ_1, uQ_2, uQ_3, rv_i, rv_l, rv_n, rv_b0, rv_b1, RMR, ne_eq, reduceCtorEq, not_false_eq_true, Option.getD_some, if_true, if_false, and_self, false_and, and_false, Nat.add_left_cancel_iff, Nat.add_eq_left, Nat.left_eq_add, Nat.one_ne_zero, Nat.reduceAdd, Nat.reduceLT, Nat.reduceLeDiff, Nat.reduceEqDiff, true_implies, false_implies, implies_true, Option.some.injEq, forall_eq', forall_eq, reduceCtorEq, brT, brF, br_s, i_10, i_01, ib_0_2, ib_1_2, tn_0, tn_1, Int32.le_refl, eq_self, rv_bN, rv_iM, l2]
      exact hQ
/-- a State elsewhere is copied into the State at 35: the places stay -/
theorem hiT_c {σ σ' : mS} {τ : Rw} {n n' o : Nat} {bk : Nat → Rw} {has : Nat → Bool} {im : Nat → Rw} {w : mT} (H : hiT σ τ n o bk has im) (hS : hiS w σ) (hn : n' ≤ n) (hs : ∀ a, a < 14 → sl σ' a = sl σ a) (hk : ∀ b, 99 ≤ b → σ'.1 b = σ.1 b) (h1 : σ'.1 63 1 = σ.1 63 1) (h2 : σ'.1 63 2 = Int32.ofNat n') (h3 : σ'.1 66 = σ.1 66) : hiT σ' τ n' o bk has im := by
  obtain ⟨a1, a2, a3, a4, a5, a6⟩ := H
  refine ⟨by rw [h1]; exact a1, a2, h2, by omega, fun i hi => ?_, fun k hk2 => ?_⟩
  · obtain ⟨x0, q, x1, x2⟩ := a5 i (by omega)
    obtain ⟨y1, y2, y3⟩ := hS.1 _ q (by omega) x1
    exact ⟨x0, q, by rw [hs _ (by omega)]; exact x1, tSt_fr x2 (fun b hb1 hb2 => hk b (by omega))⟩
  · obtain ⟨x1, x2⟩ := a6 k hk2
    refine ⟨by rw [h3]; exact x1, fun hh => ?_⟩
    obtain ⟨z0, q, z1, z2⟩ := x2 hh
    obtain ⟨y1, y2, y3⟩ := hS.1 _ q (by omega) z1
    exact ⟨z0, q, by rw [hs _ (by omega)]; exact z1, tSt_fr z2 (fun b hb1 hb2 => hk b (by omega))⟩
theorem g_12z {w : mT} {σ : mS} {τ : Rw} {o D : Nat} {bk : Nat → Rw} {has : Nat → Bool} {im : Nat → Rw} {K : Int32 → Hp → Prop} (hw : lit w) (H : hiT σ τ 0 o bk has im) (hD : 3 ≤ D) : wpI D 12 [.ref 63, .ref 35] (mW w σ) K ↔ K 0 (mW w σ) := by
  obtain ⟨a1, a2, a3, a4, a5, a6⟩ := H
  refine cI_of (m := 2) (fun d hd Q hQ => ?_) rfl hD
  have a3' : σ.1 63 2 = 0 := a3
  refine b12_0 ?_
  simp only [↓br_pos, ↓br_neg, ↓rF_I, ↓rF_L, ↓rF_R, ↓rF_N, rO_m, rB_m, ↓rI_m, wI_m, ↓rB2_m, ↓rB3_m, wB2_m, wB3_m, ↓rL_m, wL_m, ↓rQ_m, wQ_m, ↓lI_m, pI_m, pL_m, pR_m, sI_m, sBy_m, sBo_m, sL_m, sQ_m, fst_m, true_and, and_true, tg_some, ln_some, uI_1, uI_2, uL_1, uL_2, uL_3, uQ_1, uQ_2, uQ_3, rv_i, rv_l, rv_n, rv_b0, rv_b1, RMR, ne_eq, reduceCtorEq, not_false_eq_true, Option.getD_some, if_true, if_false, and_self, false_and, and_false, Nat.add_left_cancel_iff, Nat.add_eq_left, Nat.left_eq_add, Nat.one_ne_zero, Nat.reduceAdd, Nat.reduceLT, Nat.reduceLeDiff, Nat.reduceEqDiff, true_implies, false_implies, implies_true, Option.some.injEq, forall_eq', forall_eq, reduceCtorEq, brT, brF, br_s, i_10, i_01, ib_0_2, ib_1_2, tn_0, tn_1, Int32.le_refl, eq_self, rv_bN, rv_iM, RCX 0, RCG 2, RCT 4, RCT 15, RCT 25, RCS 35, RCS 49, RCH 63, RCP 67, RCB 72, RCR 77, RCM 81, RLY, lit_at hw, a3']
  exact hQ
theorem g_12 {w : mT} {σ : mS} {τ : Rw} {n o : Nat} {bk : Nat → Rw} {has : Nat → Bool} {im : Nat → Rw} (hw : lit w) (hS : hiS w σ) (H : hiT σ τ n o bk has im) (hv : vTold τ) (hn : 0 < n) : ∃ σ', frD 35 66 σ σ' ∧ (∀ a, (49 ≤ a ∧ a < 63) → σ'.1 a = σ.1 a) ∧ hiS w σ' ∧ hiT σ' τ (n - 1) o bk has im ∧ tSt σ' 35 τ (bk (n - 1)) ∧ ∀ {D : Nat} {K : Int32 → Hp → Prop}, 3 ≤ D → (wpI D 12 [.ref 63, .ref 35] (mW w σ) K ↔ K 1 (mW w σ')) := by
  obtain ⟨a1, a2, a3, a4, a5, a6⟩ := H
  have H : hiT σ τ n o bk has im := ⟨a1, a2, a3, a4, a5, a6⟩
  obtain ⟨x0, q, x1, x2⟩ := a5 (n - 1) (by omega)
  have hat : (o + (n - 1)) % 12 < 12 := Nat.mod_lt _ (by omega)
  obtain ⟨y1, y2, y3⟩ := hS.1 _ q (by omega) x1
  have hb := vRow_b hv x0
  have t1 : tSt (uI σ 63 2 (Int32.ofNat (n - 1))) q τ (bk (n - 1)) := tSt_fr x2 (fun a h1 h2 => (uI_ne (by omega)).1)
  obtain ⟨σ2, f2, t2, e2⟩ := g_49 (isS35 hw) y1 hb t1 (by omega)
  have rs : ∀ a, sl σ2 a = sl σ a := fun a => sl_c (by rw [f2.2]; rfl) (by rw [f2.2]; rfl)
  refine ⟨σ2, frD_tr (frD_I (by omega)) (frD_R f2 (by omega)), fun a ha => by rw [f2.1 a (by omega)]; exact (uI_ne (by omega)).1, hiS_c hS (fun a _ => rs a), hiT_c H hS (by omega) (fun a _ => rs a) (fun b hb => by rw [f2.1 b (by omega)]; exact (uI_ne (by omega)).1) ?_ ?_ ?_, t2, fun hD => cI_of (m := 2) (fun d hd Q hQ => ?_) rfl hD⟩
  · rw [f2.1 63 (by omega), uI_1, if_neg (by omega)]
  · rw [f2.1 63 (by omega), uI_1, if_pos ⟨rfl, rfl⟩]
  · rw [f2.1 66 (by omega)]; exact (uI_ne (by omega)).1
  · have hd1 : 1 ≤ d := by omega
    have hd2 : 2 ≤ d := by omega
    rw [sl_lo hat] at x1
    have e0 : (Int32.ofNat n = (0 : Int32)) ↔ False := iff_false_intro (fun z => absurd ((of_eq0 (by omega)).mp z) (by omega))
    have e1 : Int32.ofNat (o + n) - 1 = Int32.ofNat (o + (n - 1)) := by rw [st_m1 (by omega)]; congr 1; omega
    have e3 : Int32.ofNat n - 1 = Int32.ofNat (n - 1) := st_m1 (by omega)
    have em : Int32.ofNat (o + (n - 1)) - Int32.ofNat (o + (n - 1)) / 12 * 12 = Int32.ofNat ((o + (n - 1)) % 12) := of_mod12 (by omega)
    have eb : inB (Int32.ofNat ((o + (n - 1)) % 12)) 12 = true := on_inB hat (by omega)
    have en := on_nat (i := (o + (n - 1)) % 12) (by omega)
    refine b12_0 ?_
    simp only [↓br_pos, ↓br_neg, ↓rF_I, ↓rF_L, ↓rF_R, ↓rF_N, rO_m, rB_m, ↓rI_m, wI_m, ↓rB2_m, ↓rB3_m, wB2_m, wB3_m, ↓rL_m, wL_m, ↓rQ_m, wQ_m, ↓lI_m, pI_m, pL_m, pR_m, sI_m, sBy_m, sBo_m, sL_m, sQ_m, fst_m, true_and, and_true, tg_some, ln_some, uI_1, uI_2, uL_1, uL_2, uL_3, uQ_1, uQ_2, uQ_3, rv_i, rv_l, rv_n, rv_b0, rv_b1, RMR, ne_eq, reduceCtorEq, not_false_eq_true, Option.getD_some, if_true, if_false, and_self, false_and, and_false, Nat.add_left_cancel_iff, Nat.add_eq_left, Nat.left_eq_add, Nat.one_ne_zero, Nat.reduceAdd, Nat.reduceLT, Nat.reduceLeDiff, Nat.reduceEqDiff, true_implies, false_implies, implies_true, Option.some.injEq, forall_eq', forall_eq, reduceCtorEq, brT, brF, br_s, i_10, i_01, ib_0_2, ib_1_2, tn_0, tn_1, Int32.le_refl, eq_self, rv_bN, rv_iM, RCX 0, RCG 2, RCT 4, RCT 15, RCT 25, RCS 35, RCS 49, RCH 63, RCP 67, RCB 72, RCR 77, RCM 81, RLY, lit_at hw, a1, a3, e0, of_add, e1, em, e3, k_12, eb, en, x1, e2 hd2]
    exact hQ
def hasS (has : Nat → Bool) (k : Nat) : Nat → Bool := fun j => if j = k then true else has j
def imS (im : Nat → Rw) (k : Nat) (ρ : Rw) : Nat → Rw := fun j => if j = k then ρ else im j
theorem hasS_e {has : Nat → Bool} {k : Nat} : hasS has k k = true := if_pos rfl
theorem hasS_n {has : Nat → Bool} {k j : Nat} (h : j ≠ k) : hasS has k j = has j := if_neg h
theorem imS_e {im : Nat → Rw} {k : Nat} {ρ : Rw} : imS im k ρ k = ρ := if_pos rfl
theorem imS_n {im : Nat → Rw} {k j : Nat} {ρ : Rw} (h : j ≠ k) : imS im k ρ j = im j := if_neg h
theorem hiT_img {σ σ' : mS} {τ ρ : Rw} {n o Q k : Nat} {bk : Nat → Rw} {has : Nat → Bool} {im : Nat → Rw} (H : hiT σ τ n o bk has im) (hk2 : k < 2) (hs : ∀ a, a < 14 → a ≠ 12 + k → sl σ' a = sl σ a) (hsa : sl σ' (12 + k) = some Q) (ht : tSt σ' Q τ ρ) (hv : vRow τ ρ) (hk : ∀ a q, a < 14 → a ≠ 12 + k → sl σ a = some q → ∀ b, q ≤ b → b < q + 14 → σ'.1 b = σ.1 b) (h1 : σ'.1 63 = σ.1 63) (h3 : ∀ j, j < 2 → σ'.1 66 j = if j = k then 1 else σ.1 66 j) : hiT σ' τ n o bk (hasS has k) (imS im k ρ) := by
  obtain ⟨a1, a2, a3, a4, a5, a6⟩ := H
  refine ⟨by rw [h1]; exact a1, a2, by rw [h1]; exact a3, a4, fun i hi => ?_, fun j hj => ?_⟩
  · obtain ⟨x0, q, x1, x2⟩ := a5 i hi
    exact ⟨x0, q, by rw [hs _ (by omega) (by omega)]; exact x1, tSt_fr x2 (hk _ q (by omega) (by omega) x1)⟩
  · obtain ⟨x1, x2⟩ := a6 j hj
    by_cases e : j = k
    · subst e
      refine ⟨by rw [h3 j hj, if_pos rfl, hasS_e, if_pos rfl], fun _ => ⟨by rw [imS_e]; exact hv, Q, hsa, by rw [imS_e]; exact ht⟩⟩
    · refine ⟨by rw [h3 j hj, if_neg e, hasS_n e]; exact x1, fun hh => ?_⟩
      rw [hasS_n e] at hh
      rw [imS_n e]
      obtain ⟨z0, q, z1, z2⟩ := x2 hh
      exact ⟨z0, q, by rw [hs _ (by omega) (by omega)]; exact z1, tSt_fr z2 (hk _ q (by omega) (by omega) z1)⟩
theorem g_13z {w : mT} {σ : mS} {a1 : Int32} {D : Nat} {K : Int32 → Hp → Prop} (h : ¬ (0 ≤ a1.toInt ∧ a1.toInt < 2)) (hD : 3 ≤ D) : wpI D 13 [.ref 63, .int a1, .ref 35] (mW w σ) K ↔ K 0 (mW w σ) := by
  refine cI_of (m := 2) (fun d hd Q hQ => ?_) rfl hD
  refine b13_0 ?_
  by_cases z : a1 < 0
  · simp only [↓br_pos, ↓br_neg, ↓rF_I, ↓rF_L, ↓rF_R, ↓rF_N, rO_m, rB_m, ↓rI_m, wI_m, ↓rB2_m, ↓rB3_m, wB2_m, wB3_m, ↓rL_m, wL_m, ↓rQ_m, wQ_m, ↓lI_m, pI_m, pL_m, pR_m, sI_m, sBy_m, sBo_m, sL_m, sQ_m, fst_m, true_and, and_true, tg_some, ln_some, uI_1, uI_2, uL_1, uL_2, uL_3, uQ_1, uQ_2, uQ_3, rv_i, rv_l, rv_n, rv_b0, rv_b1, RMR, ne_eq, reduceCtorEq, not_false_eq_true, Option.getD_some, if_true, if_false, and_self, false_and, and_false, Nat.add_left_cancel_iff, Nat.add_eq_left, Nat.left_eq_add, Nat.one_ne_zero, Nat.reduceAdd, Nat.reduceLT, Nat.reduceLeDiff, Nat.reduceEqDiff, true_implies, false_implies, implies_true, Option.some.injEq, forall_eq', forall_eq, reduceCtorEq, brT, brF, br_s, i_10, i_01, ib_0_2, ib_1_2, tn_0, tn_1, Int32.le_refl, eq_self, rv_bN, rv_iM, z]
    exact hQ
  · have z2 : ¬ a1 < 2 := by
      intro q
      rw [i_lt, show (0 : Int32).toInt = 0 by decide] at z
      rw [i_lt, show (2 : Int32).toInt = 2 by decide] at q
      omega
    simp only [↓br_pos, ↓br_neg, ↓rF_I, ↓rF_L, ↓rF_R, ↓rF_N, rO_m, rB_m, ↓rI_m, wI_m, ↓rB2_m, ↓rB3_m, wB2_m, wB3_m, ↓rL_m, wL_m, ↓rQ_m, wQ_m, ↓lI_m, pI_m, pL_m, pR_m, sI_m, sBy_m, sBo_m, sL_m, sQ_m, fst_m, true_and, and_true, tg_some, ln_some, uI_1, uI_2, uL_1, uL_2, uL_3, uQ_1, uQ_2, uQ_3, rv_i, rv_l, rv_n, rv_b0, rv_b1, RMR, ne_eq, reduceCtorEq, not_false_eq_true, Option.getD_some, if_true, if_false, and_self, false_and, and_false, Nat.add_left_cancel_iff, Nat.add_eq_left, Nat.left_eq_add, Nat.one_ne_zero, Nat.reduceAdd, Nat.reduceLT, Nat.reduceLeDiff, Nat.reduceEqDiff, true_implies, false_implies, implies_true, Option.some.injEq, forall_eq', forall_eq, reduceCtorEq, brT, brF, br_s, i_10, i_01, ib_0_2, ib_1_2, tn_0, tn_1, Int32.le_refl, eq_self, rv_bN, rv_iM, z, z2]
    exact hQ
theorem g_14z {w : mT} {σ : mS} {a1 : Int32} {D : Nat} {K : Int32 → Hp → Prop} (h : ¬ (0 ≤ a1.toInt ∧ a1.toInt < 2)) (hD : 3 ≤ D) : wpI D 14 [.ref 63, .int a1, .ref 35] (mW w σ) K ↔ K 0 (mW w σ) := by
  refine cI_of (m := 2) (fun d hd Q hQ => ?_) rfl hD
  refine b14_0 ?_
  by_cases z : a1 < 0
  · simp only [↓br_pos, ↓br_neg, ↓rF_I, ↓rF_L, ↓rF_R, ↓rF_N, rO_m, rB_m, ↓rI_m, wI_m, ↓rB2_m, ↓rB3_m, wB2_m, wB3_m, ↓rL_m, wL_m, ↓rQ_m, wQ_m, ↓lI_m, pI_m, pL_m, pR_m, sI_m, sBy_m, sBo_m, sL_m, sQ_m, fst_m, true_and, and_true, tg_some, ln_some, uI_1, uI_2, uL_1, uL_2, uL_3, uQ_1, uQ_2, uQ_3, rv_i, rv_l, rv_n, rv_b0, rv_b1, RMR, ne_eq, reduceCtorEq, not_false_eq_true, Option.getD_some, if_true, if_false, and_self, false_and, and_false, Nat.add_left_cancel_iff, Nat.add_eq_left, Nat.left_eq_add, Nat.one_ne_zero, Nat.reduceAdd, Nat.reduceLT, Nat.reduceLeDiff, Nat.reduceEqDiff, true_implies, false_implies, implies_true, Option.some.injEq, forall_eq', forall_eq, reduceCtorEq, brT, brF, br_s, i_10, i_01, ib_0_2, ib_1_2, tn_0, tn_1, Int32.le_refl, eq_self, rv_bN, rv_iM, z]
    exact hQ
  · have z2 : (2 : Int32) ≤ a1 := by
      rw [i_lt, show (0 : Int32).toInt = 0 by decide] at z
      rw [i_le, show (2 : Int32).toInt = 2 by decide]
      omega
    simp only [↓br_pos, ↓br_neg, ↓rF_I, ↓rF_L, ↓rF_R, ↓rF_N, rO_m, rB_m, ↓rI_m, wI_m, ↓rB2_m, ↓rB3_m, wB2_m, wB3_m, ↓rL_m, wL_m, ↓rQ_m, wQ_m, ↓lI_m, pI_m, pL_m, pR_m, sI_m, sBy_m, sBo_m, sL_m, sQ_m, fst_m, true_and, and_true, tg_some, ln_some, uI_1, uI_2, uL_1, uL_2, uL_3, uQ_1, uQ_2, uQ_3, rv_i, rv_l, rv_n, rv_b0, rv_b1, RMR, ne_eq, reduceCtorEq, not_false_eq_true, Option.getD_some, if_true, if_false, and_self, false_and, and_false, Nat.add_left_cancel_iff, Nat.add_eq_left, Nat.left_eq_add, Nat.one_ne_zero, Nat.reduceAdd, Nat.reduceLT, Nat.reduceLeDiff, Nat.reduceEqDiff, true_implies, false_implies, implies_true, Option.some.injEq, forall_eq', forall_eq, reduceCtorEq, brT, brF, br_s, i_10, i_01, ib_0_2, ib_1_2, tn_0, tn_1, Int32.le_refl, eq_self, rv_bN, rv_iM, z, z2]
    exact hQ
theorem of_lt0 {a : Nat} (h : a < 2147483648) : (Int32.ofNat a < (0 : Int32)) ↔ False := iff_false_intro (fun q => absurd ((on_lt (j := 0) h (by omega)).mp q) (by omega))
theorem g_13 {w : mT} {σ : mS} {τ ρ : Rw} {n o k : Nat} {bk : Nat → Rw} {has : Nat → Bool} {im : Nat → Rw} (hw : lit w) (hS : hiS w σ) (H : hiT σ τ n o bk has im) (hρ : tSt σ 35 τ ρ) (hv : vTold τ) (h : vRow τ ρ) (hk : k < 2) : ∃ w' σ', wExt w w' ∧ frD 63 67 σ σ' ∧ hiS w' σ' ∧ hiT σ' τ n o bk (hasS has k) (imS im k ρ) ∧ ∀ {D : Nat} {K : Int32 → Hp → Prop}, 3 ≤ D → (wpI D 13 [.ref 63, .int (Int32.ofNat k), .ref 35] (mW w σ) K ↔ K 1 (mW w' σ')) := by
  have hb := vRow_b hv h
  have hS35 := isS35 hw
  have hk14 : 12 + k < 14 := by omega
  have l0 := of_lt0 (a := k) (by omega)
  have l2 : (Int32.ofNat k < (2 : Int32)) ↔ True := iff_true_intro ((on_lt (j := 2) (by omega) (by omega)).mpr hk)
  have eb : inB (Int32.ofNat k) 2 = true := on_inB hk (by omega)
  have en := on_nat (i := k) (by omega)
  cases hsl : sl σ (12 + k) with
  | some q =>
    obtain ⟨x1, x2, x3⟩ := hS.1 _ q hk14 hsl
    obtain ⟨σ2, f2, t2, e2⟩ := g_49 x1 hS35 hb hρ (by omega)
    have rs : ∀ a, sl (uI σ2 66 k 1) a = sl σ a := fun a => sl_c (by show σ2.2.2 64 = _; rw [f2.2]) (by show σ2.2.2 65 = _; rw [f2.2])
    refine ⟨w, uI σ2 66 k 1, wE_rf, frD_tr (frD_R f2 (by omega)) (frD_I (by omega)), hiS_c hS (fun a _ => rs a), hiT_img H hk (fun a _ _ => rs a) (by rw [rs]; exact hsl) (tSt_fr t2 (fun a h1 h2 => (uI_ne (by omega)).1)) h (fun a q' ha hne e b hb1 hb2 => ?_) ?_ (fun j hj => ?_), fun hD => cI_of (m := 2) (fun d hd Q hQ => ?_) rfl hD⟩
    · have := hS.2.1 a _ q' q ha hk14 hne e hsl
      obtain ⟨y1, y2, y3⟩ := hS.1 a q' ha e
      rw [(uI_ne (by omega)).1]
      exact f2.1 b (by omega)
    · rw [(uI_ne (by omega)).1]
      exact f2.1 63 (by omega)
    · rw [uI_1]
      by_cases e : j = k
      · rw [if_pos ⟨rfl, e⟩, if_pos e]
      · rw [if_neg (fun z => e z.2), if_neg e, f2.1 66 (by omega)]
    · have hd1 : 1 ≤ d := by omega
      have hd2 : 2 ≤ d := by omega
      rw [sl_hi] at hsl
      have x1' := x1
      simp only [isS] at x1'
      refine b13_0 ?_
      simp only [↓br_pos, ↓br_neg, ↓rF_I, ↓rF_L, ↓rF_R, ↓rF_N, rO_m, rB_m, ↓rI_m, wI_m, ↓rB2_m, ↓rB3_m, wB2_m, wB3_m, ↓rL_m, wL_m, ↓rQ_m, wQ_m, ↓lI_m, pI_m, pL_m, pR_m, sI_m, sBy_m, sBo_m, sL_m, sQ_m, fst_m, true_and, and_true, tg_some, ln_some, uI_1, uI_2, uL_1, uL_2, uL_3, uQ_1, uQ_2, uQ_3, rv_i, rv_l, rv_n, rv_b0, rv_b1, RMR, ne_eq, reduceCtorEq, not_false_eq_true, Option.getD_some, if_true, if_false, and_self, false_and, and_false, Nat.add_left_cancel_iff, Nat.add_eq_left, Nat.left_eq_add, Nat.one_ne_zero, Nat.reduceAdd, Nat.reduceLT, Nat.reduceLeDiff, Nat.reduceEqDiff, true_implies, false_implies, implies_true, Option.some.injEq, forall_eq', forall_eq, reduceCtorEq, brT, brF, br_s, i_10, i_01, ib_0_2, ib_1_2, tn_0, tn_1, Int32.le_refl, eq_self, rv_bN, rv_iM, RCX 0, RCG 2, RCT 4, RCT 15, RCT 25, RCS 35, RCS 49, RCH 63, RCP 67, RCB 72, RCR 77, RCM 81, RLY, lit_at hw, l0, l2, eb, en, hsl, RCS q, x1', e2 hd2, nb_1]
      exact hQ
  | none =>
    obtain ⟨L, hl⟩ : ∃ L, w.2.2.2.length = L := ⟨_, rfl⟩
    have hL : 99 ≤ L := by rw [← hl]; exact hS.2.2.1
    have hE := wE_S hl
    have hw2 := lit_E hE (by omega) hw
    have x1 := isS_new hl
    have hρ2 : tSt (uQ (zS σ L) 65 k (some L)) 35 τ ρ := tSt_fr hρ (fun a h1 h2 => by rw [uQ_1]; exact zS_lt (by omega))
    obtain ⟨σ2, f2, t2, e2⟩ := g_49 (r := L) x1 (isS35 hw2) hb hρ2 (by omega)
    have r2 : ∀ a, a < L → σ2.1 a = σ.1 a := fun a ha => by rw [f2.1 a (by omega), uQ_1]; exact zS_lt ha
    have rs : ∀ a, a < 14 → a ≠ 12 + k → sl (uI σ2 66 k 1) a = sl σ a := fun a ha hne => by
      unfold sl
      show (if a < 12 then σ2.2.2 64 a else σ2.2.2 65 (a - 12)) = _
      rw [f2.2]
      split
      · rw [uQ_3, if_neg (fun z => by omega), zS_3 (by omega)]
      · rw [uQ_3, if_neg (fun z => by omega), zS_3 (by omega)]
    have rsa : sl (uI σ2 66 k 1) (12 + k) = some L := by
      rw [sl_hi]
      show σ2.2.2 65 k = _
      rw [f2.2, uQ_3, if_pos ⟨rfl, rfl⟩]
    refine ⟨mAs w (kS L), uI σ2 66 k 1, hE, frD_tr (frD_S hL) (frD_tr (frD_Q (by omega)) (frD_tr (frD_R f2 (by omega)) (frD_I (by omega)))), hiS_new hS hl hk14 hsl rs rsa, hiT_img H hk rs rsa (tSt_fr t2 (fun a h1 h2 => (uI_ne (by omega)).1)) h (fun a q' ha hne e b hb1 hb2 => ?_) ?_ (fun j hj => ?_), fun hD => cI_of (m := 2) (fun d hd Q hQ => ?_) rfl hD⟩
    · obtain ⟨y1, y2, y3⟩ := hS.1 a q' ha e
      rw [(uI_ne (by omega)).1]
      exact r2 b (by omega)
    · rw [(uI_ne (by omega)).1]
      exact r2 63 (by omega)
    · rw [uI_1]
      by_cases e : j = k
      · rw [if_pos ⟨rfl, e⟩, if_pos e]
      · rw [if_neg (fun z => e z.2), if_neg e, r2 66 (by omega)]
    · have hd1 : 1 ≤ d := by omega
      have hd2 : 2 ≤ d := by omega
      rw [sl_hi] at hsl
      have x1' := x1
      simp only [isS] at x1'
      refine b13_0 ?_
      simp only [↓br_pos, ↓br_neg, ↓rF_I, ↓rF_L, ↓rF_R, ↓rF_N, rO_m, rB_m, ↓rI_m, wI_m, ↓rB2_m, ↓rB3_m, wB2_m, wB3_m, ↓rL_m, wL_m, ↓rQ_m, wQ_m, ↓lI_m, pI_m, pL_m, pR_m, sI_m, sBy_m, sBo_m, sL_m, sQ_m, fst_m, true_and, and_true, tg_some, ln_some, uI_1, uI_2, uL_1, uL_2, uL_3, uQ_1, uQ_2, uQ_3, rv_i, rv_l, rv_n, rv_b0, rv_b1, RMR, ne_eq, reduceCtorEq, not_false_eq_true, Option.getD_some, if_true, if_false, and_self, false_and, and_false, Nat.add_left_cancel_iff, Nat.add_eq_left, Nat.left_eq_add, Nat.one_ne_zero, Nat.reduceAdd, Nat.reduceLT, Nat.reduceLeDiff, Nat.reduceEqDiff, true_implies, false_implies, implies_true, Option.some.injEq, forall_eq', forall_eq, reduceCtorEq, brT, brF, br_s, i_10, i_01, ib_0_2, ib_1_2, tn_0, tn_1, Int32.le_refl, eq_self, rv_bN, rv_iM, RCX 0, RCG 2, RCT 4, RCT 15, RCT 25, RCS 35, RCS 49, RCH 63, RCP 67, RCB 72, RCR 77, RCM 81, RLY, lit_at hw, lit_at hw2, l0, l2, eb, en, hsl, ↓nw_all, nO_5, hl, s_47 hl hd1, RCS L, x1', e2 hd2, nb_1]
      exact hQ
theorem g_14f {w : mT} {σ : mS} {τ : Rw} {n o k D : Nat} {bk : Nat → Rw} {has : Nat → Bool} {im : Nat → Rw} {K : Int32 → Hp → Prop} (hw : lit w) (H : hiT σ τ n o bk has im) (hk : k < 2) (hh : has k = false) (hD : 3 ≤ D) : wpI D 14 [.ref 63, .int (Int32.ofNat k), .ref 35] (mW w σ) K ↔ K 0 (mW w σ) := by
  obtain ⟨a1, a2, a3, a4, a5, a6⟩ := H
  have i0 := (a6 k hk).1
  rw [hh, if_neg (by decide)] at i0
  have l0 := of_lt0 (a := k) (by omega)
  have l2 : ((2 : Int32) ≤ Int32.ofNat k) ↔ False := iff_false_intro (fun q => absurd ((on_le (i := 2) (by omega) (by omega)).mp q) (by omega))
  have eb : inB (Int32.ofNat k) 2 = true := on_inB hk (by omega)
  have en := on_nat (i := k) (by omega)
  refine cI_of (m := 2) (fun d hd Q hQ => ?_) rfl hD
  refine b14_0 ?_
  simp only [↓br_pos, ↓br_neg, ↓rF_I, ↓rF_L, ↓rF_R, ↓rF_N, rO_m, rB_m, ↓rI_m, wI_m, ↓rB2_m, ↓rB3_m, wB2_m, wB3_m, ↓rL_m, wL_m, ↓rQ_m, wQ_m, ↓lI_m, pI_m, pL_m, pR_m, sI_m, sBy_m, sBo_m, sL_m, sQ_m, fst_m, true_and, and_true, tg_some, ln_some, uI_1, uI_2, uL_1, uL_2, uL_3, uQ_1, uQ_2, uQ_3, rv_i, rv_l, rv_n, rv_b0, rv_b1, RMR, ne_eq, reduceCtorEq, not_false_eq_true, Option.getD_some, if_true, if_false, and_self, false_and, and_false, Nat.add_left_cancel_iff, Nat.add_eq_left, Nat.left_eq_add, Nat.one_ne_zero, Nat.reduceAdd, Nat.reduceLT, Nat.reduceLeDiff, Nat.reduceEqDiff, true_implies, false_implies, implies_true, Option.some.injEq, forall_eq', forall_eq, reduceCtorEq, brT, brF, br_s, i_10, i_01, ib_0_2, ib_1_2, tn_0, tn_1, Int32.le_refl, eq_self, rv_bN, rv_iM, RCX 0, RCG 2, RCT 4, RCT 15, RCT 25, RCS 35, RCS 49, RCH 63, RCP 67, RCB 72, RCR 77, RCM 81, RLY, lit_at hw, l0, l2, eb, en, i0]
  exact hQ
theorem g_14 {w : mT} {σ : mS} {τ : Rw} {n o k : Nat} {bk : Nat → Rw} {has : Nat → Bool} {im : Nat → Rw} (hw : lit w) (hS : hiS w σ) (H : hiT σ τ n o bk has im) (hv : vTold τ) (hk : k < 2) (hh : has k = true) : ∃ σ', frD 35 66 σ σ' ∧ (∀ a, (49 ≤ a ∧ a < 63) → σ'.1 a = σ.1 a) ∧ hiS w σ' ∧ hiT σ' τ 0 o bk has im ∧ tSt σ' 35 τ (im k) ∧ ∀ {D : Nat} {K : Int32 → Hp → Prop}, 3 ≤ D → (wpI D 14 [.ref 63, .int (Int32.ofNat k), .ref 35] (mW w σ) K ↔ K 1 (mW w σ')) := by
  obtain ⟨a1, a2, a3, a4, a5, a6⟩ := H
  have H : hiT σ τ n o bk has im := ⟨a1, a2, a3, a4, a5, a6⟩
  obtain ⟨i0, i1⟩ := a6 k hk
  rw [hh, if_pos rfl] at i0
  obtain ⟨x0, q, x1, x2⟩ := i1 hh
  obtain ⟨y1, y2, y3⟩ := hS.1 _ q (by omega) x1
  have hb := vRow_b hv x0
  have l0 := of_lt0 (a := k) (by omega)
  have l2 : ((2 : Int32) ≤ Int32.ofNat k) ↔ False := iff_false_intro (fun q => absurd ((on_le (i := 2) (by omega) (by omega)).mp q) (by omega))
  have eb : inB (Int32.ofNat k) 2 = true := on_inB hk (by omega)
  have en := on_nat (i := k) (by omega)
  obtain ⟨σ2, f2, t2, e2⟩ := g_49 (isS35 hw) y1 hb x2 (by omega)
  have rs : ∀ a, sl (uI σ2 63 2 0) a = sl σ a := fun a => sl_c (by show σ2.2.2 64 = _; rw [f2.2]) (by show σ2.2.2 65 = _; rw [f2.2])
  refine ⟨uI σ2 63 2 0, frD_tr (frD_R f2 (by omega)) (frD_I (by omega)), fun a ha => by rw [(uI_ne (by omega)).1]; exact f2.1 a (by omega), hiS_c hS (fun a _ => rs a), hiT_c (n' := 0) H hS (by omega) (fun a _ => rs a) (fun b hb => by rw [(uI_ne (by omega)).1]; exact f2.1 b (by omega)) ?_ ?_ ?_, tSt_fr t2 (fun a h1 h2 => (uI_ne (by omega)).1), fun hD => cI_of (m := 2) (fun d hd Q hQ => ?_) rfl hD⟩
  · rw [uI_1, if_neg (by omega), f2.1 63 (by omega)]
  · rw [uI_1, if_pos ⟨rfl, rfl⟩]; rfl
  · rw [(uI_ne (by omega)).1]; exact f2.1 66 (by omega)
  · have hd1 : 1 ≤ d := by omega
    have hd2 : 2 ≤ d := by omega
    rw [sl_hi] at x1
    refine b14_0 ?_
    simp only [↓br_pos, ↓br_neg, ↓rF_I, ↓rF_L, ↓rF_R, ↓rF_N, rO_m, rB_m, ↓rI_m, wI_m, ↓rB2_m, ↓rB3_m, wB2_m, wB3_m, ↓rL_m, wL_m, ↓rQ_m, wQ_m, ↓lI_m, pI_m, pL_m, pR_m, sI_m, sBy_m, sBo_m, sL_m, sQ_m, fst_m, true_and, and_true, tg_some, ln_some, uI_1, uI_2, uL_1, uL_2, uL_3, uQ_1, uQ_2, uQ_3, rv_i, rv_l, rv_n, rv_b0, rv_b1, RMR, ne_eq, reduceCtorEq, not_false_eq_true, Option.getD_some, if_true, if_false, and_self, false_and, and_false, Nat.add_left_cancel_iff, Nat.add_eq_left, Nat.left_eq_add, Nat.one_ne_zero, Nat.reduceAdd, Nat.reduceLT, Nat.reduceLeDiff, Nat.reduceEqDiff, true_implies, false_implies, implies_true, Option.some.injEq, forall_eq', forall_eq, reduceCtorEq, brT, brF, br_s, i_10, i_01, ib_0_2, ib_1_2, tn_0, tn_1, Int32.le_refl, eq_self, rv_bN, rv_iM, RCX 0, RCG 2, RCT 4, RCT 15, RCT 25, RCS 35, RCS 49, RCH 63, RCP 67, RCB 72, RCR 77, RCM 81, RLY, lit_at hw, l0, l2, eb, en, i0, x1, e2 hd2]
    exact hQ

