theorem vin_m {a : Int32} : vin (Int32.toInt64 a) 0 1 = iM a := by
  unfold vin iM
  rw [Int32.toInt_toInt64, show (0 : Int64).toInt = 0 by decide, show (1 : Int64).toInt = 1 by decide]
  by_cases h : 0 ≤ a.toInt ∧ a.toInt < 2
  · rw [if_pos h, if_pos (by omega)]
  · rw [if_neg h, if_neg (by omega)]
theorem i_add {a b : Int32} (h1 : -2147483648 ≤ a.toInt + b.toInt) (h2 : a.toInt + b.toInt < 2147483648) : (a + b).toInt = a.toInt + b.toInt := by
  rw [Int32.toInt_add]
  exact Int.bmod_eq_of_le (by omega) (by omega)
theorem iM_ad {a : Int32} {c : Int32} (hc : c.toInt < 2000) (hc2 : 0 ≤ c.toInt) (h : 0 ≤ a.toInt ∧ a.toInt < 2) : inB (c + a) 2471 = true := by
  have e := i_add (a := c) (b := a) (by omega) (by omega)
  exact inB_of (by omega) (by omega)
theorem z_m1 : (0 : Int32) - 1 = -1 := by decide
theorem fr_168 {w : mT} {σ : mS} {a1 : Int32} {D : Nat} {K : Int32 → Hp → Prop} (hw : lit w) (hF : frO σ) (hD : 2 ≤ D) : wpI D 168 [.ref 81, .int a1] (mW w σ) K ↔ K (sM a1) (mW w σ) := by
  have hG := hF
  unfold frO at hF
  have hU : uI σ 81 0 0 = σ := uI_same hF.1
  refine cI_of (m := 1) (fun d hd Q hQ => ?_) rfl hD
  have hd1 : 1 ≤ d := by omega
  refine b168_0 ?_
  by_cases h : 0 ≤ a1.toInt ∧ a1.toInt < 2
  · rw [sM, if_pos h] at hQ
    simp only [↓rF_I, ↓rF_L, ↓rF_R, ↓rF_N, rO_m, rB_m, ↓rI_m, wI_m, ↓rB2_m, ↓rB3_m, wB2_m, wB3_m, ↓rL_m, wL_m, ↓rQ_m, wQ_m, ↓lI_m, pI_m, pL_m, pR_m, sI_m, sBy_m, sBo_m, sL_m, sQ_m, fst_m, true_and, and_true, tg_some, ln_some, uI_1, uI_2, uL_1, uL_2, uL_3, uQ_1, uQ_2, uQ_3, rv_i, rv_l, rv_n, rv_b0, rv_b1, RMR, ne_eq, reduceCtorEq, not_false_eq_true, Option.getD_some, if_true, if_false, and_self, false_and, and_false, Nat.add_left_cancel_iff, Nat.add_eq_left, Nat.left_eq_add, Nat.one_ne_zero, Nat.reduceAdd, Nat.reduceLT, Nat.reduceLeDiff, Nat.reduceEqDiff, RCX 0, RCG 2, RCT 4, RCT 15, RCT 25, RCS 35, RCS 49, RCH 63, RCP 67, RCB 72, RCR 77, RCM 81, RLY, lit_at hw, true_implies, false_implies, implies_true, Option.some.injEq, forall_eq', forall_eq, reduceCtorEq, brT, brF, br_s, i_10, i_01, ib_0_2, ib_1_2, tn_0, tn_1, Int32.le_refl, eq_self, hF, hU, fr_129, fr_128, vin_z0, vin_z1, vin_z2, vin_z3, vin_z4, vin_z5, rv_vin, tn_2, tn_3, inB_102_0, inB_102_1, inB_102_2, inB_102_3, inB_2471_0, inB_2471_1, inB_2471_2, inB_2471_3, inB_2471_4, inB_2471_5, inB_2471_6, inB_2471_7, inB_2471_8, inB_2471_9, inB_2471_10, inB_2471_11, inB_2471_12, inB_2471_13, inB_2471_14, inB_2471_15, inB_2471_16, hd1, vin_m, iM_t h, iM_ad (c := 2) (by decide) (by decide) h, z_m1]
    exact hQ
  · rw [sM, if_neg h] at hQ
    simp only [↓rF_I, ↓rF_L, ↓rF_R, ↓rF_N, rO_m, rB_m, ↓rI_m, wI_m, ↓rB2_m, ↓rB3_m, wB2_m, wB3_m, ↓rL_m, wL_m, ↓rQ_m, wQ_m, ↓lI_m, pI_m, pL_m, pR_m, sI_m, sBy_m, sBo_m, sL_m, sQ_m, fst_m, true_and, and_true, tg_some, ln_some, uI_1, uI_2, uL_1, uL_2, uL_3, uQ_1, uQ_2, uQ_3, rv_i, rv_l, rv_n, rv_b0, rv_b1, RMR, ne_eq, reduceCtorEq, not_false_eq_true, Option.getD_some, if_true, if_false, and_self, false_and, and_false, Nat.add_left_cancel_iff, Nat.add_eq_left, Nat.left_eq_add, Nat.one_ne_zero, Nat.reduceAdd, Nat.reduceLT, Nat.reduceLeDiff, Nat.reduceEqDiff, RCX 0, RCG 2, RCT 4, RCT 15, RCT 25, RCS 35, RCS 49, RCH 63, RCP 67, RCB 72, RCR 77, RCM 81, RLY, lit_at hw, true_implies, false_implies, implies_true, Option.some.injEq, forall_eq', forall_eq, reduceCtorEq, brT, brF, br_s, i_10, i_01, ib_0_2, ib_1_2, tn_0, tn_1, Int32.le_refl, eq_self, hF, hU, fr_129, fr_128, vin_z0, vin_z1, vin_z2, vin_z3, vin_z4, vin_z5, rv_vin, tn_2, tn_3, inB_102_0, inB_102_1, inB_102_2, inB_102_3, inB_2471_0, inB_2471_1, inB_2471_2, inB_2471_3, inB_2471_4, inB_2471_5, inB_2471_6, inB_2471_7, inB_2471_8, inB_2471_9, inB_2471_10, inB_2471_11, inB_2471_12, inB_2471_13, inB_2471_14, inB_2471_15, inB_2471_16, hd1, vin_m, iM_f h]
    exact hQ
theorem fr_189 {w : mT} {σ : mS} {a1 : Int32} {D : Nat} {K : Int32 → Hp → Prop} (hw : lit w) (hF : frO σ) (hD : 3 ≤ D) : wpI D 189 [.ref 81, .int a1] (mW w σ) K ↔ K 0 (mW w σ) := by
  have hG := hF
  unfold frO at hF
  have hU : uI σ 81 0 0 = σ := uI_same hF.1
  refine cI_of (m := 2) (fun d hd Q hQ => ?_) rfl hD
  have hd1 : 1 ≤ d := by omega
  have hd2 : 2 ≤ d := by omega
  refine b189_0 ?_
  by_cases h : 0 ≤ a1.toInt ∧ a1.toInt < 2
  · simp only [↓rF_I, ↓rF_L, ↓rF_R, ↓rF_N, rO_m, rB_m, ↓rI_m, wI_m, ↓rB2_m, ↓rB3_m, wB2_m, wB3_m, ↓rL_m, wL_m, ↓rQ_m, wQ_m, ↓lI_m, pI_m, pL_m, pR_m, sI_m, sBy_m, sBo_m, sL_m, sQ_m, fst_m, true_and, and_true, tg_some, ln_some, uI_1, uI_2, uL_1, uL_2, uL_3, uQ_1, uQ_2, uQ_3, rv_i, rv_l, rv_n, rv_b0, rv_b1, RMR, ne_eq, reduceCtorEq, not_false_eq_true, Option.getD_some, if_true, if_false, and_self, false_and, and_false, Nat.add_left_cancel_iff, Nat.add_eq_left, Nat.left_eq_add, Nat.one_ne_zero, Nat.reduceAdd, Nat.reduceLT, Nat.reduceLeDiff, Nat.reduceEqDiff, RCX 0, RCG 2, RCT 4, RCT 15, RCT 25, RCS 35, RCS 49, RCH 63, RCP 67, RCB 72, RCR 77, RCM 81, RLY, lit_at hw, true_implies, false_implies, implies_true, Option.some.injEq, forall_eq', forall_eq, reduceCtorEq, brT, brF, br_s, i_10, i_01, ib_0_2, ib_1_2, tn_0, tn_1, Int32.le_refl, eq_self, hF, hU, fr_129, fr_128, vin_z0, vin_z1, vin_z2, vin_z3, vin_z4, vin_z5, rv_vin, tn_2, tn_3, inB_102_0, inB_102_1, inB_102_2, inB_102_3, inB_2471_0, inB_2471_1, inB_2471_2, inB_2471_3, inB_2471_4, inB_2471_5, inB_2471_6, inB_2471_7, inB_2471_8, inB_2471_9, inB_2471_10, inB_2471_11, inB_2471_12, inB_2471_13, inB_2471_14, inB_2471_15, inB_2471_16, hd1, hd2, vin_m, iM_t h, iM_ad (c := 2) (by decide) (by decide) h]
    exact hQ
  · simp only [↓rF_I, ↓rF_L, ↓rF_R, ↓rF_N, rO_m, rB_m, ↓rI_m, wI_m, ↓rB2_m, ↓rB3_m, wB2_m, wB3_m, ↓rL_m, wL_m, ↓rQ_m, wQ_m, ↓lI_m, pI_m, pL_m, pR_m, sI_m, sBy_m, sBo_m, sL_m, sQ_m, fst_m, true_and, and_true, tg_some, ln_some, uI_1, uI_2, uL_1, uL_2, uL_3, uQ_1, uQ_2, uQ_3, rv_i, rv_l, rv_n, rv_b0, rv_b1, RMR, ne_eq, reduceCtorEq, not_false_eq_true, Option.getD_some, if_true, if_false, and_self, false_and, and_false, Nat.add_left_cancel_iff, Nat.add_eq_left, Nat.left_eq_add, Nat.one_ne_zero, Nat.reduceAdd, Nat.reduceLT, Nat.reduceLeDiff, Nat.reduceEqDiff, RCX 0, RCG 2, RCT 4, RCT 15, RCT 25, RCS 35, RCS 49, RCH 63, RCP 67, RCB 72, RCR 77, RCM 81, RLY, lit_at hw, true_implies, false_implies, implies_true, Option.some.injEq, forall_eq', forall_eq, reduceCtorEq, brT, brF, br_s, i_10, i_01, ib_0_2, ib_1_2, tn_0, tn_1, Int32.le_refl, eq_self, hF, hU, fr_129, fr_128, vin_z0, vin_z1, vin_z2, vin_z3, vin_z4, vin_z5, rv_vin, tn_2, tn_3, inB_102_0, inB_102_1, inB_102_2, inB_102_3, inB_2471_0, inB_2471_1, inB_2471_2, inB_2471_3, inB_2471_4, inB_2471_5, inB_2471_6, inB_2471_7, inB_2471_8, inB_2471_9, inB_2471_10, inB_2471_11, inB_2471_12, inB_2471_13, inB_2471_14, inB_2471_15, inB_2471_16, hd1, hd2, vin_m, iM_f h]
    exact hQ
theorem fr_195 {w : mT} {σ : mS} {a1 : Int32} {D : Nat} {K : Int32 → Hp → Prop} (hw : lit w) (hF : frO σ) (hD : 3 ≤ D) : wpI D 195 [.ref 81, .int a1] (mW w σ) K ↔ K (-1) (mW w σ) := by
  have hG := hF
  unfold frO at hF
  have hU : uI σ 81 0 0 = σ := uI_same hF.1
  refine cI_of (m := 2) (fun d hd Q hQ => ?_) rfl hD
  have hd1 : 1 ≤ d := by omega
  have hd2 : 2 ≤ d := by omega
  refine b195_0 ?_
  by_cases h : 0 ≤ a1.toInt ∧ a1.toInt < 2
  · simp only [↓rF_I, ↓rF_L, ↓rF_R, ↓rF_N, rO_m, rB_m, ↓rI_m, wI_m, ↓rB2_m, ↓rB3_m, wB2_m, wB3_m, ↓rL_m, wL_m, ↓rQ_m, wQ_m, ↓lI_m, pI_m, pL_m, pR_m, sI_m, sBy_m, sBo_m, sL_m, sQ_m, fst_m, true_and, and_true, tg_some, ln_some, uI_1, uI_2, uL_1, uL_2, uL_3, uQ_1, uQ_2, uQ_3, rv_i, rv_l, rv_n, rv_b0, rv_b1, RMR, ne_eq, reduceCtorEq, not_false_eq_true, Option.getD_some, if_true, if_false, and_self, false_and, and_false, Nat.add_left_cancel_iff, Nat.add_eq_left, Nat.left_eq_add, Nat.one_ne_zero, Nat.reduceAdd, Nat.reduceLT, Nat.reduceLeDiff, Nat.reduceEqDiff, RCX 0, RCG 2, RCT 4, RCT 15, RCT 25, RCS 35, RCS 49, RCH 63, RCP 67, RCB 72, RCR 77, RCM 81, RLY, lit_at hw, true_implies, false_implies, implies_true, Option.some.injEq, forall_eq', forall_eq, reduceCtorEq, brT, brF, br_s, i_10, i_01, ib_0_2, ib_1_2, tn_0, tn_1, Int32.le_refl, eq_self, hF, hU, fr_129, fr_128, vin_z0, vin_z1, vin_z2, vin_z3, vin_z4, vin_z5, rv_vin, tn_2, tn_3, inB_102_0, inB_102_1, inB_102_2, inB_102_3, inB_2471_0, inB_2471_1, inB_2471_2, inB_2471_3, inB_2471_4, inB_2471_5, inB_2471_6, inB_2471_7, inB_2471_8, inB_2471_9, inB_2471_10, inB_2471_11, inB_2471_12, inB_2471_13, inB_2471_14, inB_2471_15, inB_2471_16, hd1, hd2, vin_m, iM_t h, iM_ad (c := 10) (by decide) (by decide) h]
    exact hQ
  · simp only [↓rF_I, ↓rF_L, ↓rF_R, ↓rF_N, rO_m, rB_m, ↓rI_m, wI_m, ↓rB2_m, ↓rB3_m, wB2_m, wB3_m, ↓rL_m, wL_m, ↓rQ_m, wQ_m, ↓lI_m, pI_m, pL_m, pR_m, sI_m, sBy_m, sBo_m, sL_m, sQ_m, fst_m, true_and, and_true, tg_some, ln_some, uI_1, uI_2, uL_1, uL_2, uL_3, uQ_1, uQ_2, uQ_3, rv_i, rv_l, rv_n, rv_b0, rv_b1, RMR, ne_eq, reduceCtorEq, not_false_eq_true, Option.getD_some, if_true, if_false, and_self, false_and, and_false, Nat.add_left_cancel_iff, Nat.add_eq_left, Nat.left_eq_add, Nat.one_ne_zero, Nat.reduceAdd, Nat.reduceLT, Nat.reduceLeDiff, Nat.reduceEqDiff, RCX 0, RCG 2, RCT 4, RCT 15, RCT 25, RCS 35, RCS 49, RCH 63, RCP 67, RCB 72, RCR 77, RCM 81, RLY, lit_at hw, true_implies, false_implies, implies_true, Option.some.injEq, forall_eq', forall_eq, reduceCtorEq, brT, brF, br_s, i_10, i_01, ib_0_2, ib_1_2, tn_0, tn_1, Int32.le_refl, eq_self, hF, hU, fr_129, fr_128, vin_z0, vin_z1, vin_z2, vin_z3, vin_z4, vin_z5, rv_vin, tn_2, tn_3, inB_102_0, inB_102_1, inB_102_2, inB_102_3, inB_2471_0, inB_2471_1, inB_2471_2, inB_2471_3, inB_2471_4, inB_2471_5, inB_2471_6, inB_2471_7, inB_2471_8, inB_2471_9, inB_2471_10, inB_2471_11, inB_2471_12, inB_2471_13, inB_2471_14, inB_2471_15, inB_2471_16, hd1, hd2, vin_m, iM_f h]
    exact hQ
theorem fr_219 {w : mT} {σ : mS} {a1 a2 : Int32} {D : Nat} {K : Int32 → Hp → Prop} (hw : lit w) (hF : frO σ) (hD : 9 ≤ D) : wpI D 219 [.ref 81, .int a1, .int a2] (mW w σ) K ↔ K 0 (mW w σ) := by
  have hG := hF
  unfold frO at hF
  have hU : uI σ 81 0 0 = σ := uI_same hF.1
  have hU2 : uI σ 81 27 0 = σ := uI_same (by simp only [hF])
  refine cI_of (m := 8) (fun d hd Q hQ => ?_) rfl hD
  have hd1 : 1 ≤ d := by omega
  have hd2 : 2 ≤ d := by omega
  have hd3 : 3 ≤ d := by omega
  have hd4 : 4 ≤ d := by omega
  have hd5 : 5 ≤ d := by omega
  have hd6 : 6 ≤ d := by omega
  have hd7 : 7 ≤ d := by omega
  have hd8 : 8 ≤ d := by omega
  refine b219_0 ?_
  have h39 : Wp 219 39 [.ref 81, .int a1, .int a2, .int (0 : Int32), .int (0 : Int32)] [] (mW w σ) Q d := by
    refine b219_39 ?_
    simp only [↓rF_I, ↓rF_L, ↓rF_R, ↓rF_N, rO_m, rB_m, ↓rI_m, wI_m, ↓rB2_m, ↓rB3_m, wB2_m, wB3_m, ↓rL_m, wL_m, ↓rQ_m, wQ_m, ↓lI_m, pI_m, pL_m, pR_m, sI_m, sBy_m, sBo_m, sL_m, sQ_m, fst_m, true_and, and_true, tg_some, ln_some, uI_1, uI_2, uL_1, uL_2, uL_3, uQ_1, uQ_2, uQ_3, rv_i, rv_l, rv_n, rv_b0, rv_b1, RMR, ne_eq, reduceCtorEq, not_false_eq_true, Option.getD_some, if_true, if_false, and_self, false_and, and_false, Nat.add_left_cancel_iff, Nat.add_eq_left, Nat.left_eq_add, Nat.one_ne_zero, Nat.reduceAdd, Nat.reduceLT, Nat.reduceLeDiff, Nat.reduceEqDiff, RCX 0, RCG 2, RCT 4, RCT 15, RCT 25, RCS 35, RCS 49, RCH 63, RCP 67, RCB 72, RCR 77, RCM 81, RLY, lit_at hw, true_implies, false_implies, implies_true, Option.some.injEq, forall_eq', forall_eq, reduceCtorEq, brT, brF, br_s, i_10, i_01, ib_0_2, ib_1_2, tn_0, tn_1, Int32.le_refl, eq_self, hF, hU, fr_129, fr_128, vin_z0, vin_z1, vin_z2, vin_z3, vin_z4, vin_z5, rv_vin, tn_2, tn_3, inB_102_0, inB_102_1, inB_102_2, inB_102_3, inB_2471_0, inB_2471_1, inB_2471_2, inB_2471_3, inB_2471_4, inB_2471_5, inB_2471_6, inB_2471_7, inB_2471_8, inB_2471_9, inB_2471_10, inB_2471_11, inB_2471_12, inB_2471_13, inB_2471_14, inB_2471_15, inB_2471_16, hd1, hd2, hd3, hd4, hd5, hd6, hd7, hd8]
    exact hQ
  simp only [↓rF_I, ↓rF_L, ↓rF_R, ↓rF_N, rO_m, rB_m, ↓rI_m, wI_m, ↓rB2_m, ↓rB3_m, wB2_m, wB3_m, ↓rL_m, wL_m, ↓rQ_m, wQ_m, ↓lI_m, pI_m, pL_m, pR_m, sI_m, sBy_m, sBo_m, sL_m, sQ_m, fst_m, true_and, and_true, tg_some, ln_some, uI_1, uI_2, uL_1, uL_2, uL_3, uQ_1, uQ_2, uQ_3, rv_i, rv_l, rv_n, rv_b0, rv_b1, RMR, ne_eq, reduceCtorEq, not_false_eq_true, Option.getD_some, if_true, if_false, and_self, false_and, and_false, Nat.add_left_cancel_iff, Nat.add_eq_left, Nat.left_eq_add, Nat.one_ne_zero, Nat.reduceAdd, Nat.reduceLT, Nat.reduceLeDiff, Nat.reduceEqDiff, RCX 0, RCG 2, RCT 4, RCT 15, RCT 25, RCS 35, RCS 49, RCH 63, RCP 67, RCB 72, RCR 77, RCM 81, RLY, lit_at hw, true_implies, false_implies, implies_true, Option.some.injEq, forall_eq', forall_eq, reduceCtorEq, brT, brF, br_s, i_10, i_01, ib_0_2, ib_1_2, tn_0, tn_1, Int32.le_refl, eq_self, hF, hU, fr_129, fr_128, vin_z0, vin_z1, vin_z2, vin_z3, vin_z4, vin_z5, rv_vin, tn_2, tn_3, inB_102_0, inB_102_1, inB_102_2, inB_102_3, inB_2471_0, inB_2471_1, inB_2471_2, inB_2471_3, inB_2471_4, inB_2471_5, inB_2471_6, inB_2471_7, inB_2471_8, inB_2471_9, inB_2471_10, inB_2471_11, inB_2471_12, inB_2471_13, inB_2471_14, inB_2471_15, inB_2471_16, hd1, hd2, hd3, hd4, hd5, hd6, hd7, hd8, hU2]
  repeat' first
    | exact hQ
    | exact h39
    | refine ⟨fun _ => ?_, fun _ => ?_⟩
theorem fr_220 {w : mT} {σ : mS} {a1 a2 a3 : Int32} {D : Nat} {K : Int32 → Hp → Prop} (hw : lit w) (hF : frO σ) (hD : 10 ≤ D) : wpI D 220 [.ref 81, .int a1, .int a2, .int a3] (mW w σ) K ↔ K (-1) (mW w σ) := by
  have hG := hF
  unfold frO at hF
  have hU : uI σ 81 0 0 = σ := uI_same hF.1
  refine cI_of (m := 9) (fun d hd Q hQ => ?_) rfl hD
  have hd1 : 1 ≤ d := by omega
  have hd2 : 2 ≤ d := by omega
  have hd3 : 3 ≤ d := by omega
  have hd4 : 4 ≤ d := by omega
  have hd5 : 5 ≤ d := by omega
  have hd6 : 6 ≤ d := by omega
  have hd7 : 7 ≤ d := by omega
  have hd8 : 8 ≤ d := by omega
  have hd9 : 9 ≤ d := by omega
  refine b220_0 ?_
  simp only [↓rF_I, ↓rF_L, ↓rF_R, ↓rF_N, rO_m, rB_m, ↓rI_m, wI_m, ↓rB2_m, ↓rB3_m, wB2_m, wB3_m, ↓rL_m, wL_m, ↓rQ_m, wQ_m, ↓lI_m, pI_m, pL_m, pR_m, sI_m, sBy_m, sBo_m, sL_m, sQ_m, fst_m, true_and, and_true, tg_some, ln_some, uI_1, uI_2, uL_1, uL_2, uL_3, uQ_1, uQ_2, uQ_3, rv_i, rv_l, rv_n, rv_b0, rv_b1, RMR, ne_eq, reduceCtorEq, not_false_eq_true, Option.getD_some, if_true, if_false, and_self, false_and, and_false, Nat.add_left_cancel_iff, Nat.add_eq_left, Nat.left_eq_add, Nat.one_ne_zero, Nat.reduceAdd, Nat.reduceLT, Nat.reduceLeDiff, Nat.reduceEqDiff, RCX 0, RCG 2, RCT 4, RCT 15, RCT 25, RCS 35, RCS 49, RCH 63, RCP 67, RCB 72, RCR 77, RCM 81, RLY, lit_at hw, true_implies, false_implies, implies_true, Option.some.injEq, forall_eq', forall_eq, reduceCtorEq, brT, brF, br_s, i_10, i_01, ib_0_2, ib_1_2, tn_0, tn_1, Int32.le_refl, eq_self, hF, hU, fr_129, fr_128, vin_z0, vin_z1, vin_z2, vin_z3, vin_z4, vin_z5, rv_vin, tn_2, tn_3, inB_102_0, inB_102_1, inB_102_2, inB_102_3, inB_2471_0, inB_2471_1, inB_2471_2, inB_2471_3, inB_2471_4, inB_2471_5, inB_2471_6, inB_2471_7, inB_2471_8, inB_2471_9, inB_2471_10, inB_2471_11, inB_2471_12, inB_2471_13, inB_2471_14, inB_2471_15, inB_2471_16, hd1, hd2, hd3, hd4, hd5, hd6, hd7, hd8, hd9, fr_219 hw hG]
  exact hQ
theorem fr_221 {w : mT} {σ : mS} {a1 a2 : Int32} {D : Nat} {K : Int64 → Hp → Prop} (hw : lit w) (hF : frO σ) (hD : 10 ≤ D) : wpL D 221 [.ref 81, .int a1, .int a2] (mW w σ) K ↔ K (-1) (mW w σ) := by
  have hG := hF
  unfold frO at hF
  have hU : uI σ 81 0 0 = σ := uI_same hF.1
  refine cL_of (m := 9) (fun d hd Q hQ => ?_) rfl hD
  have hd1 : 1 ≤ d := by omega
  have hd2 : 2 ≤ d := by omega
  have hd3 : 3 ≤ d := by omega
  have hd4 : 4 ≤ d := by omega
  have hd5 : 5 ≤ d := by omega
  have hd6 : 6 ≤ d := by omega
  have hd7 : 7 ≤ d := by omega
  have hd8 : 8 ≤ d := by omega
  have hd9 : 9 ≤ d := by omega
  refine b221_0 ?_
  simp only [↓rF_I, ↓rF_L, ↓rF_R, ↓rF_N, rO_m, rB_m, ↓rI_m, wI_m, ↓rB2_m, ↓rB3_m, wB2_m, wB3_m, ↓rL_m, wL_m, ↓rQ_m, wQ_m, ↓lI_m, pI_m, pL_m, pR_m, sI_m, sBy_m, sBo_m, sL_m, sQ_m, fst_m, true_and, and_true, tg_some, ln_some, uI_1, uI_2, uL_1, uL_2, uL_3, uQ_1, uQ_2, uQ_3, rv_i, rv_l, rv_n, rv_b0, rv_b1, RMR, ne_eq, reduceCtorEq, not_false_eq_true, Option.getD_some, if_true, if_false, and_self, false_and, and_false, Nat.add_left_cancel_iff, Nat.add_eq_left, Nat.left_eq_add, Nat.one_ne_zero, Nat.reduceAdd, Nat.reduceLT, Nat.reduceLeDiff, Nat.reduceEqDiff, RCX 0, RCG 2, RCT 4, RCT 15, RCT 25, RCS 35, RCS 49, RCH 63, RCP 67, RCB 72, RCR 77, RCM 81, RLY, lit_at hw, true_implies, false_implies, implies_true, Option.some.injEq, forall_eq', forall_eq, reduceCtorEq, brT, brF, br_s, i_10, i_01, ib_0_2, ib_1_2, tn_0, tn_1, Int32.le_refl, eq_self, hF, hU, fr_129, fr_128, vin_z0, vin_z1, vin_z2, vin_z3, vin_z4, vin_z5, rv_vin, tn_2, tn_3, inB_102_0, inB_102_1, inB_102_2, inB_102_3, inB_2471_0, inB_2471_1, inB_2471_2, inB_2471_3, inB_2471_4, inB_2471_5, inB_2471_6, inB_2471_7, inB_2471_8, inB_2471_9, inB_2471_10, inB_2471_11, inB_2471_12, inB_2471_13, inB_2471_14, inB_2471_15, inB_2471_16, hd1, hd2, hd3, hd4, hd5, hd6, hd7, hd8, hd9, fr_219 hw hG]
  exact hQ
theorem fr_229 {w : mT} {σ : mS} {D : Nat} {K : Int32 → Hp → Prop} (hw : lit w) (hF : frO σ) (hD : 2 ≤ D) : wpI D 229 [.ref 81] (mW w σ) K ↔ K (-1) (mW w σ) := by
  have hG := hF
  unfold frO at hF
  have hU : uI σ 81 0 0 = σ := uI_same hF.1
  refine cI_of (m := 1) (fun d hd Q hQ => ?_) rfl hD
  have hd1 : 1 ≤ d := by omega
  refine b229_0 (b229_4 ?_)
  simp only [↓rF_I, ↓rF_L, ↓rF_R, ↓rF_N, rO_m, rB_m, ↓rI_m, wI_m, ↓rB2_m, ↓rB3_m, wB2_m, wB3_m, ↓rL_m, wL_m, ↓rQ_m, wQ_m, ↓lI_m, pI_m, pL_m, pR_m, sI_m, sBy_m, sBo_m, sL_m, sQ_m, fst_m, true_and, and_true, tg_some, ln_some, uI_1, uI_2, uL_1, uL_2, uL_3, uQ_1, uQ_2, uQ_3, rv_i, rv_l, rv_n, rv_b0, rv_b1, RMR, ne_eq, reduceCtorEq, not_false_eq_true, Option.getD_some, if_true, if_false, and_self, false_and, and_false, Nat.add_left_cancel_iff, Nat.add_eq_left, Nat.left_eq_add, Nat.one_ne_zero, Nat.reduceAdd, Nat.reduceLT, Nat.reduceLeDiff, Nat.reduceEqDiff, RCX 0, RCG 2, RCT 4, RCT 15, RCT 25, RCS 35, RCS 49, RCH 63, RCP 67, RCB 72, RCR 77, RCM 81, RLY, lit_at hw, true_implies, false_implies, implies_true, Option.some.injEq, forall_eq', forall_eq, reduceCtorEq, brT, brF, br_s, i_10, i_01, ib_0_2, ib_1_2, tn_0, tn_1, Int32.le_refl, eq_self, hF, hU, fr_129, fr_128, vin_z0, vin_z1, vin_z2, vin_z3, vin_z4, vin_z5, rv_vin, tn_2, tn_3, inB_102_0, inB_102_1, inB_102_2, inB_102_3, inB_2471_0, inB_2471_1, inB_2471_2, inB_2471_3, inB_2471_4, inB_2471_5, inB_2471_6, inB_2471_7, inB_2471_8, inB_2471_9, inB_2471_10, inB_2471_11, inB_2471_12, inB_2471_13, inB_2471_14, inB_2471_15, inB_2471_16, hd1]
  exact hQ
theorem on_0 : (0 : Int32) = Int32.ofNat 0 := rfl
theorem fr_231_2 {w : mT} {σ : mS} {d : Nat} {Q : Option (Option Value) → Hp → Prop} (hw : lit w) (hF : frO σ) (hd : 2 ≤ d) (hQ : Q (some none) (mW w σ)) : ∀ n i : Nat, i + n = 8 → Wp 231 2 [.ref 81, .int (Int32.ofNat i), jk, jk] [] (mW w σ) Q d := by
  have hG := hF
  unfold frO at hF
  have hU : uI σ 81 0 0 = σ := uI_same hF.1
  have hd1 : 1 ≤ d := by omega
  have hU2 : uI σ 81 42 0 = σ := uI_same (by simp only [hF])
  have hU3 : uI σ 81 41 0 = σ := uI_same (by simp only [hF])
  have h199 : Wp 231 199 [.ref 81, .int ((0 : Int32) - 1), .int (0 : Int32), jk] [] (mW w σ) Q d := by
    refine b231_199a ?_
    simp only [↓rF_I, ↓rF_L, ↓rF_R, ↓rF_N, rO_m, rB_m, ↓rI_m, wI_m, ↓rB2_m, ↓rB3_m, wB2_m, wB3_m, ↓rL_m, wL_m, ↓rQ_m, wQ_m, ↓lI_m, pI_m, pL_m, pR_m, sI_m, sBy_m, sBo_m, sL_m, sQ_m, fst_m, true_and, and_true, tg_some, ln_some, uI_1, uI_2, uL_1, uL_2, uL_3, uQ_1, uQ_2, uQ_3, rv_i, rv_l, rv_n, rv_b0, rv_b1, RMR, ne_eq, reduceCtorEq, not_false_eq_true, Option.getD_some, if_true, if_false, and_self, false_and, and_false, Nat.add_left_cancel_iff, Nat.add_eq_left, Nat.left_eq_add, Nat.one_ne_zero, Nat.reduceAdd, Nat.reduceLT, Nat.reduceLeDiff, Nat.reduceEqDiff, RCX 0, RCG 2, RCT 4, RCT 15, RCT 25, RCS 35, RCS 49, RCH 63, RCP 67, RCB 72, RCR 77, RCM 81, RLY, lit_at hw, true_implies, false_implies, implies_true, Option.some.injEq, forall_eq', forall_eq, reduceCtorEq, brT, brF, br_s, i_10, i_01, ib_0_2, ib_1_2, tn_0, tn_1, Int32.le_refl, eq_self, hF, hU, fr_129, fr_128, vin_z0, vin_z1, vin_z2, vin_z3, vin_z4, vin_z5, rv_vin, tn_2, tn_3, inB_102_0, inB_102_1, inB_102_2, inB_102_3, inB_2471_0, inB_2471_1, inB_2471_2, inB_2471_3, inB_2471_4, inB_2471_5, inB_2471_6, inB_2471_7, inB_2471_8, inB_2471_9, inB_2471_10, inB_2471_11, inB_2471_12, inB_2471_13, inB_2471_14, inB_2471_15, inB_2471_16, hd, hd1]
    exact hQ
  have h148 : Wp 231 148 [.ref 81, .int ((0 : Int32) - 1), .int (-1 : Int32), jk] [] (mW w σ) Q d := by
    refine b231_148a ?_
    simp only [↓rF_I, ↓rF_L, ↓rF_R, ↓rF_N, rO_m, rB_m, ↓rI_m, wI_m, ↓rB2_m, ↓rB3_m, wB2_m, wB3_m, ↓rL_m, wL_m, ↓rQ_m, wQ_m, ↓lI_m, pI_m, pL_m, pR_m, sI_m, sBy_m, sBo_m, sL_m, sQ_m, fst_m, true_and, and_true, tg_some, ln_some, uI_1, uI_2, uL_1, uL_2, uL_3, uQ_1, uQ_2, uQ_3, rv_i, rv_l, rv_n, rv_b0, rv_b1, RMR, ne_eq, reduceCtorEq, not_false_eq_true, Option.getD_some, if_true, if_false, and_self, false_and, and_false, Nat.add_left_cancel_iff, Nat.add_eq_left, Nat.left_eq_add, Nat.one_ne_zero, Nat.reduceAdd, Nat.reduceLT, Nat.reduceLeDiff, Nat.reduceEqDiff, RCX 0, RCG 2, RCT 4, RCT 15, RCT 25, RCS 35, RCS 49, RCH 63, RCP 67, RCB 72, RCR 77, RCM 81, RLY, lit_at hw, true_implies, false_implies, implies_true, Option.some.injEq, forall_eq', forall_eq, reduceCtorEq, brT, brF, br_s, i_10, i_01, ib_0_2, ib_1_2, tn_0, tn_1, Int32.le_refl, eq_self, hF, hU, fr_129, fr_128, vin_z0, vin_z1, vin_z2, vin_z3, vin_z4, vin_z5, rv_vin, tn_2, tn_3, inB_102_0, inB_102_1, inB_102_2, inB_102_3, inB_2471_0, inB_2471_1, inB_2471_2, inB_2471_3, inB_2471_4, inB_2471_5, inB_2471_6, inB_2471_7, inB_2471_8, inB_2471_9, inB_2471_10, inB_2471_11, inB_2471_12, inB_2471_13, inB_2471_14, inB_2471_15, inB_2471_16, hd, hd1]
    exact h199
  have h124 : ∀ n i : Nat, i + n = 8 → Wp 231 124 [.ref 81, .int ((0 : Int32) - 1), .int (Int32.ofNat i), jk] [] (mW w σ) Q d := by
    intro n
    induction n with
    | zero =>
      intro i hi
      refine b231_124a ?_
      have e : (8 : Int32) ≤ Int32.ofNat i := (on_le (i := 8) (by omega) (by omega)).mpr (by omega)
      simp only [↓rF_I, ↓rF_L, ↓rF_R, ↓rF_N, rO_m, rB_m, ↓rI_m, wI_m, ↓rB2_m, ↓rB3_m, wB2_m, wB3_m, ↓rL_m, wL_m, ↓rQ_m, wQ_m, ↓lI_m, pI_m, pL_m, pR_m, sI_m, sBy_m, sBo_m, sL_m, sQ_m, fst_m, true_and, and_true, tg_some, ln_some, uI_1, uI_2, uL_1, uL_2, uL_3, uQ_1, uQ_2, uQ_3, rv_i, rv_l, rv_n, rv_b0, rv_b1, RMR, ne_eq, reduceCtorEq, not_false_eq_true, Option.getD_some, if_true, if_false, and_self, false_and, and_false, Nat.add_left_cancel_iff, Nat.add_eq_left, Nat.left_eq_add, Nat.one_ne_zero, Nat.reduceAdd, Nat.reduceLT, Nat.reduceLeDiff, Nat.reduceEqDiff, RCX 0, RCG 2, RCT 4, RCT 15, RCT 25, RCS 35, RCS 49, RCH 63, RCP 67, RCB 72, RCR 77, RCM 81, RLY, lit_at hw, true_implies, false_implies, implies_true, Option.some.injEq, forall_eq', forall_eq, reduceCtorEq, brT, brF, br_s, i_10, i_01, ib_0_2, ib_1_2, tn_0, tn_1, Int32.le_refl, eq_self, hF, hU, fr_129, fr_128, vin_z0, vin_z1, vin_z2, vin_z3, vin_z4, vin_z5, rv_vin, tn_2, tn_3, inB_102_0, inB_102_1, inB_102_2, inB_102_3, inB_2471_0, inB_2471_1, inB_2471_2, inB_2471_3, inB_2471_4, inB_2471_5, inB_2471_6, inB_2471_7, inB_2471_8, inB_2471_9, inB_2471_10, inB_2471_11, inB_2471_12, inB_2471_13, inB_2471_14, inB_2471_15, inB_2471_16, hd, hd1, e, fr_229 hw hG]
      exact h148
    | succ n ih =>
      intro i hi
      refine b231_124a ?_
      have e : ¬ (8 : Int32) ≤ Int32.ofNat i := fun h => absurd ((on_le (i := 8) (by omega) (by omega)).mp h) (by omega)
      have e2 : uI σ 96 i 0 = σ := uI_same (by simp only [hF])
      simp only [↓rF_I, ↓rF_L, ↓rF_R, ↓rF_N, rO_m, rB_m, ↓rI_m, wI_m, ↓rB2_m, ↓rB3_m, wB2_m, wB3_m, ↓rL_m, wL_m, ↓rQ_m, wQ_m, ↓lI_m, pI_m, pL_m, pR_m, sI_m, sBy_m, sBo_m, sL_m, sQ_m, fst_m, true_and, and_true, tg_some, ln_some, uI_1, uI_2, uL_1, uL_2, uL_3, uQ_1, uQ_2, uQ_3, rv_i, rv_l, rv_n, rv_b0, rv_b1, RMR, ne_eq, reduceCtorEq, not_false_eq_true, Option.getD_some, if_true, if_false, and_self, false_and, and_false, Nat.add_left_cancel_iff, Nat.add_eq_left, Nat.left_eq_add, Nat.one_ne_zero, Nat.reduceAdd, Nat.reduceLT, Nat.reduceLeDiff, Nat.reduceEqDiff, RCX 0, RCG 2, RCT 4, RCT 15, RCT 25, RCS 35, RCS 49, RCH 63, RCP 67, RCB 72, RCR 77, RCM 81, RLY, lit_at hw, true_implies, false_implies, implies_true, Option.some.injEq, forall_eq', forall_eq, reduceCtorEq, brT, brF, br_s, i_10, i_01, ib_0_2, ib_1_2, tn_0, tn_1, Int32.le_refl, eq_self, hF, hU, fr_129, fr_128, vin_z0, vin_z1, vin_z2, vin_z3, vin_z4, vin_z5, rv_vin, tn_2, tn_3, inB_102_0, inB_102_1, inB_102_2, inB_102_3, inB_2471_0, inB_2471_1, inB_2471_2, inB_2471_3, inB_2471_4, inB_2471_5, inB_2471_6, inB_2471_7, inB_2471_8, inB_2471_9, inB_2471_10, inB_2471_11, inB_2471_12, inB_2471_13, inB_2471_14, inB_2471_15, inB_2471_16, hd, hd1, e, on_inB (i := i) (n := 8) (by omega) (by omega), on_nat (i := i) (by omega), vn_b0, e2, on_succ]
      exact ih (i + 1) (by omega)
  intro n
  induction n with
  | zero =>
    intro i hi
    refine b231_2 ?_
    have e : (8 : Int32) ≤ Int32.ofNat i := (on_le (i := 8) (by omega) (by omega)).mpr (by omega)
    simp only [↓rF_I, ↓rF_L, ↓rF_R, ↓rF_N, rO_m, rB_m, ↓rI_m, wI_m, ↓rB2_m, ↓rB3_m, wB2_m, wB3_m, ↓rL_m, wL_m, ↓rQ_m, wQ_m, ↓lI_m, pI_m, pL_m, pR_m, sI_m, sBy_m, sBo_m, sL_m, sQ_m, fst_m, true_and, and_true, tg_some, ln_some, uI_1, uI_2, uL_1, uL_2, uL_3, uQ_1, uQ_2, uQ_3, rv_i, rv_l, rv_n, rv_b0, rv_b1, RMR, ne_eq, reduceCtorEq, not_false_eq_true, Option.getD_some, if_true, if_false, and_self, false_and, and_false, Nat.add_left_cancel_iff, Nat.add_eq_left, Nat.left_eq_add, Nat.one_ne_zero, Nat.reduceAdd, Nat.reduceLT, Nat.reduceLeDiff, Nat.reduceEqDiff, RCX 0, RCG 2, RCT 4, RCT 15, RCT 25, RCS 35, RCS 49, RCH 63, RCP 67, RCB 72, RCR 77, RCM 81, RLY, lit_at hw, true_implies, false_implies, implies_true, Option.some.injEq, forall_eq', forall_eq, reduceCtorEq, brT, brF, br_s, i_10, i_01, ib_0_2, ib_1_2, tn_0, tn_1, Int32.le_refl, eq_self, hF, hU, fr_129, fr_128, vin_z0, vin_z1, vin_z2, vin_z3, vin_z4, vin_z5, rv_vin, tn_2, tn_3, inB_102_0, inB_102_1, inB_102_2, inB_102_3, inB_2471_0, inB_2471_1, inB_2471_2, inB_2471_3, inB_2471_4, inB_2471_5, inB_2471_6, inB_2471_7, inB_2471_8, inB_2471_9, inB_2471_10, inB_2471_11, inB_2471_12, inB_2471_13, inB_2471_14, inB_2471_15, inB_2471_16, hd, hd1, e, hU2, fr_229 hw hG]
    refine b231_47 ?_
    simp only [↓rF_I, ↓rF_L, ↓rF_R, ↓rF_N, rO_m, rB_m, ↓rI_m, wI_m, ↓rB2_m, ↓rB3_m, wB2_m, wB3_m, ↓rL_m, wL_m, ↓rQ_m, wQ_m, ↓lI_m, pI_m, pL_m, pR_m, sI_m, sBy_m, sBo_m, sL_m, sQ_m, fst_m, true_and, and_true, tg_some, ln_some, uI_1, uI_2, uL_1, uL_2, uL_3, uQ_1, uQ_2, uQ_3, rv_i, rv_l, rv_n, rv_b0, rv_b1, RMR, ne_eq, reduceCtorEq, not_false_eq_true, Option.getD_some, if_true, if_false, and_self, false_and, and_false, Nat.add_left_cancel_iff, Nat.add_eq_left, Nat.left_eq_add, Nat.one_ne_zero, Nat.reduceAdd, Nat.reduceLT, Nat.reduceLeDiff, Nat.reduceEqDiff, RCX 0, RCG 2, RCT 4, RCT 15, RCT 25, RCS 35, RCS 49, RCH 63, RCP 67, RCB 72, RCR 77, RCM 81, RLY, lit_at hw, true_implies, false_implies, implies_true, Option.some.injEq, forall_eq', forall_eq, reduceCtorEq, brT, brF, br_s, i_10, i_01, ib_0_2, ib_1_2, tn_0, tn_1, Int32.le_refl, eq_self, hF, hU, fr_129, fr_128, vin_z0, vin_z1, vin_z2, vin_z3, vin_z4, vin_z5, rv_vin, tn_2, tn_3, inB_102_0, inB_102_1, inB_102_2, inB_102_3, inB_2471_0, inB_2471_1, inB_2471_2, inB_2471_3, inB_2471_4, inB_2471_5, inB_2471_6, inB_2471_7, inB_2471_8, inB_2471_9, inB_2471_10, inB_2471_11, inB_2471_12, inB_2471_13, inB_2471_14, inB_2471_15, inB_2471_16, hd, hd1, hU3]
    exact h124 8 0 rfl
  | succ n ih =>
    intro i hi
    refine b231_2 ?_
    have e : ¬ (8 : Int32) ≤ Int32.ofNat i := fun h => absurd ((on_le (i := 8) (by omega) (by omega)).mp h) (by omega)
    have e2 : uI σ 96 i 0 = σ := uI_same (by simp only [hF])
    have e3 : uI σ 95 i 0 = σ := uI_same (by simp only [hF])
    simp only [↓rF_I, ↓rF_L, ↓rF_R, ↓rF_N, rO_m, rB_m, ↓rI_m, wI_m, ↓rB2_m, ↓rB3_m, wB2_m, wB3_m, ↓rL_m, wL_m, ↓rQ_m, wQ_m, ↓lI_m, pI_m, pL_m, pR_m, sI_m, sBy_m, sBo_m, sL_m, sQ_m, fst_m, true_and, and_true, tg_some, ln_some, uI_1, uI_2, uL_1, uL_2, uL_3, uQ_1, uQ_2, uQ_3, rv_i, rv_l, rv_n, rv_b0, rv_b1, RMR, ne_eq, reduceCtorEq, not_false_eq_true, Option.getD_some, if_true, if_false, and_self, false_and, and_false, Nat.add_left_cancel_iff, Nat.add_eq_left, Nat.left_eq_add, Nat.one_ne_zero, Nat.reduceAdd, Nat.reduceLT, Nat.reduceLeDiff, Nat.reduceEqDiff, RCX 0, RCG 2, RCT 4, RCT 15, RCT 25, RCS 35, RCS 49, RCH 63, RCP 67, RCB 72, RCR 77, RCM 81, RLY, lit_at hw, true_implies, false_implies, implies_true, Option.some.injEq, forall_eq', forall_eq, reduceCtorEq, brT, brF, br_s, i_10, i_01, ib_0_2, ib_1_2, tn_0, tn_1, Int32.le_refl, eq_self, hF, hU, fr_129, fr_128, vin_z0, vin_z1, vin_z2, vin_z3, vin_z4, vin_z5, rv_vin, tn_2, tn_3, inB_102_0, inB_102_1, inB_102_2, inB_102_3, inB_2471_0, inB_2471_1, inB_2471_2, inB_2471_3, inB_2471_4, inB_2471_5, inB_2471_6, inB_2471_7, inB_2471_8, inB_2471_9, inB_2471_10, inB_2471_11, inB_2471_12, inB_2471_13, inB_2471_14, inB_2471_15, inB_2471_16, hd, hd1, e, on_inB (i := i) (n := 8) (by omega) (by omega), on_nat (i := i) (by omega), vn_b0, e2, e3, on_succ]
    exact ih (i + 1) (by omega)
theorem fr_231 {w : mT} {σ : mS} {D : Nat} {K : Hp → Prop} (hw : lit w) (hF : frO σ) (hD : 3 ≤ D) : wpV D 231 [.ref 81] (mW w σ) K ↔ K (mW w σ) :=
  cV_of (m := 2) (fun d hd Q hQ => b231_0 (fr_231_2 hw hF hd hQ 8 0 rfl)) rfl hD
theorem fr_232 {w : mT} {σ : mS} {D : Nat} {K : Int32 → Hp → Prop} (hw : lit w) (hF : frO σ) (hD : 4 ≤ D) : wpI D 232 [.ref 81] (mW w σ) K ↔ K 0 (mW w σ) := by
  have hG := hF
  unfold frO at hF
  have hU : uI σ 81 0 0 = σ := uI_same hF.1
  refine cI_of (m := 3) (fun d hd Q hQ => ?_) rfl hD
  have hd1 : 1 ≤ d := by omega
  have hd2 : 2 ≤ d := by omega
  have hd3 : 3 ≤ d := by omega
  refine b232_0 ?_
  simp only [↓rF_I, ↓rF_L, ↓rF_R, ↓rF_N, rO_m, rB_m, ↓rI_m, wI_m, ↓rB2_m, ↓rB3_m, wB2_m, wB3_m, ↓rL_m, wL_m, ↓rQ_m, wQ_m, ↓lI_m, pI_m, pL_m, pR_m, sI_m, sBy_m, sBo_m, sL_m, sQ_m, fst_m, true_and, and_true, tg_some, ln_some, uI_1, uI_2, uL_1, uL_2, uL_3, uQ_1, uQ_2, uQ_3, rv_i, rv_l, rv_n, rv_b0, rv_b1, RMR, ne_eq, reduceCtorEq, not_false_eq_true, Option.getD_some, if_true, if_false, and_self, false_and, and_false, Nat.add_left_cancel_iff, Nat.add_eq_left, Nat.left_eq_add, Nat.one_ne_zero, Nat.reduceAdd, Nat.reduceLT, Nat.reduceLeDiff, Nat.reduceEqDiff, RCX 0, RCG 2, RCT 4, RCT 15, RCT 25, RCS 35, RCS 49, RCH 63, RCP 67, RCB 72, RCR 77, RCM 81, RLY, lit_at hw, true_implies, false_implies, implies_true, Option.some.injEq, forall_eq', forall_eq, reduceCtorEq, brT, brF, br_s, i_10, i_01, ib_0_2, ib_1_2, tn_0, tn_1, Int32.le_refl, eq_self, hF, hU, fr_129, fr_128, vin_z0, vin_z1, vin_z2, vin_z3, vin_z4, vin_z5, rv_vin, tn_2, tn_3, inB_102_0, inB_102_1, inB_102_2, inB_102_3, inB_2471_0, inB_2471_1, inB_2471_2, inB_2471_3, inB_2471_4, inB_2471_5, inB_2471_6, inB_2471_7, inB_2471_8, inB_2471_9, inB_2471_10, inB_2471_11, inB_2471_12, inB_2471_13, inB_2471_14, inB_2471_15, inB_2471_16, hd1, hd2, hd3, fr_231 hw hG]
  exact hQ
def sO (a : Int32) : Int32 := if a = -1 then 0 else -2
theorem fr_233 {w : mT} {σ : mS} {a1 : Int32} {D : Nat} {K : Int32 → Hp → Prop} (hw : lit w) (hF : frO σ) (hD : 4 ≤ D) : wpI D 233 [.ref 81, .int a1] (mW w σ) K ↔ K (sO a1) (mW w σ) := by
  have hG := hF
  unfold frO at hF
  have hU : uI σ 81 0 0 = σ := uI_same hF.1
  refine cI_of (m := 3) (fun d hd Q hQ => ?_) rfl hD
  have hd1 : 1 ≤ d := by omega
  have hd2 : 2 ≤ d := by omega
  have hd3 : 3 ≤ d := by omega
  refine b233_0 ?_
  unfold sO at hQ
  simp only [↓rF_I, ↓rF_L, ↓rF_R, ↓rF_N, rO_m, rB_m, ↓rI_m, wI_m, ↓rB2_m, ↓rB3_m, wB2_m, wB3_m, ↓rL_m, wL_m, ↓rQ_m, wQ_m, ↓lI_m, pI_m, pL_m, pR_m, sI_m, sBy_m, sBo_m, sL_m, sQ_m, fst_m, true_and, and_true, tg_some, ln_some, uI_1, uI_2, uL_1, uL_2, uL_3, uQ_1, uQ_2, uQ_3, rv_i, rv_l, rv_n, rv_b0, rv_b1, RMR, ne_eq, reduceCtorEq, not_false_eq_true, Option.getD_some, if_true, if_false, and_self, false_and, and_false, Nat.add_left_cancel_iff, Nat.add_eq_left, Nat.left_eq_add, Nat.one_ne_zero, Nat.reduceAdd, Nat.reduceLT, Nat.reduceLeDiff, Nat.reduceEqDiff, RCX 0, RCG 2, RCT 4, RCT 15, RCT 25, RCS 35, RCS 49, RCH 63, RCP 67, RCB 72, RCR 77, RCM 81, RLY, lit_at hw, true_implies, false_implies, implies_true, Option.some.injEq, forall_eq', forall_eq, reduceCtorEq, brT, brF, br_s, i_10, i_01, ib_0_2, ib_1_2, tn_0, tn_1, Int32.le_refl, eq_self, hF, hU, fr_129, fr_128, vin_z0, vin_z1, vin_z2, vin_z3, vin_z4, vin_z5, rv_vin, tn_2, tn_3, inB_102_0, inB_102_1, inB_102_2, inB_102_3, inB_2471_0, inB_2471_1, inB_2471_2, inB_2471_3, inB_2471_4, inB_2471_5, inB_2471_6, inB_2471_7, inB_2471_8, inB_2471_9, inB_2471_10, inB_2471_11, inB_2471_12, inB_2471_13, inB_2471_14, inB_2471_15, inB_2471_16, hd1, hd2, hd3, fr_231 hw hG, br_Q]
  exact hQ
def sK (a : Int32) : Int32 := if 0 ≤ a.toInt ∧ a.toInt < 2 then 0 else -1
theorem fr_236 {w : mT} {σ : mS} {a1 : Int32} {D : Nat} {K : Int32 → Hp → Prop} (hw : lit w) (hF : frO σ) (hD : 4 ≤ D) : wpI D 236 [.ref 81, .int a1] (mW w σ) K ↔ K (sK a1) (mW w σ) := by
  have hG := hF
  unfold frO at hF
  have hU : uI σ 81 0 0 = σ := uI_same hF.1
  refine cI_of (m := 3) (fun d hd Q hQ => ?_) rfl hD
  have hd1 : 1 ≤ d := by omega
  have hd2 : 2 ≤ d := by omega
  have hd3 : 3 ≤ d := by omega
  refine b236_0 ?_
  by_cases h : 0 ≤ a1.toInt ∧ a1.toInt < 2
  · rw [sK, if_pos h] at hQ
    simp only [↓rF_I, ↓rF_L, ↓rF_R, ↓rF_N, rO_m, rB_m, ↓rI_m, wI_m, ↓rB2_m, ↓rB3_m, wB2_m, wB3_m, ↓rL_m, wL_m, ↓rQ_m, wQ_m, ↓lI_m, pI_m, pL_m, pR_m, sI_m, sBy_m, sBo_m, sL_m, sQ_m, fst_m, true_and, and_true, tg_some, ln_some, uI_1, uI_2, uL_1, uL_2, uL_3, uQ_1, uQ_2, uQ_3, rv_i, rv_l, rv_n, rv_b0, rv_b1, RMR, ne_eq, reduceCtorEq, not_false_eq_true, Option.getD_some, if_true, if_false, and_self, false_and, and_false, Nat.add_left_cancel_iff, Nat.add_eq_left, Nat.left_eq_add, Nat.one_ne_zero, Nat.reduceAdd, Nat.reduceLT, Nat.reduceLeDiff, Nat.reduceEqDiff, RCX 0, RCG 2, RCT 4, RCT 15, RCT 25, RCS 35, RCS 49, RCH 63, RCP 67, RCB 72, RCR 77, RCM 81, RLY, lit_at hw, true_implies, false_implies, implies_true, Option.some.injEq, forall_eq', forall_eq, reduceCtorEq, brT, brF, br_s, i_10, i_01, ib_0_2, ib_1_2, tn_0, tn_1, Int32.le_refl, eq_self, hF, hU, fr_129, fr_128, vin_z0, vin_z1, vin_z2, vin_z3, vin_z4, vin_z5, rv_vin, tn_2, tn_3, inB_102_0, inB_102_1, inB_102_2, inB_102_3, inB_2471_0, inB_2471_1, inB_2471_2, inB_2471_3, inB_2471_4, inB_2471_5, inB_2471_6, inB_2471_7, inB_2471_8, inB_2471_9, inB_2471_10, inB_2471_11, inB_2471_12, inB_2471_13, inB_2471_14, inB_2471_15, inB_2471_16, hd1, hd2, hd3, vin_m, iM_t h, fr_231 hw hG]
    refine b236_25 ?_
    simp only [↓rF_I, ↓rF_L, ↓rF_R, ↓rF_N, rO_m, rB_m, ↓rI_m, wI_m, ↓rB2_m, ↓rB3_m, wB2_m, wB3_m, ↓rL_m, wL_m, ↓rQ_m, wQ_m, ↓lI_m, pI_m, pL_m, pR_m, sI_m, sBy_m, sBo_m, sL_m, sQ_m, fst_m, true_and, and_true, tg_some, ln_some, uI_1, uI_2, uL_1, uL_2, uL_3, uQ_1, uQ_2, uQ_3, rv_i, rv_l, rv_n, rv_b0, rv_b1, RMR, ne_eq, reduceCtorEq, not_false_eq_true, Option.getD_some, if_true, if_false, and_self, false_and, and_false, Nat.add_left_cancel_iff, Nat.add_eq_left, Nat.left_eq_add, Nat.one_ne_zero, Nat.reduceAdd, Nat.reduceLT, Nat.reduceLeDiff, Nat.reduceEqDiff, RCX 0, RCG 2, RCT 4, RCT 15, RCT 25, RCS 35, RCS 49, RCH 63, RCP 67, RCB 72, RCR 77, RCM 81, RLY, lit_at hw, true_implies, false_implies, implies_true, Option.some.injEq, forall_eq', forall_eq, reduceCtorEq, brT, brF, br_s, i_10, i_01, ib_0_2, ib_1_2, tn_0, tn_1, Int32.le_refl, eq_self, hF, hU, fr_129, fr_128, vin_z0, vin_z1, vin_z2, vin_z3, vin_z4, vin_z5, rv_vin, tn_2, tn_3, inB_102_0, inB_102_1, inB_102_2, inB_102_3, inB_2471_0, inB_2471_1, inB_2471_2, inB_2471_3, inB_2471_4, inB_2471_5, inB_2471_6, inB_2471_7, inB_2471_8, inB_2471_9, inB_2471_10, inB_2471_11, inB_2471_12, inB_2471_13, inB_2471_14, inB_2471_15, inB_2471_16, hd1, hd2, hd3]
    exact hQ
  · rw [sK, if_neg h] at hQ
    simp only [↓rF_I, ↓rF_L, ↓rF_R, ↓rF_N, rO_m, rB_m, ↓rI_m, wI_m, ↓rB2_m, ↓rB3_m, wB2_m, wB3_m, ↓rL_m, wL_m, ↓rQ_m, wQ_m, ↓lI_m, pI_m, pL_m, pR_m, sI_m, sBy_m, sBo_m, sL_m, sQ_m, fst_m, true_and, and_true, tg_some, ln_some, uI_1, uI_2, uL_1, uL_2, uL_3, uQ_1, uQ_2, uQ_3, rv_i, rv_l, rv_n, rv_b0, rv_b1, RMR, ne_eq, reduceCtorEq, not_false_eq_true, Option.getD_some, if_true, if_false, and_self, false_and, and_false, Nat.add_left_cancel_iff, Nat.add_eq_left, Nat.left_eq_add, Nat.one_ne_zero, Nat.reduceAdd, Nat.reduceLT, Nat.reduceLeDiff, Nat.reduceEqDiff, RCX 0, RCG 2, RCT 4, RCT 15, RCT 25, RCS 35, RCS 49, RCH 63, RCP 67, RCB 72, RCR 77, RCM 81, RLY, lit_at hw, true_implies, false_implies, implies_true, Option.some.injEq, forall_eq', forall_eq, reduceCtorEq, brT, brF, br_s, i_10, i_01, ib_0_2, ib_1_2, tn_0, tn_1, Int32.le_refl, eq_self, hF, hU, fr_129, fr_128, vin_z0, vin_z1, vin_z2, vin_z3, vin_z4, vin_z5, rv_vin, tn_2, tn_3, inB_102_0, inB_102_1, inB_102_2, inB_102_3, inB_2471_0, inB_2471_1, inB_2471_2, inB_2471_3, inB_2471_4, inB_2471_5, inB_2471_6, inB_2471_7, inB_2471_8, inB_2471_9, inB_2471_10, inB_2471_11, inB_2471_12, inB_2471_13, inB_2471_14, inB_2471_15, inB_2471_16, hd1, hd2, hd3, vin_m, iM_f h]
    exact hQ
