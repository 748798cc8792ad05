def frO (σ : mS) : Prop := σ.1 81 0 = 0 ∧ σ.1 81 2 = 0 ∧ σ.1 81 3 = 0 ∧ σ.1 81 4 = 0 ∧ σ.1 81 5 = 0 ∧ σ.1 81 6 = 0 ∧ σ.1 81 7 = 0 ∧ σ.1 81 8 = 0 ∧ σ.1 81 9 = 0 ∧ σ.1 81 10 = 0 ∧ σ.1 81 13 = 0 ∧ σ.1 81 14 = 0 ∧ σ.1 81 16 = 0 ∧ σ.1 81 17 = 0 ∧ σ.1 81 18 = 0 ∧ σ.1 81 26 = 0 ∧ σ.1 81 27 = 0 ∧ σ.1 81 35 = 0 ∧ σ.1 81 36 = 0 ∧ σ.1 81 37 = 0 ∧ σ.1 81 41 = 0 ∧ σ.1 81 42 = 0 ∧ σ.1 81 23 = 1 ∧ σ.2.1 81 24 = 1 ∧ σ.2.1 81 25 = 1 ∧ σ.1 83 0 = 0 ∧ σ.1 83 1 = 0 ∧ σ.1 83 2 = 0 ∧ σ.1 83 3 = 1 ∧ (∀ j, σ.1 85 j = 0) ∧ (∀ j, σ.1 87 j = 0) ∧ (∀ j, σ.1 95 j = 0) ∧ (∀ j, σ.1 96 j = 0)
def vin (v lo hi : Int64) : Int32 := if lo.toInt ≤ v.toInt ∧ v.toInt ≤ hi.toInt then 1 else 0
theorem vin_z0 {v lo hi : Int64} (h : hi.toInt < lo.toInt) : vin v lo hi = 0 := by
  unfold vin; rw [if_neg (by omega)]
theorem vin_z1 {v : Int64} : vin v 0 (-1) = 0 := vin_z0 (by decide)
theorem vin_z2 {v : Int64} : vin v 0 (Int32.toInt64 (-1)) = 0 := vin_z0 (by decide)
theorem vin_z3 {v : Int64} : vin v 0 (Int32.toInt64 (0 - 1)) = 0 := vin_z0 (by decide)
theorem vin_z4 : vin (Int32.toInt64 0) 2 6 = 0 := by decide
theorem vin_z5 : vin 0 2 6 = 0 := by decide
theorem rv_vin {v lo hi : Int64} : (rvOK (some .boolean) (some (.int (vin v lo hi))) = true) ↔ True := by
  rw [rv_b]; refine iff_true_intro ?_
  unfold vin; split <;> simp
theorem le_10 : ((1 : Int32) ≤ 0) ↔ False := iff_false_intro (by decide)
theorem lt_m1 : ((0 : Int32) - 1 < 0) ↔ True := iff_true_intro (by decide)
theorem br_v {a b c : Int64} {A B : Prop} : br (lg_cmp a b < 0) A (br (0 < lg_cmp a c) A B) ↔ br (b.toInt ≤ a.toInt ∧ a.toInt ≤ c.toInt) B A := by
  unfold br
  rw [lg_cmp_lt, lg_cmp_gt, Int64.lt_iff_toInt_lt, Int64.lt_iff_toInt_lt]
  constructor
  · intro h
    refine ⟨fun q => (h.2 (by omega)).2 (by omega), fun q => ?_⟩
    by_cases z : a.toInt < b.toInt
    · exact h.1 z
    · exact (h.2 z).1 (by omega)
  · intro h
    exact ⟨fun q => h.2 (by omega), fun q => ⟨fun z => h.2 (by omega), fun z => h.1 (by omega)⟩⟩

theorem fr_128 {w : mT} {σ : mS}   {D : Nat} {K : Int32 → Hp → Prop} (hw : lit w)  (hD : 1 ≤ D) : wpI D 128 [.ref 81] (mW w σ) K ↔ K (σ.1 81 0) (mW w σ) := by
  refine cI_of (m := 0) (fun d hd Q hQ => ?_) rfl hD

  refine b128_0 ?_
  simp only [↓rF_I, ↓rF_L, ↓rF_R, ↓rF_N, rO_m, rB_m, ↓rI_m, wI_m, ↓rB2_m, ↓rB3_m, wB2_m, wB3_m, ↓rL_m, wL_m, ↓rQ_m, wQ_m, ↓lI_m, pI_m, pL_m, pR_m, sI_m, sBy_m, sBo_m, sL_m, sQ_m, fst_m, true_and, and_true, tg_some, ln_some, uI_1, uI_2, uL_1, uL_2, uL_3, uQ_1, uQ_2, uQ_3, rv_i, rv_l, rv_n, rv_b0, rv_b1, RMR, ne_eq, reduceCtorEq, not_false_eq_true, Option.getD_some, if_true, if_false, and_self, false_and, and_false, Nat.add_left_cancel_iff, Nat.add_eq_left, Nat.left_eq_add, Nat.one_ne_zero, Nat.reduceAdd, Nat.reduceLT, Nat.reduceLeDiff, Nat.reduceEqDiff, RCX 0, RCG 2, RCT 4, RCT 15, RCT 25, RCS 35, RCS 49, RCH 63, RCP 67, RCB 72, RCR 77, RCM 81, RLY, lit_at hw]
  exact hQ
theorem fr_129 {w : mT} {σ : mS} {a0 : Int64} {a2 : Int64} {a4 : Int64}  {D : Nat} {K : Int32 → Hp → Prop}  (hD : 1 ≤ D) : wpI D 129 [.long a0, .long a2, .long a4] (mW w σ) K ↔ K (vin a0 a2 a4) (mW w σ) := by
  refine cI_of (m := 0) (fun d hd Q hQ => ?_) rfl hD

  refine b129_0 ?_
  simp only [↓rF_I, ↓rF_L, ↓rF_R, ↓rF_N, rO_m, rB_m, ↓rI_m, wI_m, ↓rB2_m, ↓rB3_m, wB2_m, wB3_m, ↓rL_m, wL_m, ↓rQ_m, wQ_m, ↓lI_m, pI_m, pL_m, pR_m, sI_m, sBy_m, sBo_m, sL_m, sQ_m, fst_m, true_and, and_true, tg_some, ln_some, uI_1, uI_2, uL_1, uL_2, uL_3, uQ_1, uQ_2, uQ_3, rv_i, rv_l, rv_n, rv_b0, rv_b1, RMR, ne_eq, reduceCtorEq, not_false_eq_true, Option.getD_some, if_true, if_false, and_self, false_and, and_false, Nat.add_left_cancel_iff, Nat.add_eq_left, Nat.left_eq_add, Nat.one_ne_zero, Nat.reduceAdd, Nat.reduceLT, Nat.reduceLeDiff, Nat.reduceEqDiff, ↓br_v, br_Q]
  exact hQ
theorem inB_102_0 : inB (0 : Int32) 102 = true := by decide
theorem inB_102_1 : inB (1 : Int32) 102 = true := by decide
theorem inB_102_2 : inB (2 : Int32) 102 = true := by decide
theorem inB_102_3 : inB (3 : Int32) 102 = true := by decide
theorem inB_2471_0 : inB (0 : Int32) 2471 = true := by decide
theorem inB_2471_1 : inB (1 : Int32) 2471 = true := by decide
theorem inB_2471_2 : inB (2 : Int32) 2471 = true := by decide
theorem inB_2471_3 : inB (3 : Int32) 2471 = true := by decide
theorem inB_2471_4 : inB (4 : Int32) 2471 = true := by decide
theorem inB_2471_5 : inB (5 : Int32) 2471 = true := by decide
theorem inB_2471_6 : inB (6 : Int32) 2471 = true := by decide
theorem inB_2471_7 : inB (7 : Int32) 2471 = true := by decide
theorem inB_2471_8 : inB (8 : Int32) 2471 = true := by decide
theorem inB_2471_9 : inB (9 : Int32) 2471 = true := by decide
theorem inB_2471_10 : inB (10 : Int32) 2471 = true := by decide
theorem inB_2471_11 : inB (11 : Int32) 2471 = true := by decide
theorem inB_2471_12 : inB (12 : Int32) 2471 = true := by decide
theorem inB_2471_13 : inB (13 : Int32) 2471 = true := by decide
theorem inB_2471_14 : inB (14 : Int32) 2471 = true := by decide
theorem inB_2471_15 : inB (15 : Int32) 2471 = true := by decide
theorem inB_2471_16 : inB (16 : Int32) 2471 = true := by decide
theorem fr_151 {w : mT} {σ : mS} {a1 : Int32}  {D : Nat} {K : Int32 → Hp → Prop} (hw : lit w) (hF : frO σ) (hD : 2 ≤ D) : wpI D 151 [.ref 81, .int a1] (mW w σ) K ↔ K (0) (mW w σ) := by
  have hG := hF
  unfold frO at hF
  have hU : uI σ 81 0 0 = σ := uI_same hF.1
  refine cI_of (m := 1) (fun d hd Q hQ => ?_) rfl hD
  have hd1 : 1 ≤ d := by omega
  refine b151_0 ?_
  simp only [↓rF_I, ↓rF_L, ↓rF_R, ↓rF_N, rO_m, rB_m, ↓rI_m, wI_m, ↓rB2_m, ↓rB3_m, wB2_m, wB3_m, ↓rL_m, wL_m, ↓rQ_m, wQ_m, ↓lI_m, pI_m, pL_m, pR_m, sI_m, sBy_m, sBo_m, sL_m, sQ_m, fst_m, true_and, and_true, tg_some, ln_some, uI_1, uI_2, uL_1, uL_2, uL_3, uQ_1, uQ_2, uQ_3, rv_i, rv_l, rv_n, rv_b0, rv_b1, RMR, ne_eq, reduceCtorEq, not_false_eq_true, Option.getD_some, if_true, if_false, and_self, false_and, and_false, Nat.add_left_cancel_iff, Nat.add_eq_left, Nat.left_eq_add, Nat.one_ne_zero, Nat.reduceAdd, Nat.reduceLT, Nat.reduceLeDiff, Nat.reduceEqDiff, RCX 0, RCG 2, RCT 4, RCT 15, RCT 25, RCS 35, RCS 49, RCH 63, RCP 67, RCB 72, RCR 77, RCM 81, RLY, lit_at hw, hd1, le_10, lt_m1, hF, hU, brT, brF, br_s, i_10, i_01, fr_129, fr_128, vin_z0, vin_z1, vin_z2, vin_z3, vin_z4, vin_z5, rv_vin, tn_0, tn_1, tn_2, tn_3, inB_102_0, inB_102_1, inB_102_2, inB_102_3, Int32.le_refl, eq_self, inB_2471_0, inB_2471_1, inB_2471_2, inB_2471_3, inB_2471_4, inB_2471_5, inB_2471_6, inB_2471_7, inB_2471_8, inB_2471_9, inB_2471_10, inB_2471_11, inB_2471_12, inB_2471_13, inB_2471_14, inB_2471_15, inB_2471_16]
  exact hQ
theorem fr_152 {w : mT} {σ : mS} {a1 : Int32}  {D : Nat} {K : Int32 → Hp → Prop} (hw : lit w) (hF : frO σ) (hD : 2 ≤ D) : wpI D 152 [.ref 81, .int a1] (mW w σ) K ↔ K (0) (mW w σ) := by
  have hG := hF
  unfold frO at hF
  have hU : uI σ 81 0 0 = σ := uI_same hF.1
  refine cI_of (m := 1) (fun d hd Q hQ => ?_) rfl hD
  have hd1 : 1 ≤ d := by omega
  refine b152_0 ?_
  simp only [↓rF_I, ↓rF_L, ↓rF_R, ↓rF_N, rO_m, rB_m, ↓rI_m, wI_m, ↓rB2_m, ↓rB3_m, wB2_m, wB3_m, ↓rL_m, wL_m, ↓rQ_m, wQ_m, ↓lI_m, pI_m, pL_m, pR_m, sI_m, sBy_m, sBo_m, sL_m, sQ_m, fst_m, true_and, and_true, tg_some, ln_some, uI_1, uI_2, uL_1, uL_2, uL_3, uQ_1, uQ_2, uQ_3, rv_i, rv_l, rv_n, rv_b0, rv_b1, RMR, ne_eq, reduceCtorEq, not_false_eq_true, Option.getD_some, if_true, if_false, and_self, false_and, and_false, Nat.add_left_cancel_iff, Nat.add_eq_left, Nat.left_eq_add, Nat.one_ne_zero, Nat.reduceAdd, Nat.reduceLT, Nat.reduceLeDiff, Nat.reduceEqDiff, RCX 0, RCG 2, RCT 4, RCT 15, RCT 25, RCS 35, RCS 49, RCH 63, RCP 67, RCB 72, RCR 77, RCM 81, RLY, lit_at hw, hd1, le_10, lt_m1, hF, hU, brT, brF, br_s, i_10, i_01, fr_129, fr_128, vin_z0, vin_z1, vin_z2, vin_z3, vin_z4, vin_z5, rv_vin, tn_0, tn_1, tn_2, tn_3, inB_102_0, inB_102_1, inB_102_2, inB_102_3, Int32.le_refl, eq_self, inB_2471_0, inB_2471_1, inB_2471_2, inB_2471_3, inB_2471_4, inB_2471_5, inB_2471_6, inB_2471_7, inB_2471_8, inB_2471_9, inB_2471_10, inB_2471_11, inB_2471_12, inB_2471_13, inB_2471_14, inB_2471_15, inB_2471_16]
  exact hQ
theorem fr_153 {w : mT} {σ : mS} {a1 : Int32}  {D : Nat} {K : Int32 → Hp → Prop} (hw : lit w) (hF : frO σ) (hD : 2 ≤ D) : wpI D 153 [.ref 81, .int a1] (mW w σ) K ↔ K (0) (mW w σ) := by
  have hG := hF
  unfold frO at hF
  have hU : uI σ 81 0 0 = σ := uI_same hF.1
  refine cI_of (m := 1) (fun d hd Q hQ => ?_) rfl hD
  have hd1 : 1 ≤ d := by omega
  refine b153_0 ?_
  simp only [↓rF_I, ↓rF_L, ↓rF_R, ↓rF_N, rO_m, rB_m, ↓rI_m, wI_m, ↓rB2_m, ↓rB3_m, wB2_m, wB3_m, ↓rL_m, wL_m, ↓rQ_m, wQ_m, ↓lI_m, pI_m, pL_m, pR_m, sI_m, sBy_m, sBo_m, sL_m, sQ_m, fst_m, true_and, and_true, tg_some, ln_some, uI_1, uI_2, uL_1, uL_2, uL_3, uQ_1, uQ_2, uQ_3, rv_i, rv_l, rv_n, rv_b0, rv_b1, RMR, ne_eq, reduceCtorEq, not_false_eq_true, Option.getD_some, if_true, if_false, and_self, false_and, and_false, Nat.add_left_cancel_iff, Nat.add_eq_left, Nat.left_eq_add, Nat.one_ne_zero, Nat.reduceAdd, Nat.reduceLT, Nat.reduceLeDiff, Nat.reduceEqDiff, RCX 0, RCG 2, RCT 4, RCT 15, RCT 25, RCS 35, RCS 49, RCH 63, RCP 67, RCB 72, RCR 77, RCM 81, RLY, lit_at hw, hd1, le_10, lt_m1, hF, hU, brT, brF, br_s, i_10, i_01, fr_129, fr_128, vin_z0, vin_z1, vin_z2, vin_z3, vin_z4, vin_z5, rv_vin, tn_0, tn_1, tn_2, tn_3, inB_102_0, inB_102_1, inB_102_2, inB_102_3, Int32.le_refl, eq_self, inB_2471_0, inB_2471_1, inB_2471_2, inB_2471_3, inB_2471_4, inB_2471_5, inB_2471_6, inB_2471_7, inB_2471_8, inB_2471_9, inB_2471_10, inB_2471_11, inB_2471_12, inB_2471_13, inB_2471_14, inB_2471_15, inB_2471_16]
  exact hQ
theorem fr_154 {w : mT} {σ : mS} {a1 : Int32} {a2 : Int32}  {D : Nat} {K : Int32 → Hp → Prop} (hw : lit w) (hF : frO σ) (hD : 3 ≤ D) : wpI D 154 [.ref 81, .int a1, .int a2] (mW w σ) K ↔ K (0) (mW w σ) := by
  have hG := hF
  unfold frO at hF
  have hU : uI σ 81 0 0 = σ := uI_same hF.1
  refine cI_of (m := 2) (fun d hd Q hQ => ?_) rfl hD
  have hd1 : 1 ≤ d := by omega
  have hd2 : 2 ≤ d := by omega
  refine b154_0 ?_
  simp only [↓rF_I, ↓rF_L, ↓rF_R, ↓rF_N, rO_m, rB_m, ↓rI_m, wI_m, ↓rB2_m, ↓rB3_m, wB2_m, wB3_m, ↓rL_m, wL_m, ↓rQ_m, wQ_m, ↓lI_m, pI_m, pL_m, pR_m, sI_m, sBy_m, sBo_m, sL_m, sQ_m, fst_m, true_and, and_true, tg_some, ln_some, uI_1, uI_2, uL_1, uL_2, uL_3, uQ_1, uQ_2, uQ_3, rv_i, rv_l, rv_n, rv_b0, rv_b1, RMR, ne_eq, reduceCtorEq, not_false_eq_true, Option.getD_some, if_true, if_false, and_self, false_and, and_false, Nat.add_left_cancel_iff, Nat.add_eq_left, Nat.left_eq_add, Nat.one_ne_zero, Nat.reduceAdd, Nat.reduceLT, Nat.reduceLeDiff, Nat.reduceEqDiff, RCX 0, RCG 2, RCT 4, RCT 15, RCT 25, RCS 35, RCS 49, RCH 63, RCP 67, RCB 72, RCR 77, RCM 81, RLY, lit_at hw, hd1, hd2, le_10, lt_m1, hF, hU, brT, brF, br_s, i_10, i_01, fr_129, fr_128, vin_z0, vin_z1, vin_z2, vin_z3, vin_z4, vin_z5, rv_vin, tn_0, tn_1, tn_2, tn_3, inB_102_0, inB_102_1, inB_102_2, inB_102_3, Int32.le_refl, eq_self, inB_2471_0, inB_2471_1, inB_2471_2, inB_2471_3, inB_2471_4, inB_2471_5, inB_2471_6, inB_2471_7, inB_2471_8, inB_2471_9, inB_2471_10, inB_2471_11, inB_2471_12, inB_2471_13, inB_2471_14, inB_2471_15, inB_2471_16, fr_152 hw hG]
  exact hQ
theorem fr_165 {w : mT} {σ : mS} {a1 : Int32} {a2 : Int32}  {D : Nat} {K : Int32 → Hp → Prop} (hw : lit w) (hF : frO σ) (hD : 3 ≤ D) : wpI D 165 [.ref 81, .int a1, .int a2] (mW w σ) K ↔ K (0) (mW w σ) := by
  have hG := hF
  unfold frO at hF
  have hU : uI σ 81 0 0 = σ := uI_same hF.1
  refine cI_of (m := 2) (fun d hd Q hQ => ?_) rfl hD
  have hd1 : 1 ≤ d := by omega
  have hd2 : 2 ≤ d := by omega
  refine b165_0 ?_
  simp only [↓rF_I, ↓rF_L, ↓rF_R, ↓rF_N, rO_m, rB_m, ↓rI_m, wI_m, ↓rB2_m, ↓rB3_m, wB2_m, wB3_m, ↓rL_m, wL_m, ↓rQ_m, wQ_m, ↓lI_m, pI_m, pL_m, pR_m, sI_m, sBy_m, sBo_m, sL_m, sQ_m, fst_m, true_and, and_true, tg_some, ln_some, uI_1, uI_2, uL_1, uL_2, uL_3, uQ_1, uQ_2, uQ_3, rv_i, rv_l, rv_n, rv_b0, rv_b1, RMR, ne_eq, reduceCtorEq, not_false_eq_true, Option.getD_some, if_true, if_false, and_self, false_and, and_false, Nat.add_left_cancel_iff, Nat.add_eq_left, Nat.left_eq_add, Nat.one_ne_zero, Nat.reduceAdd, Nat.reduceLT, Nat.reduceLeDiff, Nat.reduceEqDiff, RCX 0, RCG 2, RCT 4, RCT 15, RCT 25, RCS 35, RCS 49, RCH 63, RCP 67, RCB 72, RCR 77, RCM 81, RLY, lit_at hw, hd1, hd2, le_10, lt_m1, hF, hU, brT, brF, br_s, i_10, i_01, fr_129, fr_128, vin_z0, vin_z1, vin_z2, vin_z3, vin_z4, vin_z5, rv_vin, tn_0, tn_1, tn_2, tn_3, inB_102_0, inB_102_1, inB_102_2, inB_102_3, Int32.le_refl, eq_self, inB_2471_0, inB_2471_1, inB_2471_2, inB_2471_3, inB_2471_4, inB_2471_5, inB_2471_6, inB_2471_7, inB_2471_8, inB_2471_9, inB_2471_10, inB_2471_11, inB_2471_12, inB_2471_13, inB_2471_14, inB_2471_15, inB_2471_16, fr_152 hw hG]
  exact hQ
theorem fr_164 {w : mT} {σ : mS} {a1 : Int32} {a2 : Int32}  {D : Nat} {K : Int32 → Hp → Prop} (hw : lit w) (hF : frO σ) (hD : 3 ≤ D) : wpI D 164 [.ref 81, .int a1, .int a2] (mW w σ) K ↔ K (-2) (mW w σ) := by
  have hG := hF
  unfold frO at hF
  have hU : uI σ 81 0 0 = σ := uI_same hF.1
  refine cI_of (m := 2) (fun d hd Q hQ => ?_) rfl hD
  have hd1 : 1 ≤ d := by omega
  have hd2 : 2 ≤ d := by omega
  refine b164_0 ?_
  simp only [↓rF_I, ↓rF_L, ↓rF_R, ↓rF_N, rO_m, rB_m, ↓rI_m, wI_m, ↓rB2_m, ↓rB3_m, wB2_m, wB3_m, ↓rL_m, wL_m, ↓rQ_m, wQ_m, ↓lI_m, pI_m, pL_m, pR_m, sI_m, sBy_m, sBo_m, sL_m, sQ_m, fst_m, true_and, and_true, tg_some, ln_some, uI_1, uI_2, uL_1, uL_2, uL_3, uQ_1, uQ_2, uQ_3, rv_i, rv_l, rv_n, rv_b0, rv_b1, RMR, ne_eq, reduceCtorEq, not_false_eq_true, Option.getD_some, if_true, if_false, and_self, false_and, and_false, Nat.add_left_cancel_iff, Nat.add_eq_left, Nat.left_eq_add, Nat.one_ne_zero, Nat.reduceAdd, Nat.reduceLT, Nat.reduceLeDiff, Nat.reduceEqDiff, RCX 0, RCG 2, RCT 4, RCT 15, RCT 25, RCS 35, RCS 49, RCH 63, RCP 67, RCB 72, RCR 77, RCM 81, RLY, lit_at hw, hd1, hd2, le_10, lt_m1, hF, hU, brT, brF, br_s, i_10, i_01, fr_129, fr_128, vin_z0, vin_z1, vin_z2, vin_z3, vin_z4, vin_z5, rv_vin, tn_0, tn_1, tn_2, tn_3, inB_102_0, inB_102_1, inB_102_2, inB_102_3, Int32.le_refl, eq_self, inB_2471_0, inB_2471_1, inB_2471_2, inB_2471_3, inB_2471_4, inB_2471_5, inB_2471_6, inB_2471_7, inB_2471_8, inB_2471_9, inB_2471_10, inB_2471_11, inB_2471_12, inB_2471_13, inB_2471_14, inB_2471_15, inB_2471_16, fr_152 hw hG]
  exact hQ
theorem fr_166 {w : mT} {σ : mS} {a1 : Int32} {a2 : Int32} {a3 : Int32}  {D : Nat} {K : Int32 → Hp → Prop} (hw : lit w) (hF : frO σ) (hD : 4 ≤ D) : wpI D 166 [.ref 81, .int a1, .int a2, .int a3] (mW w σ) K ↔ K (-2) (mW w σ) := by
  have hG := hF
  unfold frO at hF
  have hU : uI σ 81 0 0 = σ := uI_same hF.1
  refine cI_of (m := 3) (fun d hd Q hQ => ?_) rfl hD
  have hd1 : 1 ≤ d := by omega
  have hd2 : 2 ≤ d := by omega
  have hd3 : 3 ≤ d := by omega
  refine b166_0 ?_
  simp only [↓rF_I, ↓rF_L, ↓rF_R, ↓rF_N, rO_m, rB_m, ↓rI_m, wI_m, ↓rB2_m, ↓rB3_m, wB2_m, wB3_m, ↓rL_m, wL_m, ↓rQ_m, wQ_m, ↓lI_m, pI_m, pL_m, pR_m, sI_m, sBy_m, sBo_m, sL_m, sQ_m, fst_m, true_and, and_true, tg_some, ln_some, uI_1, uI_2, uL_1, uL_2, uL_3, uQ_1, uQ_2, uQ_3, rv_i, rv_l, rv_n, rv_b0, rv_b1, RMR, ne_eq, reduceCtorEq, not_false_eq_true, Option.getD_some, if_true, if_false, and_self, false_and, and_false, Nat.add_left_cancel_iff, Nat.add_eq_left, Nat.left_eq_add, Nat.one_ne_zero, Nat.reduceAdd, Nat.reduceLT, Nat.reduceLeDiff, Nat.reduceEqDiff, RCX 0, RCG 2, RCT 4, RCT 15, RCT 25, RCS 35, RCS 49, RCH 63, RCP 67, RCB 72, RCR 77, RCM 81, RLY, lit_at hw, hd1, hd2, hd3, le_10, lt_m1, hF, hU, brT, brF, br_s, i_10, i_01, fr_129, fr_128, vin_z0, vin_z1, vin_z2, vin_z3, vin_z4, vin_z5, rv_vin, tn_0, tn_1, tn_2, tn_3, inB_102_0, inB_102_1, inB_102_2, inB_102_3, Int32.le_refl, eq_self, inB_2471_0, inB_2471_1, inB_2471_2, inB_2471_3, inB_2471_4, inB_2471_5, inB_2471_6, inB_2471_7, inB_2471_8, inB_2471_9, inB_2471_10, inB_2471_11, inB_2471_12, inB_2471_13, inB_2471_14, inB_2471_15, inB_2471_16, fr_165 hw hG]
  exact hQ
theorem fr_167 {w : mT} {σ : mS} {a1 : Int32} {a2 : Int32} {a3 : Int32}  {D : Nat} {K : Int32 → Hp → Prop} (hw : lit w) (hF : frO σ) (hD : 4 ≤ D) : wpI D 167 [.ref 81, .int a1, .int a2, .int a3] (mW w σ) K ↔ K (-2) (mW w σ) := by
  have hG := hF
  unfold frO at hF
  have hU : uI σ 81 0 0 = σ := uI_same hF.1
  refine cI_of (m := 3) (fun d hd Q hQ => ?_) rfl hD
  have hd1 : 1 ≤ d := by omega
  have hd2 : 2 ≤ d := by omega
  have hd3 : 3 ≤ d := by omega
  refine b167_0 ?_
  simp only [↓rF_I, ↓rF_L, ↓rF_R, ↓rF_N, rO_m, rB_m, ↓rI_m, wI_m, ↓rB2_m, ↓rB3_m, wB2_m, wB3_m, ↓rL_m, wL_m, ↓rQ_m, wQ_m, ↓lI_m, pI_m, pL_m, pR_m, sI_m, sBy_m, sBo_m, sL_m, sQ_m, fst_m, true_and, and_true, tg_some, ln_some, uI_1, uI_2, uL_1, uL_2, uL_3, uQ_1, uQ_2, uQ_3, rv_i, rv_l, rv_n, rv_b0, rv_b1, RMR, ne_eq, reduceCtorEq, not_false_eq_true, Option.getD_some, if_true, if_false, and_self, false_and, and_false, Nat.add_left_cancel_iff, Nat.add_eq_left, Nat.left_eq_add, Nat.one_ne_zero, Nat.reduceAdd, Nat.reduceLT, Nat.reduceLeDiff, Nat.reduceEqDiff, RCX 0, RCG 2, RCT 4, RCT 15, RCT 25, RCS 35, RCS 49, RCH 63, RCP 67, RCB 72, RCR 77, RCM 81, RLY, lit_at hw, hd1, hd2, hd3, le_10, lt_m1, hF, hU, brT, brF, br_s, i_10, i_01, fr_129, fr_128, vin_z0, vin_z1, vin_z2, vin_z3, vin_z4, vin_z5, rv_vin, tn_0, tn_1, tn_2, tn_3, inB_102_0, inB_102_1, inB_102_2, inB_102_3, Int32.le_refl, eq_self, inB_2471_0, inB_2471_1, inB_2471_2, inB_2471_3, inB_2471_4, inB_2471_5, inB_2471_6, inB_2471_7, inB_2471_8, inB_2471_9, inB_2471_10, inB_2471_11, inB_2471_12, inB_2471_13, inB_2471_14, inB_2471_15, inB_2471_16, fr_165 hw hG]
  exact hQ
theorem fr_169 {w : mT} {σ : mS}   {D : Nat} {K : Int32 → Hp → Prop} (hw : lit w) (hF : frO σ) (hD : 1 ≤ D) : wpI D 169 [.ref 81] (mW w σ) K ↔ K (-2) (mW w σ) := by
  have hG := hF
  unfold frO at hF
  have hU : uI σ 81 0 0 = σ := uI_same hF.1
  refine cI_of (m := 0) (fun d hd Q hQ => ?_) rfl hD

  refine b169_0 ?_
  simp only [↓rF_I, ↓rF_L, ↓rF_R, ↓rF_N, rO_m, rB_m, ↓rI_m, wI_m, ↓rB2_m, ↓rB3_m, wB2_m, wB3_m, ↓rL_m, wL_m, ↓rQ_m, wQ_m, ↓lI_m, pI_m, pL_m, pR_m, sI_m, sBy_m, sBo_m, sL_m, sQ_m, fst_m, true_and, and_true, tg_some, ln_some, uI_1, uI_2, uL_1, uL_2, uL_3, uQ_1, uQ_2, uQ_3, rv_i, rv_l, rv_n, rv_b0, rv_b1, RMR, ne_eq, reduceCtorEq, not_false_eq_true, Option.getD_some, if_true, if_false, and_self, false_and, and_false, Nat.add_left_cancel_iff, Nat.add_eq_left, Nat.left_eq_add, Nat.one_ne_zero, Nat.reduceAdd, Nat.reduceLT, Nat.reduceLeDiff, Nat.reduceEqDiff, RCX 0, RCG 2, RCT 4, RCT 15, RCT 25, RCS 35, RCS 49, RCH 63, RCP 67, RCB 72, RCR 77, RCM 81, RLY, lit_at hw, le_10, lt_m1, hF, hU, brT, brF, br_s, i_10, i_01, fr_129, fr_128, vin_z0, vin_z1, vin_z2, vin_z3, vin_z4, vin_z5, rv_vin, tn_0, tn_1, tn_2, tn_3, inB_102_0, inB_102_1, inB_102_2, inB_102_3, Int32.le_refl, eq_self, inB_2471_0, inB_2471_1, inB_2471_2, inB_2471_3, inB_2471_4, inB_2471_5, inB_2471_6, inB_2471_7, inB_2471_8, inB_2471_9, inB_2471_10, inB_2471_11, inB_2471_12, inB_2471_13, inB_2471_14, inB_2471_15, inB_2471_16]
  exact hQ
theorem fr_178 {w : mT} {σ : mS} {a1 : Int32} {a2 : Int32} {a3 : Int32} {a4 : Int32} {a5 : Int32}  {D : Nat} {K : Int32 → Hp → Prop} (hw : lit w) (hF : frO σ) (hD : 4 ≤ D) : wpI D 178 [.ref 81, .int a1, .int a2, .int a3, .int a4, .int a5] (mW w σ) K ↔ K (0) (mW w σ) := by
  have hG := hF
  unfold frO at hF
  have hU : uI σ 81 0 0 = σ := uI_same hF.1
  refine cI_of (m := 3) (fun d hd Q hQ => ?_) rfl hD
  have hd1 : 1 ≤ d := by omega
  have hd2 : 2 ≤ d := by omega
  have hd3 : 3 ≤ d := by omega
  refine b178_0 ?_
  simp only [↓rF_I, ↓rF_L, ↓rF_R, ↓rF_N, rO_m, rB_m, ↓rI_m, wI_m, ↓rB2_m, ↓rB3_m, wB2_m, wB3_m, ↓rL_m, wL_m, ↓rQ_m, wQ_m, ↓lI_m, pI_m, pL_m, pR_m, sI_m, sBy_m, sBo_m, sL_m, sQ_m, fst_m, true_and, and_true, tg_some, ln_some, uI_1, uI_2, uL_1, uL_2, uL_3, uQ_1, uQ_2, uQ_3, rv_i, rv_l, rv_n, rv_b0, rv_b1, RMR, ne_eq, reduceCtorEq, not_false_eq_true, Option.getD_some, if_true, if_false, and_self, false_and, and_false, Nat.add_left_cancel_iff, Nat.add_eq_left, Nat.left_eq_add, Nat.one_ne_zero, Nat.reduceAdd, Nat.reduceLT, Nat.reduceLeDiff, Nat.reduceEqDiff, RCX 0, RCG 2, RCT 4, RCT 15, RCT 25, RCS 35, RCS 49, RCH 63, RCP 67, RCB 72, RCR 77, RCM 81, RLY, lit_at hw, hd1, hd2, hd3, le_10, lt_m1, hF, hU, brT, brF, br_s, i_10, i_01, fr_129, fr_128, vin_z0, vin_z1, vin_z2, vin_z3, vin_z4, vin_z5, rv_vin, tn_0, tn_1, tn_2, tn_3, inB_102_0, inB_102_1, inB_102_2, inB_102_3, Int32.le_refl, eq_self, inB_2471_0, inB_2471_1, inB_2471_2, inB_2471_3, inB_2471_4, inB_2471_5, inB_2471_6, inB_2471_7, inB_2471_8, inB_2471_9, inB_2471_10, inB_2471_11, inB_2471_12, inB_2471_13, inB_2471_14, inB_2471_15, inB_2471_16, fr_151 hw hG]
  exact hQ
theorem fr_179 {w : mT} {σ : mS} {a1 : Int32} {a2 : Int32} {a3 : Int32} {a4 : Int32} {a5 : Int32}  {D : Nat} {K : Int32 → Hp → Prop} (hw : lit w) (hF : frO σ) (hD : 5 ≤ D) : wpI D 179 [.ref 81, .int a1, .int a2, .int a3, .int a4, .int a5] (mW w σ) K ↔ K (1) (mW w σ) := by
  have hG := hF
  unfold frO at hF
  have hU : uI σ 81 0 0 = σ := uI_same hF.1
  refine cI_of (m := 4) (fun d hd Q hQ => ?_) rfl hD
  have hd1 : 1 ≤ d := by omega
  have hd2 : 2 ≤ d := by omega
  have hd3 : 3 ≤ d := by omega
  have hd4 : 4 ≤ d := by omega
  refine b179_0 ?_
  simp only [↓rF_I, ↓rF_L, ↓rF_R, ↓rF_N, rO_m, rB_m, ↓rI_m, wI_m, ↓rB2_m, ↓rB3_m, wB2_m, wB3_m, ↓rL_m, wL_m, ↓rQ_m, wQ_m, ↓lI_m, pI_m, pL_m, pR_m, sI_m, sBy_m, sBo_m, sL_m, sQ_m, fst_m, true_and, and_true, tg_some, ln_some, uI_1, uI_2, uL_1, uL_2, uL_3, uQ_1, uQ_2, uQ_3, rv_i, rv_l, rv_n, rv_b0, rv_b1, RMR, ne_eq, reduceCtorEq, not_false_eq_true, Option.getD_some, if_true, if_false, and_self, false_and, and_false, Nat.add_left_cancel_iff, Nat.add_eq_left, Nat.left_eq_add, Nat.one_ne_zero, Nat.reduceAdd, Nat.reduceLT, Nat.reduceLeDiff, Nat.reduceEqDiff, RCX 0, RCG 2, RCT 4, RCT 15, RCT 25, RCS 35, RCS 49, RCH 63, RCP 67, RCB 72, RCR 77, RCM 81, RLY, lit_at hw, hd1, hd2, hd3, hd4, le_10, lt_m1, hF, hU, brT, brF, br_s, i_10, i_01, fr_129, fr_128, vin_z0, vin_z1, vin_z2, vin_z3, vin_z4, vin_z5, rv_vin, tn_0, tn_1, tn_2, tn_3, inB_102_0, inB_102_1, inB_102_2, inB_102_3, Int32.le_refl, eq_self, inB_2471_0, inB_2471_1, inB_2471_2, inB_2471_3, inB_2471_4, inB_2471_5, inB_2471_6, inB_2471_7, inB_2471_8, inB_2471_9, inB_2471_10, inB_2471_11, inB_2471_12, inB_2471_13, inB_2471_14, inB_2471_15, inB_2471_16, fr_178 hw hG]
  exact hQ
theorem fr_180 {w : mT} {σ : mS} {a1 : Int32} {a2 : Int32} {a3 : Int32} {a4 : Int32} {a5 : Int32}  {D : Nat} {K : Int32 → Hp → Prop} (hw : lit w) (hF : frO σ) (hD : 6 ≤ D) : wpI D 180 [.ref 81, .int a1, .int a2, .int a3, .int a4, .int a5] (mW w σ) K ↔ K (1) (mW w σ) := by
  have hG := hF
  unfold frO at hF
  have hU : uI σ 81 0 0 = σ := uI_same hF.1
  refine cI_of (m := 5) (fun d hd Q hQ => ?_) rfl hD
  have hd1 : 1 ≤ d := by omega
  have hd2 : 2 ≤ d := by omega
  have hd3 : 3 ≤ d := by omega
  have hd4 : 4 ≤ d := by omega
  have hd5 : 5 ≤ d := by omega
  refine b180_0 ?_
  simp only [↓rF_I, ↓rF_L, ↓rF_R, ↓rF_N, rO_m, rB_m, ↓rI_m, wI_m, ↓rB2_m, ↓rB3_m, wB2_m, wB3_m, ↓rL_m, wL_m, ↓rQ_m, wQ_m, ↓lI_m, pI_m, pL_m, pR_m, sI_m, sBy_m, sBo_m, sL_m, sQ_m, fst_m, true_and, and_true, tg_some, ln_some, uI_1, uI_2, uL_1, uL_2, uL_3, uQ_1, uQ_2, uQ_3, rv_i, rv_l, rv_n, rv_b0, rv_b1, RMR, ne_eq, reduceCtorEq, not_false_eq_true, Option.getD_some, if_true, if_false, and_self, false_and, and_false, Nat.add_left_cancel_iff, Nat.add_eq_left, Nat.left_eq_add, Nat.one_ne_zero, Nat.reduceAdd, Nat.reduceLT, Nat.reduceLeDiff, Nat.reduceEqDiff, RCX 0, RCG 2, RCT 4, RCT 15, RCT 25, RCS 35, RCS 49, RCH 63, RCP 67, RCB 72, RCR 77, RCM 81, RLY, lit_at hw, hd1, hd2, hd3, hd4, hd5, le_10, lt_m1, hF, hU, brT, brF, br_s, i_10, i_01, fr_129, fr_128, vin_z0, vin_z1, vin_z2, vin_z3, vin_z4, vin_z5, rv_vin, tn_0, tn_1, tn_2, tn_3, inB_102_0, inB_102_1, inB_102_2, inB_102_3, Int32.le_refl, eq_self, inB_2471_0, inB_2471_1, inB_2471_2, inB_2471_3, inB_2471_4, inB_2471_5, inB_2471_6, inB_2471_7, inB_2471_8, inB_2471_9, inB_2471_10, inB_2471_11, inB_2471_12, inB_2471_13, inB_2471_14, inB_2471_15, inB_2471_16, fr_179 hw hG]
  exact hQ
theorem fr_183 {w : mT} {σ : mS} {a1 : Int32} {a2 : Int32} {a3 : Int32} {a4 : Int32} {a5 : Int32}  {D : Nat} {K : Int32 → Hp → Prop} (hw : lit w) (hF : frO σ) (hD : 6 ≤ D) : wpI D 183 [.ref 81, .int a1, .int a2, .int a3, .int a4, .int a5] (mW w σ) K ↔ K (-1) (mW w σ) := by
  have hG := hF
  unfold frO at hF
  have hU : uI σ 81 0 0 = σ := uI_same hF.1
  refine cI_of (m := 5) (fun d hd Q hQ => ?_) rfl hD
  have hd1 : 1 ≤ d := by omega
  have hd2 : 2 ≤ d := by omega
  have hd3 : 3 ≤ d := by omega
  have hd4 : 4 ≤ d := by omega
  have hd5 : 5 ≤ d := by omega
  refine b183_0 ?_
  simp only [↓rF_I, ↓rF_L, ↓rF_R, ↓rF_N, rO_m, rB_m, ↓rI_m, wI_m, ↓rB2_m, ↓rB3_m, wB2_m, wB3_m, ↓rL_m, wL_m, ↓rQ_m, wQ_m, ↓lI_m, pI_m, pL_m, pR_m, sI_m, sBy_m, sBo_m, sL_m, sQ_m, fst_m, true_and, and_true, tg_some, ln_some, uI_1, uI_2, uL_1, uL_2, uL_3, uQ_1, uQ_2, uQ_3, rv_i, rv_l, rv_n, rv_b0, rv_b1, RMR, ne_eq, reduceCtorEq, not_false_eq_true, Option.getD_some, if_true, if_false, and_self, false_and, and_false, Nat.add_left_cancel_iff, Nat.add_eq_left, Nat.left_eq_add, Nat.one_ne_zero, Nat.reduceAdd, Nat.reduceLT, Nat.reduceLeDiff, Nat.reduceEqDiff, RCX 0, RCG 2, RCT 4, RCT 15, RCT 25, RCS 35, RCS 49, RCH 63, RCP 67, RCB 72, RCR 77, RCM 81, RLY, lit_at hw, hd1, hd2, hd3, hd4, hd5, le_10, lt_m1, hF, hU, brT, brF, br_s, i_10, i_01, fr_129, fr_128, vin_z0, vin_z1, vin_z2, vin_z3, vin_z4, vin_z5, rv_vin, tn_0, tn_1, tn_2, tn_3, inB_102_0, inB_102_1, inB_102_2, inB_102_3, Int32.le_refl, eq_self, inB_2471_0, inB_2471_1, inB_2471_2, inB_2471_3, inB_2471_4, inB_2471_5, inB_2471_6, inB_2471_7, inB_2471_8, inB_2471_9, inB_2471_10, inB_2471_11, inB_2471_12, inB_2471_13, inB_2471_14, inB_2471_15, inB_2471_16, fr_179 hw hG]
  exact hQ
theorem fr_184 {w : mT} {σ : mS} {a1 : Int32} {a2 : Int32} {a3 : Int32}  {D : Nat} {K : Int32 → Hp → Prop} (hw : lit w) (hF : frO σ) (hD : 4 ≤ D) : wpI D 184 [.ref 81, .int a1, .int a2, .int a3] (mW w σ) K ↔ K (0) (mW w σ) := by
  have hG := hF
  unfold frO at hF
  have hU : uI σ 81 0 0 = σ := uI_same hF.1
  refine cI_of (m := 3) (fun d hd Q hQ => ?_) rfl hD
  have hd1 : 1 ≤ d := by omega
  have hd2 : 2 ≤ d := by omega
  have hd3 : 3 ≤ d := by omega
  refine b184_0 ?_
  simp only [↓rF_I, ↓rF_L, ↓rF_R, ↓rF_N, rO_m, rB_m, ↓rI_m, wI_m, ↓rB2_m, ↓rB3_m, wB2_m, wB3_m, ↓rL_m, wL_m, ↓rQ_m, wQ_m, ↓lI_m, pI_m, pL_m, pR_m, sI_m, sBy_m, sBo_m, sL_m, sQ_m, fst_m, true_and, and_true, tg_some, ln_some, uI_1, uI_2, uL_1, uL_2, uL_3, uQ_1, uQ_2, uQ_3, rv_i, rv_l, rv_n, rv_b0, rv_b1, RMR, ne_eq, reduceCtorEq, not_false_eq_true, Option.getD_some, if_true, if_false, and_self, false_and, and_false, Nat.add_left_cancel_iff, Nat.add_eq_left, Nat.left_eq_add, Nat.one_ne_zero, Nat.reduceAdd, Nat.reduceLT, Nat.reduceLeDiff, Nat.reduceEqDiff, RCX 0, RCG 2, RCT 4, RCT 15, RCT 25, RCS 35, RCS 49, RCH 63, RCP 67, RCB 72, RCR 77, RCM 81, RLY, lit_at hw, hd1, hd2, hd3, le_10, lt_m1, hF, hU, brT, brF, br_s, i_10, i_01, fr_129, fr_128, vin_z0, vin_z1, vin_z2, vin_z3, vin_z4, vin_z5, rv_vin, tn_0, tn_1, tn_2, tn_3, inB_102_0, inB_102_1, inB_102_2, inB_102_3, Int32.le_refl, eq_self, inB_2471_0, inB_2471_1, inB_2471_2, inB_2471_3, inB_2471_4, inB_2471_5, inB_2471_6, inB_2471_7, inB_2471_8, inB_2471_9, inB_2471_10, inB_2471_11, inB_2471_12, inB_2471_13, inB_2471_14, inB_2471_15, inB_2471_16, fr_154 hw hG]
  exact hQ
theorem fr_185 {w : mT} {σ : mS} {a1 : Int32} {a2 : Int32} {a3 : Int32}  {D : Nat} {K : Int32 → Hp → Prop} (hw : lit w) (hF : frO σ) (hD : 5 ≤ D) : wpI D 185 [.ref 81, .int a1, .int a2, .int a3] (mW w σ) K ↔ K (1) (mW w σ) := by
  have hG := hF
  unfold frO at hF
  have hU : uI σ 81 0 0 = σ := uI_same hF.1
  refine cI_of (m := 4) (fun d hd Q hQ => ?_) rfl hD
  have hd1 : 1 ≤ d := by omega
  have hd2 : 2 ≤ d := by omega
  have hd3 : 3 ≤ d := by omega
  have hd4 : 4 ≤ d := by omega
  refine b185_0 ?_
  simp only [↓rF_I, ↓rF_L, ↓rF_R, ↓rF_N, rO_m, rB_m, ↓rI_m, wI_m, ↓rB2_m, ↓rB3_m, wB2_m, wB3_m, ↓rL_m, wL_m, ↓rQ_m, wQ_m, ↓lI_m, pI_m, pL_m, pR_m, sI_m, sBy_m, sBo_m, sL_m, sQ_m, fst_m, true_and, and_true, tg_some, ln_some, uI_1, uI_2, uL_1, uL_2, uL_3, uQ_1, uQ_2, uQ_3, rv_i, rv_l, rv_n, rv_b0, rv_b1, RMR, ne_eq, reduceCtorEq, not_false_eq_true, Option.getD_some, if_true, if_false, and_self, false_and, and_false, Nat.add_left_cancel_iff, Nat.add_eq_left, Nat.left_eq_add, Nat.one_ne_zero, Nat.reduceAdd, Nat.reduceLT, Nat.reduceLeDiff, Nat.reduceEqDiff, RCX 0, RCG 2, RCT 4, RCT 15, RCT 25, RCS 35, RCS 49, RCH 63, RCP 67, RCB 72, RCR 77, RCM 81, RLY, lit_at hw, hd1, hd2, hd3, hd4, le_10, lt_m1, hF, hU, brT, brF, br_s, i_10, i_01, fr_129, fr_128, vin_z0, vin_z1, vin_z2, vin_z3, vin_z4, vin_z5, rv_vin, tn_0, tn_1, tn_2, tn_3, inB_102_0, inB_102_1, inB_102_2, inB_102_3, Int32.le_refl, eq_self, inB_2471_0, inB_2471_1, inB_2471_2, inB_2471_3, inB_2471_4, inB_2471_5, inB_2471_6, inB_2471_7, inB_2471_8, inB_2471_9, inB_2471_10, inB_2471_11, inB_2471_12, inB_2471_13, inB_2471_14, inB_2471_15, inB_2471_16, fr_184 hw hG]
  exact hQ
theorem fr_186 {w : mT} {σ : mS} {a1 : Int32} {a2 : Int32} {a3 : Int32}  {D : Nat} {K : Int32 → Hp → Prop} (hw : lit w) (hF : frO σ) (hD : 6 ≤ D) : wpI D 186 [.ref 81, .int a1, .int a2, .int a3] (mW w σ) K ↔ K (1) (mW w σ) := by
  have hG := hF
  unfold frO at hF
  have hU : uI σ 81 0 0 = σ := uI_same hF.1
  refine cI_of (m := 5) (fun d hd Q hQ => ?_) rfl hD
  have hd1 : 1 ≤ d := by omega
  have hd2 : 2 ≤ d := by omega
  have hd3 : 3 ≤ d := by omega
  have hd4 : 4 ≤ d := by omega
  have hd5 : 5 ≤ d := by omega
  refine b186_0 ?_
  simp only [↓rF_I, ↓rF_L, ↓rF_R, ↓rF_N, rO_m, rB_m, ↓rI_m, wI_m, ↓rB2_m, ↓rB3_m, wB2_m, wB3_m, ↓rL_m, wL_m, ↓rQ_m, wQ_m, ↓lI_m, pI_m, pL_m, pR_m, sI_m, sBy_m, sBo_m, sL_m, sQ_m, fst_m, true_and, and_true, tg_some, ln_some, uI_1, uI_2, uL_1, uL_2, uL_3, uQ_1, uQ_2, uQ_3, rv_i, rv_l, rv_n, rv_b0, rv_b1, RMR, ne_eq, reduceCtorEq, not_false_eq_true, Option.getD_some, if_true, if_false, and_self, false_and, and_false, Nat.add_left_cancel_iff, Nat.add_eq_left, Nat.left_eq_add, Nat.one_ne_zero, Nat.reduceAdd, Nat.reduceLT, Nat.reduceLeDiff, Nat.reduceEqDiff, RCX 0, RCG 2, RCT 4, RCT 15, RCT 25, RCS 35, RCS 49, RCH 63, RCP 67, RCB 72, RCR 77, RCM 81, RLY, lit_at hw, hd1, hd2, hd3, hd4, hd5, le_10, lt_m1, hF, hU, brT, brF, br_s, i_10, i_01, fr_129, fr_128, vin_z0, vin_z1, vin_z2, vin_z3, vin_z4, vin_z5, rv_vin, tn_0, tn_1, tn_2, tn_3, inB_102_0, inB_102_1, inB_102_2, inB_102_3, Int32.le_refl, eq_self, inB_2471_0, inB_2471_1, inB_2471_2, inB_2471_3, inB_2471_4, inB_2471_5, inB_2471_6, inB_2471_7, inB_2471_8, inB_2471_9, inB_2471_10, inB_2471_11, inB_2471_12, inB_2471_13, inB_2471_14, inB_2471_15, inB_2471_16, fr_185 hw hG]
  exact hQ
theorem fr_188 {w : mT} {σ : mS} {a1 : Int32} {a2 : Int32} {a3 : Int32}  {D : Nat} {K : Int32 → Hp → Prop} (hw : lit w) (hF : frO σ) (hD : 6 ≤ D) : wpI D 188 [.ref 81, .int a1, .int a2, .int a3] (mW w σ) K ↔ K (-1) (mW w σ) := by
  have hG := hF
  unfold frO at hF
  have hU : uI σ 81 0 0 = σ := uI_same hF.1
  refine cI_of (m := 5) (fun d hd Q hQ => ?_) rfl hD
  have hd1 : 1 ≤ d := by omega
  have hd2 : 2 ≤ d := by omega
  have hd3 : 3 ≤ d := by omega
  have hd4 : 4 ≤ d := by omega
  have hd5 : 5 ≤ d := by omega
  refine b188_0 ?_
  simp only [↓rF_I, ↓rF_L, ↓rF_R, ↓rF_N, rO_m, rB_m, ↓rI_m, wI_m, ↓rB2_m, ↓rB3_m, wB2_m, wB3_m, ↓rL_m, wL_m, ↓rQ_m, wQ_m, ↓lI_m, pI_m, pL_m, pR_m, sI_m, sBy_m, sBo_m, sL_m, sQ_m, fst_m, true_and, and_true, tg_some, ln_some, uI_1, uI_2, uL_1, uL_2, uL_3, uQ_1, uQ_2, uQ_3, rv_i, rv_l, rv_n, rv_b0, rv_b1, RMR, ne_eq, reduceCtorEq, not_false_eq_true, Option.getD_some, if_true, if_false, and_self, false_and, and_false, Nat.add_left_cancel_iff, Nat.add_eq_left, Nat.left_eq_add, Nat.one_ne_zero, Nat.reduceAdd, Nat.reduceLT, Nat.reduceLeDiff, Nat.reduceEqDiff, RCX 0, RCG 2, RCT 4, RCT 15, RCT 25, RCS 35, RCS 49, RCH 63, RCP 67, RCB 72, RCR 77, RCM 81, RLY, lit_at hw, hd1, hd2, hd3, hd4, hd5, le_10, lt_m1, hF, hU, brT, brF, br_s, i_10, i_01, fr_129, fr_128, vin_z0, vin_z1, vin_z2, vin_z3, vin_z4, vin_z5, rv_vin, tn_0, tn_1, tn_2, tn_3, inB_102_0, inB_102_1, inB_102_2, inB_102_3, Int32.le_refl, eq_self, inB_2471_0, inB_2471_1, inB_2471_2, inB_2471_3, inB_2471_4, inB_2471_5, inB_2471_6, inB_2471_7, inB_2471_8, inB_2471_9, inB_2471_10, inB_2471_11, inB_2471_12, inB_2471_13, inB_2471_14, inB_2471_15, inB_2471_16, fr_185 hw hG]
  exact hQ
theorem fr_191 {w : mT} {σ : mS} {a1 : Int32}  {D : Nat} {K : Int32 → Hp → Prop} (hw : lit w) (hF : frO σ) (hD : 3 ≤ D) : wpI D 191 [.ref 81, .int a1] (mW w σ) K ↔ K (-1) (mW w σ) := by
  have hG := hF
  unfold frO at hF
  have hU : uI σ 81 0 0 = σ := uI_same hF.1
  refine cI_of (m := 2) (fun d hd Q hQ => ?_) rfl hD
  have hd1 : 1 ≤ d := by omega
  have hd2 : 2 ≤ d := by omega
  refine b191_0 ?_
  simp only [↓rF_I, ↓rF_L, ↓rF_R, ↓rF_N, rO_m, rB_m, ↓rI_m, wI_m, ↓rB2_m, ↓rB3_m, wB2_m, wB3_m, ↓rL_m, wL_m, ↓rQ_m, wQ_m, ↓lI_m, pI_m, pL_m, pR_m, sI_m, sBy_m, sBo_m, sL_m, sQ_m, fst_m, true_and, and_true, tg_some, ln_some, uI_1, uI_2, uL_1, uL_2, uL_3, uQ_1, uQ_2, uQ_3, rv_i, rv_l, rv_n, rv_b0, rv_b1, RMR, ne_eq, reduceCtorEq, not_false_eq_true, Option.getD_some, if_true, if_false, and_self, false_and, and_false, Nat.add_left_cancel_iff, Nat.add_eq_left, Nat.left_eq_add, Nat.one_ne_zero, Nat.reduceAdd, Nat.reduceLT, Nat.reduceLeDiff, Nat.reduceEqDiff, RCX 0, RCG 2, RCT 4, RCT 15, RCT 25, RCS 35, RCS 49, RCH 63, RCP 67, RCB 72, RCR 77, RCM 81, RLY, lit_at hw, hd1, hd2, le_10, lt_m1, hF, hU, brT, brF, br_s, i_10, i_01, fr_129, fr_128, vin_z0, vin_z1, vin_z2, vin_z3, vin_z4, vin_z5, rv_vin, tn_0, tn_1, tn_2, tn_3, inB_102_0, inB_102_1, inB_102_2, inB_102_3, Int32.le_refl, eq_self, inB_2471_0, inB_2471_1, inB_2471_2, inB_2471_3, inB_2471_4, inB_2471_5, inB_2471_6, inB_2471_7, inB_2471_8, inB_2471_9, inB_2471_10, inB_2471_11, inB_2471_12, inB_2471_13, inB_2471_14, inB_2471_15, inB_2471_16, fr_153 hw hG]
  exact hQ
theorem fr_193 {w : mT} {σ : mS} {a1 : Int32} {a2 : Int32} {a3 : Int32} {a4 : Int32} {a5 : Int32}  {D : Nat} {K : Int32 → Hp → Prop} (hw : lit w) (hF : frO σ) (hD : 5 ≤ D) : wpI D 193 [.ref 81, .int a1, .int a2, .int a3, .int a4, .int a5] (mW w σ) K ↔ K (-1) (mW w σ) := by
  have hG := hF
  unfold frO at hF
  have hU : uI σ 81 0 0 = σ := uI_same hF.1
  refine cI_of (m := 4) (fun d hd Q hQ => ?_) rfl hD
  have hd1 : 1 ≤ d := by omega
  have hd2 : 2 ≤ d := by omega
  have hd3 : 3 ≤ d := by omega
  have hd4 : 4 ≤ d := by omega
  refine b193_0 ?_
  simp only [↓rF_I, ↓rF_L, ↓rF_R, ↓rF_N, rO_m, rB_m, ↓rI_m, wI_m, ↓rB2_m, ↓rB3_m, wB2_m, wB3_m, ↓rL_m, wL_m, ↓rQ_m, wQ_m, ↓lI_m, pI_m, pL_m, pR_m, sI_m, sBy_m, sBo_m, sL_m, sQ_m, fst_m, true_and, and_true, tg_some, ln_some, uI_1, uI_2, uL_1, uL_2, uL_3, uQ_1, uQ_2, uQ_3, rv_i, rv_l, rv_n, rv_b0, rv_b1, RMR, ne_eq, reduceCtorEq, not_false_eq_true, Option.getD_some, if_true, if_false, and_self, false_and, and_false, Nat.add_left_cancel_iff, Nat.add_eq_left, Nat.left_eq_add, Nat.one_ne_zero, Nat.reduceAdd, Nat.reduceLT, Nat.reduceLeDiff, Nat.reduceEqDiff, RCX 0, RCG 2, RCT 4, RCT 15, RCT 25, RCS 35, RCS 49, RCH 63, RCP 67, RCB 72, RCR 77, RCM 81, RLY, lit_at hw, hd1, hd2, hd3, hd4, le_10, lt_m1, hF, hU, brT, brF, br_s, i_10, i_01, fr_129, fr_128, vin_z0, vin_z1, vin_z2, vin_z3, vin_z4, vin_z5, rv_vin, tn_0, tn_1, tn_2, tn_3, inB_102_0, inB_102_1, inB_102_2, inB_102_3, Int32.le_refl, eq_self, inB_2471_0, inB_2471_1, inB_2471_2, inB_2471_3, inB_2471_4, inB_2471_5, inB_2471_6, inB_2471_7, inB_2471_8, inB_2471_9, inB_2471_10, inB_2471_11, inB_2471_12, inB_2471_13, inB_2471_14, inB_2471_15, inB_2471_16, fr_178 hw hG]
  exact hQ
theorem fr_194 {w : mT} {σ : mS} {a1 : Int32} {a2 : Int32} {a3 : Int32}  {D : Nat} {K : Int32 → Hp → Prop} (hw : lit w) (hF : frO σ) (hD : 5 ≤ D) : wpI D 194 [.ref 81, .int a1, .int a2, .int a3] (mW w σ) K ↔ K (-1) (mW w σ) := by
  have hG := hF
  unfold frO at hF
  have hU : uI σ 81 0 0 = σ := uI_same hF.1
  refine cI_of (m := 4) (fun d hd Q hQ => ?_) rfl hD
  have hd1 : 1 ≤ d := by omega
  have hd2 : 2 ≤ d := by omega
  have hd3 : 3 ≤ d := by omega
  have hd4 : 4 ≤ d := by omega
  refine b194_0 ?_
  simp only [↓rF_I, ↓rF_L, ↓rF_R, ↓rF_N, rO_m, rB_m, ↓rI_m, wI_m, ↓rB2_m, ↓rB3_m, wB2_m, wB3_m, ↓rL_m, wL_m, ↓rQ_m, wQ_m, ↓lI_m, pI_m, pL_m, pR_m, sI_m, sBy_m, sBo_m, sL_m, sQ_m, fst_m, true_and, and_true, tg_some, ln_some, uI_1, uI_2, uL_1, uL_2, uL_3, uQ_1, uQ_2, uQ_3, rv_i, rv_l, rv_n, rv_b0, rv_b1, RMR, ne_eq, reduceCtorEq, not_false_eq_true, Option.getD_some, if_true, if_false, and_self, false_and, and_false, Nat.add_left_cancel_iff, Nat.add_eq_left, Nat.left_eq_add, Nat.one_ne_zero, Nat.reduceAdd, Nat.reduceLT, Nat.reduceLeDiff, Nat.reduceEqDiff, RCX 0, RCG 2, RCT 4, RCT 15, RCT 25, RCS 35, RCS 49, RCH 63, RCP 67, RCB 72, RCR 77, RCM 81, RLY, lit_at hw, hd1, hd2, hd3, hd4, le_10, lt_m1, hF, hU, brT, brF, br_s, i_10, i_01, fr_129, fr_128, vin_z0, vin_z1, vin_z2, vin_z3, vin_z4, vin_z5, rv_vin, tn_0, tn_1, tn_2, tn_3, inB_102_0, inB_102_1, inB_102_2, inB_102_3, Int32.le_refl, eq_self, inB_2471_0, inB_2471_1, inB_2471_2, inB_2471_3, inB_2471_4, inB_2471_5, inB_2471_6, inB_2471_7, inB_2471_8, inB_2471_9, inB_2471_10, inB_2471_11, inB_2471_12, inB_2471_13, inB_2471_14, inB_2471_15, inB_2471_16, fr_184 hw hG]
  exact hQ
theorem fr_205 {w : mT} {σ : mS}   {D : Nat} {K : Int32 → Hp → Prop} (hw : lit w) (hF : frO σ) (hD : 2 ≤ D) : wpI D 205 [.ref 81] (mW w σ) K ↔ K (-1) (mW w σ) := by
  have hG := hF
  unfold frO at hF
  have hU : uI σ 81 0 0 = σ := uI_same hF.1
  refine cI_of (m := 1) (fun d hd Q hQ => ?_) rfl hD
  have hd1 : 1 ≤ d := by omega
  refine b205_0 ?_
  simp only [↓rF_I, ↓rF_L, ↓rF_R, ↓rF_N, rO_m, rB_m, ↓rI_m, wI_m, ↓rB2_m, ↓rB3_m, wB2_m, wB3_m, ↓rL_m, wL_m, ↓rQ_m, wQ_m, ↓lI_m, pI_m, pL_m, pR_m, sI_m, sBy_m, sBo_m, sL_m, sQ_m, fst_m, true_and, and_true, tg_some, ln_some, uI_1, uI_2, uL_1, uL_2, uL_3, uQ_1, uQ_2, uQ_3, rv_i, rv_l, rv_n, rv_b0, rv_b1, RMR, ne_eq, reduceCtorEq, not_false_eq_true, Option.getD_some, if_true, if_false, and_self, false_and, and_false, Nat.add_left_cancel_iff, Nat.add_eq_left, Nat.left_eq_add, Nat.one_ne_zero, Nat.reduceAdd, Nat.reduceLT, Nat.reduceLeDiff, Nat.reduceEqDiff, RCX 0, RCG 2, RCT 4, RCT 15, RCT 25, RCS 35, RCS 49, RCH 63, RCP 67, RCB 72, RCR 77, RCM 81, RLY, lit_at hw, hd1, le_10, lt_m1, hF, hU, brT, brF, br_s, i_10, i_01, fr_129, fr_128, vin_z0, vin_z1, vin_z2, vin_z3, vin_z4, vin_z5, rv_vin, tn_0, tn_1, tn_2, tn_3, inB_102_0, inB_102_1, inB_102_2, inB_102_3, Int32.le_refl, eq_self, inB_2471_0, inB_2471_1, inB_2471_2, inB_2471_3, inB_2471_4, inB_2471_5, inB_2471_6, inB_2471_7, inB_2471_8, inB_2471_9, inB_2471_10, inB_2471_11, inB_2471_12, inB_2471_13, inB_2471_14, inB_2471_15, inB_2471_16]
  exact hQ
theorem fr_210 {w : mT} {σ : mS} {a1 : Int32} {a2 : Int32}  {D : Nat} {K : Int32 → Hp → Prop} (hw : lit w) (hF : frO σ) (hD : 4 ≤ D) : wpI D 210 [.ref 81, .int a1, .int a2] (mW w σ) K ↔ K (-1) (mW w σ) := by
  have hG := hF
  unfold frO at hF
  have hU : uI σ 81 0 0 = σ := uI_same hF.1
  refine cI_of (m := 3) (fun d hd Q hQ => ?_) rfl hD
  have hd1 : 1 ≤ d := by omega
  have hd2 : 2 ≤ d := by omega
  have hd3 : 3 ≤ d := by omega
  refine b210_0 ?_
  simp only [↓rF_I, ↓rF_L, ↓rF_R, ↓rF_N, rO_m, rB_m, ↓rI_m, wI_m, ↓rB2_m, ↓rB3_m, wB2_m, wB3_m, ↓rL_m, wL_m, ↓rQ_m, wQ_m, ↓lI_m, pI_m, pL_m, pR_m, sI_m, sBy_m, sBo_m, sL_m, sQ_m, fst_m, true_and, and_true, tg_some, ln_some, uI_1, uI_2, uL_1, uL_2, uL_3, uQ_1, uQ_2, uQ_3, rv_i, rv_l, rv_n, rv_b0, rv_b1, RMR, ne_eq, reduceCtorEq, not_false_eq_true, Option.getD_some, if_true, if_false, and_self, false_and, and_false, Nat.add_left_cancel_iff, Nat.add_eq_left, Nat.left_eq_add, Nat.one_ne_zero, Nat.reduceAdd, Nat.reduceLT, Nat.reduceLeDiff, Nat.reduceEqDiff, RCX 0, RCG 2, RCT 4, RCT 15, RCT 25, RCS 35, RCS 49, RCH 63, RCP 67, RCB 72, RCR 77, RCM 81, RLY, lit_at hw, hd1, hd2, hd3, le_10, lt_m1, hF, hU, brT, brF, br_s, i_10, i_01, fr_129, fr_128, vin_z0, vin_z1, vin_z2, vin_z3, vin_z4, vin_z5, rv_vin, tn_0, tn_1, tn_2, tn_3, inB_102_0, inB_102_1, inB_102_2, inB_102_3, Int32.le_refl, eq_self, inB_2471_0, inB_2471_1, inB_2471_2, inB_2471_3, inB_2471_4, inB_2471_5, inB_2471_6, inB_2471_7, inB_2471_8, inB_2471_9, inB_2471_10, inB_2471_11, inB_2471_12, inB_2471_13, inB_2471_14, inB_2471_15, inB_2471_16, fr_154 hw hG]
  exact hQ
theorem fr_211 {w : mT} {σ : mS} {a1 : Int32}  {D : Nat} {K : Int32 → Hp → Prop} (hw : lit w) (hF : frO σ) (hD : 4 ≤ D) : wpI D 211 [.ref 81, .int a1] (mW w σ) K ↔ K (-1) (mW w σ) := by
  have hG := hF
  unfold frO at hF
  have hU : uI σ 81 0 0 = σ := uI_same hF.1
  refine cI_of (m := 3) (fun d hd Q hQ => ?_) rfl hD
  have hd1 : 1 ≤ d := by omega
  have hd2 : 2 ≤ d := by omega
  have hd3 : 3 ≤ d := by omega
  refine b211_0 ?_
  simp only [↓rF_I, ↓rF_L, ↓rF_R, ↓rF_N, rO_m, rB_m, ↓rI_m, wI_m, ↓rB2_m, ↓rB3_m, wB2_m, wB3_m, ↓rL_m, wL_m, ↓rQ_m, wQ_m, ↓lI_m, pI_m, pL_m, pR_m, sI_m, sBy_m, sBo_m, sL_m, sQ_m, fst_m, true_and, and_true, tg_some, ln_some, uI_1, uI_2, uL_1, uL_2, uL_3, uQ_1, uQ_2, uQ_3, rv_i, rv_l, rv_n, rv_b0, rv_b1, RMR, ne_eq, reduceCtorEq, not_false_eq_true, Option.getD_some, if_true, if_false, and_self, false_and, and_false, Nat.add_left_cancel_iff, Nat.add_eq_left, Nat.left_eq_add, Nat.one_ne_zero, Nat.reduceAdd, Nat.reduceLT, Nat.reduceLeDiff, Nat.reduceEqDiff, RCX 0, RCG 2, RCT 4, RCT 15, RCT 25, RCS 35, RCS 49, RCH 63, RCP 67, RCB 72, RCR 77, RCM 81, RLY, lit_at hw, hd1, hd2, hd3, le_10, lt_m1, hF, hU, brT, brF, br_s, i_10, i_01, fr_129, fr_128, vin_z0, vin_z1, vin_z2, vin_z3, vin_z4, vin_z5, rv_vin, tn_0, tn_1, tn_2, tn_3, inB_102_0, inB_102_1, inB_102_2, inB_102_3, Int32.le_refl, eq_self, inB_2471_0, inB_2471_1, inB_2471_2, inB_2471_3, inB_2471_4, inB_2471_5, inB_2471_6, inB_2471_7, inB_2471_8, inB_2471_9, inB_2471_10, inB_2471_11, inB_2471_12, inB_2471_13, inB_2471_14, inB_2471_15, inB_2471_16, fr_152 hw hG]
  exact hQ
theorem fr_212 {w : mT} {σ : mS} {a1 : Int32}  {D : Nat} {K : Int32 → Hp → Prop} (hw : lit w) (hF : frO σ) (hD : 4 ≤ D) : wpI D 212 [.ref 81, .int a1] (mW w σ) K ↔ K (-1) (mW w σ) := by
  have hG := hF
  unfold frO at hF
  have hU : uI σ 81 0 0 = σ := uI_same hF.1
  refine cI_of (m := 3) (fun d hd Q hQ => ?_) rfl hD
  have hd1 : 1 ≤ d := by omega
  have hd2 : 2 ≤ d := by omega
  have hd3 : 3 ≤ d := by omega
  refine b212_0 ?_
  simp only [↓rF_I, ↓rF_L, ↓rF_R, ↓rF_N, rO_m, rB_m, ↓rI_m, wI_m, ↓rB2_m, ↓rB3_m, wB2_m, wB3_m, ↓rL_m, wL_m, ↓rQ_m, wQ_m, ↓lI_m, pI_m, pL_m, pR_m, sI_m, sBy_m, sBo_m, sL_m, sQ_m, fst_m, true_and, and_true, tg_some, ln_some, uI_1, uI_2, uL_1, uL_2, uL_3, uQ_1, uQ_2, uQ_3, rv_i, rv_l, rv_n, rv_b0, rv_b1, RMR, ne_eq, reduceCtorEq, not_false_eq_true, Option.getD_some, if_true, if_false, and_self, false_and, and_false, Nat.add_left_cancel_iff, Nat.add_eq_left, Nat.left_eq_add, Nat.one_ne_zero, Nat.reduceAdd, Nat.reduceLT, Nat.reduceLeDiff, Nat.reduceEqDiff, RCX 0, RCG 2, RCT 4, RCT 15, RCT 25, RCS 35, RCS 49, RCH 63, RCP 67, RCB 72, RCR 77, RCM 81, RLY, lit_at hw, hd1, hd2, hd3, le_10, lt_m1, hF, hU, brT, brF, br_s, i_10, i_01, fr_129, fr_128, vin_z0, vin_z1, vin_z2, vin_z3, vin_z4, vin_z5, rv_vin, tn_0, tn_1, tn_2, tn_3, inB_102_0, inB_102_1, inB_102_2, inB_102_3, Int32.le_refl, eq_self, inB_2471_0, inB_2471_1, inB_2471_2, inB_2471_3, inB_2471_4, inB_2471_5, inB_2471_6, inB_2471_7, inB_2471_8, inB_2471_9, inB_2471_10, inB_2471_11, inB_2471_12, inB_2471_13, inB_2471_14, inB_2471_15, inB_2471_16, fr_153 hw hG]
  exact hQ
theorem fr_213 {w : mT} {σ : mS}   {D : Nat} {K : Int32 → Hp → Prop} (hw : lit w) (hF : frO σ) (hD : 1 ≤ D) : wpI D 213 [.ref 81] (mW w σ) K ↔ K (1) (mW w σ) := by
  have hG := hF
  unfold frO at hF
  have hU : uI σ 81 0 0 = σ := uI_same hF.1
  refine cI_of (m := 0) (fun d hd Q hQ => ?_) rfl hD

  refine b213_0 ?_
  simp only [↓rF_I, ↓rF_L, ↓rF_R, ↓rF_N, rO_m, rB_m, ↓rI_m, wI_m, ↓rB2_m, ↓rB3_m, wB2_m, wB3_m, ↓rL_m, wL_m, ↓rQ_m, wQ_m, ↓lI_m, pI_m, pL_m, pR_m, sI_m, sBy_m, sBo_m, sL_m, sQ_m, fst_m, true_and, and_true, tg_some, ln_some, uI_1, uI_2, uL_1, uL_2, uL_3, uQ_1, uQ_2, uQ_3, rv_i, rv_l, rv_n, rv_b0, rv_b1, RMR, ne_eq, reduceCtorEq, not_false_eq_true, Option.getD_some, if_true, if_false, and_self, false_and, and_false, Nat.add_left_cancel_iff, Nat.add_eq_left, Nat.left_eq_add, Nat.one_ne_zero, Nat.reduceAdd, Nat.reduceLT, Nat.reduceLeDiff, Nat.reduceEqDiff, RCX 0, RCG 2, RCT 4, RCT 15, RCT 25, RCS 35, RCS 49, RCH 63, RCP 67, RCB 72, RCR 77, RCM 81, RLY, lit_at hw, le_10, lt_m1, hF, hU, brT, brF, br_s, i_10, i_01, fr_129, fr_128, vin_z0, vin_z1, vin_z2, vin_z3, vin_z4, vin_z5, rv_vin, tn_0, tn_1, tn_2, tn_3, inB_102_0, inB_102_1, inB_102_2, inB_102_3, Int32.le_refl, eq_self, inB_2471_0, inB_2471_1, inB_2471_2, inB_2471_3, inB_2471_4, inB_2471_5, inB_2471_6, inB_2471_7, inB_2471_8, inB_2471_9, inB_2471_10, inB_2471_11, inB_2471_12, inB_2471_13, inB_2471_14, inB_2471_15, inB_2471_16]
  exact hQ
theorem fr_214 {w : mT} {σ : mS} {a1 : Int32} {a2 : Int32} {a3 : Int32}  {D : Nat} {K : Int32 → Hp → Prop} (hw : lit w) (hF : frO σ) (hD : 3 ≤ D) : wpI D 214 [.ref 81, .int a1, .int a2, .int a3] (mW w σ) K ↔ K (-1) (mW w σ) := by
  have hG := hF
  unfold frO at hF
  have hU : uI σ 81 0 0 = σ := uI_same hF.1
  refine cI_of (m := 2) (fun d hd Q hQ => ?_) rfl hD
  have hd1 : 1 ≤ d := by omega
  have hd2 : 2 ≤ d := by omega
  refine b214_0 ?_
  simp only [↓rF_I, ↓rF_L, ↓rF_R, ↓rF_N, rO_m, rB_m, ↓rI_m, wI_m, ↓rB2_m, ↓rB3_m, wB2_m, wB3_m, ↓rL_m, wL_m, ↓rQ_m, wQ_m, ↓lI_m, pI_m, pL_m, pR_m, sI_m, sBy_m, sBo_m, sL_m, sQ_m, fst_m, true_and, and_true, tg_some, ln_some, uI_1, uI_2, uL_1, uL_2, uL_3, uQ_1, uQ_2, uQ_3, rv_i, rv_l, rv_n, rv_b0, rv_b1, RMR, ne_eq, reduceCtorEq, not_false_eq_true, Option.getD_some, if_true, if_false, and_self, false_and, and_false, Nat.add_left_cancel_iff, Nat.add_eq_left, Nat.left_eq_add, Nat.one_ne_zero, Nat.reduceAdd, Nat.reduceLT, Nat.reduceLeDiff, Nat.reduceEqDiff, RCX 0, RCG 2, RCT 4, RCT 15, RCT 25, RCS 35, RCS 49, RCH 63, RCP 67, RCB 72, RCR 77, RCM 81, RLY, lit_at hw, hd1, hd2, le_10, lt_m1, hF, hU, brT, brF, br_s, i_10, i_01, fr_129, fr_128, vin_z0, vin_z1, vin_z2, vin_z3, vin_z4, vin_z5, rv_vin, tn_0, tn_1, tn_2, tn_3, inB_102_0, inB_102_1, inB_102_2, inB_102_3, Int32.le_refl, eq_self, inB_2471_0, inB_2471_1, inB_2471_2, inB_2471_3, inB_2471_4, inB_2471_5, inB_2471_6, inB_2471_7, inB_2471_8, inB_2471_9, inB_2471_10, inB_2471_11, inB_2471_12, inB_2471_13, inB_2471_14, inB_2471_15, inB_2471_16, fr_152 hw hG]
  exact hQ
theorem fr_215 {w : mT} {σ : mS} {a1 : Int32}  {D : Nat} {K : Int64 → Hp → Prop} (hw : lit w) (hF : frO σ) (hD : 3 ≤ D) : wpL D 215 [.ref 81, .int a1] (mW w σ) K ↔ K (-1) (mW w σ) := by
  have hG := hF
  unfold frO at hF
  have hU : uI σ 81 0 0 = σ := uI_same hF.1
  refine cL_of (m := 2) (fun d hd Q hQ => ?_) rfl hD
  have hd1 : 1 ≤ d := by omega
  have hd2 : 2 ≤ d := by omega
  refine b215_0 ?_
  simp only [↓rF_I, ↓rF_L, ↓rF_R, ↓rF_N, rO_m, rB_m, ↓rI_m, wI_m, ↓rB2_m, ↓rB3_m, wB2_m, wB3_m, ↓rL_m, wL_m, ↓rQ_m, wQ_m, ↓lI_m, pI_m, pL_m, pR_m, sI_m, sBy_m, sBo_m, sL_m, sQ_m, fst_m, true_and, and_true, tg_some, ln_some, uI_1, uI_2, uL_1, uL_2, uL_3, uQ_1, uQ_2, uQ_3, rv_i, rv_l, rv_n, rv_b0, rv_b1, RMR, ne_eq, reduceCtorEq, not_false_eq_true, Option.getD_some, if_true, if_false, and_self, false_and, and_false, Nat.add_left_cancel_iff, Nat.add_eq_left, Nat.left_eq_add, Nat.one_ne_zero, Nat.reduceAdd, Nat.reduceLT, Nat.reduceLeDiff, Nat.reduceEqDiff, RCX 0, RCG 2, RCT 4, RCT 15, RCT 25, RCS 35, RCS 49, RCH 63, RCP 67, RCB 72, RCR 77, RCM 81, RLY, lit_at hw, hd1, hd2, le_10, lt_m1, hF, hU, brT, brF, br_s, i_10, i_01, fr_129, fr_128, vin_z0, vin_z1, vin_z2, vin_z3, vin_z4, vin_z5, rv_vin, tn_0, tn_1, tn_2, tn_3, inB_102_0, inB_102_1, inB_102_2, inB_102_3, Int32.le_refl, eq_self, inB_2471_0, inB_2471_1, inB_2471_2, inB_2471_3, inB_2471_4, inB_2471_5, inB_2471_6, inB_2471_7, inB_2471_8, inB_2471_9, inB_2471_10, inB_2471_11, inB_2471_12, inB_2471_13, inB_2471_14, inB_2471_15, inB_2471_16, fr_152 hw hG]
  exact hQ
theorem fr_216 {w : mT} {σ : mS}   {D : Nat} {K : Int64 → Hp → Prop} (hw : lit w) (hF : frO σ) (hD : 1 ≤ D) : wpL D 216 [.ref 81] (mW w σ) K ↔ K (1) (mW w σ) := by
  have hG := hF
  unfold frO at hF
  have hU : uI σ 81 0 0 = σ := uI_same hF.1
  refine cL_of (m := 0) (fun d hd Q hQ => ?_) rfl hD

  refine b216_0 ?_
  simp only [↓rF_I, ↓rF_L, ↓rF_R, ↓rF_N, rO_m, rB_m, ↓rI_m, wI_m, ↓rB2_m, ↓rB3_m, wB2_m, wB3_m, ↓rL_m, wL_m, ↓rQ_m, wQ_m, ↓lI_m, pI_m, pL_m, pR_m, sI_m, sBy_m, sBo_m, sL_m, sQ_m, fst_m, true_and, and_true, tg_some, ln_some, uI_1, uI_2, uL_1, uL_2, uL_3, uQ_1, uQ_2, uQ_3, rv_i, rv_l, rv_n, rv_b0, rv_b1, RMR, ne_eq, reduceCtorEq, not_false_eq_true, Option.getD_some, if_true, if_false, and_self, false_and, and_false, Nat.add_left_cancel_iff, Nat.add_eq_left, Nat.left_eq_add, Nat.one_ne_zero, Nat.reduceAdd, Nat.reduceLT, Nat.reduceLeDiff, Nat.reduceEqDiff, RCX 0, RCG 2, RCT 4, RCT 15, RCT 25, RCS 35, RCS 49, RCH 63, RCP 67, RCB 72, RCR 77, RCM 81, RLY, lit_at hw, le_10, lt_m1, hF, hU, brT, brF, br_s, i_10, i_01, fr_129, fr_128, vin_z0, vin_z1, vin_z2, vin_z3, vin_z4, vin_z5, rv_vin, tn_0, tn_1, tn_2, tn_3, inB_102_0, inB_102_1, inB_102_2, inB_102_3, Int32.le_refl, eq_self, inB_2471_0, inB_2471_1, inB_2471_2, inB_2471_3, inB_2471_4, inB_2471_5, inB_2471_6, inB_2471_7, inB_2471_8, inB_2471_9, inB_2471_10, inB_2471_11, inB_2471_12, inB_2471_13, inB_2471_14, inB_2471_15, inB_2471_16]
  exact hQ
theorem fr_217 {w : mT} {σ : mS} {a1 : Int32} {a2 : Int32} {a3 : Int32} {a4 : Int32} {a5 : Int32} {a6 : Int32}  {D : Nat} {K : Int32 → Hp → Prop} (hw : lit w) (hF : frO σ) (hD : 6 ≤ D) : wpI D 217 [.ref 81, .int a1, .int a2, .int a3, .int a4, .int a5, .int a6] (mW w σ) K ↔ K (-1) (mW w σ) := by
  have hG := hF
  unfold frO at hF
  have hU : uI σ 81 0 0 = σ := uI_same hF.1
  refine cI_of (m := 5) (fun d hd Q hQ => ?_) rfl hD
  have hd1 : 1 ≤ d := by omega
  have hd2 : 2 ≤ d := by omega
  have hd3 : 3 ≤ d := by omega
  have hd4 : 4 ≤ d := by omega
  have hd5 : 5 ≤ d := by omega
  refine b217_0 ?_
  simp only [↓rF_I, ↓rF_L, ↓rF_R, ↓rF_N, rO_m, rB_m, ↓rI_m, wI_m, ↓rB2_m, ↓rB3_m, wB2_m, wB3_m, ↓rL_m, wL_m, ↓rQ_m, wQ_m, ↓lI_m, pI_m, pL_m, pR_m, sI_m, sBy_m, sBo_m, sL_m, sQ_m, fst_m, true_and, and_true, tg_some, ln_some, uI_1, uI_2, uL_1, uL_2, uL_3, uQ_1, uQ_2, uQ_3, rv_i, rv_l, rv_n, rv_b0, rv_b1, RMR, ne_eq, reduceCtorEq, not_false_eq_true, Option.getD_some, if_true, if_false, and_self, false_and, and_false, Nat.add_left_cancel_iff, Nat.add_eq_left, Nat.left_eq_add, Nat.one_ne_zero, Nat.reduceAdd, Nat.reduceLT, Nat.reduceLeDiff, Nat.reduceEqDiff, RCX 0, RCG 2, RCT 4, RCT 15, RCT 25, RCS 35, RCS 49, RCH 63, RCP 67, RCB 72, RCR 77, RCM 81, RLY, lit_at hw, hd1, hd2, hd3, hd4, hd5, le_10, lt_m1, hF, hU, brT, brF, br_s, i_10, i_01, fr_129, fr_128, vin_z0, vin_z1, vin_z2, vin_z3, vin_z4, vin_z5, rv_vin, tn_0, tn_1, tn_2, tn_3, inB_102_0, inB_102_1, inB_102_2, inB_102_3, Int32.le_refl, eq_self, inB_2471_0, inB_2471_1, inB_2471_2, inB_2471_3, inB_2471_4, inB_2471_5, inB_2471_6, inB_2471_7, inB_2471_8, inB_2471_9, inB_2471_10, inB_2471_11, inB_2471_12, inB_2471_13, inB_2471_14, inB_2471_15, inB_2471_16, fr_154 hw hG]
  exact hQ
theorem fr_222 {w : mT} {σ : mS}   {D : Nat} {K : Int64 → Hp → Prop} (hw : lit w) (hF : frO σ) (hD : 1 ≤ D) : wpL D 222 [.ref 81] (mW w σ) K ↔ K (1) (mW w σ) := by
  have hG := hF
  unfold frO at hF
  have hU : uI σ 81 0 0 = σ := uI_same hF.1
  refine cL_of (m := 0) (fun d hd Q hQ => ?_) rfl hD

  refine b222_0 ?_
  simp only [↓rF_I, ↓rF_L, ↓rF_R, ↓rF_N, rO_m, rB_m, ↓rI_m, wI_m, ↓rB2_m, ↓rB3_m, wB2_m, wB3_m, ↓rL_m, wL_m, ↓rQ_m, wQ_m, ↓lI_m, pI_m, pL_m, pR_m, sI_m, sBy_m, sBo_m, sL_m, sQ_m, fst_m, true_and, and_true, tg_some, ln_some, uI_1, uI_2, uL_1, uL_2, uL_3, uQ_1, uQ_2, uQ_3, rv_i, rv_l, rv_n, rv_b0, rv_b1, RMR, ne_eq, reduceCtorEq, not_false_eq_true, Option.getD_some, if_true, if_false, and_self, false_and, and_false, Nat.add_left_cancel_iff, Nat.add_eq_left, Nat.left_eq_add, Nat.one_ne_zero, Nat.reduceAdd, Nat.reduceLT, Nat.reduceLeDiff, Nat.reduceEqDiff, RCX 0, RCG 2, RCT 4, RCT 15, RCT 25, RCS 35, RCS 49, RCH 63, RCP 67, RCB 72, RCR 77, RCM 81, RLY, lit_at hw, le_10, lt_m1, hF, hU, brT, brF, br_s, i_10, i_01, fr_129, fr_128, vin_z0, vin_z1, vin_z2, vin_z3, vin_z4, vin_z5, rv_vin, tn_0, tn_1, tn_2, tn_3, inB_102_0, inB_102_1, inB_102_2, inB_102_3, Int32.le_refl, eq_self, inB_2471_0, inB_2471_1, inB_2471_2, inB_2471_3, inB_2471_4, inB_2471_5, inB_2471_6, inB_2471_7, inB_2471_8, inB_2471_9, inB_2471_10, inB_2471_11, inB_2471_12, inB_2471_13, inB_2471_14, inB_2471_15, inB_2471_16]
  exact hQ
theorem fr_223 {w : mT} {σ : mS} {a1 : Int32} {a2 : Int32} {a3 : Int32}  {D : Nat} {K : Int32 → Hp → Prop} (hw : lit w) (hF : frO σ) (hD : 3 ≤ D) : wpI D 223 [.ref 81, .int a1, .int a2, .int a3] (mW w σ) K ↔ K (-1) (mW w σ) := by
  have hG := hF
  unfold frO at hF
  have hU : uI σ 81 0 0 = σ := uI_same hF.1
  refine cI_of (m := 2) (fun d hd Q hQ => ?_) rfl hD
  have hd1 : 1 ≤ d := by omega
  have hd2 : 2 ≤ d := by omega
  refine b223_0 ?_
  simp only [↓rF_I, ↓rF_L, ↓rF_R, ↓rF_N, rO_m, rB_m, ↓rI_m, wI_m, ↓rB2_m, ↓rB3_m, wB2_m, wB3_m, ↓rL_m, wL_m, ↓rQ_m, wQ_m, ↓lI_m, pI_m, pL_m, pR_m, sI_m, sBy_m, sBo_m, sL_m, sQ_m, fst_m, true_and, and_true, tg_some, ln_some, uI_1, uI_2, uL_1, uL_2, uL_3, uQ_1, uQ_2, uQ_3, rv_i, rv_l, rv_n, rv_b0, rv_b1, RMR, ne_eq, reduceCtorEq, not_false_eq_true, Option.getD_some, if_true, if_false, and_self, false_and, and_false, Nat.add_left_cancel_iff, Nat.add_eq_left, Nat.left_eq_add, Nat.one_ne_zero, Nat.reduceAdd, Nat.reduceLT, Nat.reduceLeDiff, Nat.reduceEqDiff, RCX 0, RCG 2, RCT 4, RCT 15, RCT 25, RCS 35, RCS 49, RCH 63, RCP 67, RCB 72, RCR 77, RCM 81, RLY, lit_at hw, hd1, hd2, le_10, lt_m1, hF, hU, brT, brF, br_s, i_10, i_01, fr_129, fr_128, vin_z0, vin_z1, vin_z2, vin_z3, vin_z4, vin_z5, rv_vin, tn_0, tn_1, tn_2, tn_3, inB_102_0, inB_102_1, inB_102_2, inB_102_3, Int32.le_refl, eq_self, inB_2471_0, inB_2471_1, inB_2471_2, inB_2471_3, inB_2471_4, inB_2471_5, inB_2471_6, inB_2471_7, inB_2471_8, inB_2471_9, inB_2471_10, inB_2471_11, inB_2471_12, inB_2471_13, inB_2471_14, inB_2471_15, inB_2471_16, fr_152 hw hG]
  exact hQ
theorem fr_227 {w : mT} {σ : mS} {a1 : Int32} {a2 : Int32} {a3 : Int32}  {D : Nat} {K : Int32 → Hp → Prop} (hw : lit w) (hF : frO σ) (hD : 4 ≤ D) : wpI D 227 [.ref 81, .int a1, .int a2, .int a3] (mW w σ) K ↔ K (-1) (mW w σ) := by
  have hG := hF
  unfold frO at hF
  have hU : uI σ 81 0 0 = σ := uI_same hF.1
  refine cI_of (m := 3) (fun d hd Q hQ => ?_) rfl hD
  have hd1 : 1 ≤ d := by omega
  have hd2 : 2 ≤ d := by omega
  have hd3 : 3 ≤ d := by omega
  refine b227_0 ?_
  simp only [↓rF_I, ↓rF_L, ↓rF_R, ↓rF_N, rO_m, rB_m, ↓rI_m, wI_m, ↓rB2_m, ↓rB3_m, wB2_m, wB3_m, ↓rL_m, wL_m, ↓rQ_m, wQ_m, ↓lI_m, pI_m, pL_m, pR_m, sI_m, sBy_m, sBo_m, sL_m, sQ_m, fst_m, true_and, and_true, tg_some, ln_some, uI_1, uI_2, uL_1, uL_2, uL_3, uQ_1, uQ_2, uQ_3, rv_i, rv_l, rv_n, rv_b0, rv_b1, RMR, ne_eq, reduceCtorEq, not_false_eq_true, Option.getD_some, if_true, if_false, and_self, false_and, and_false, Nat.add_left_cancel_iff, Nat.add_eq_left, Nat.left_eq_add, Nat.one_ne_zero, Nat.reduceAdd, Nat.reduceLT, Nat.reduceLeDiff, Nat.reduceEqDiff, RCX 0, RCG 2, RCT 4, RCT 15, RCT 25, RCS 35, RCS 49, RCH 63, RCP 67, RCB 72, RCR 77, RCM 81, RLY, lit_at hw, hd1, hd2, hd3, le_10, lt_m1, hF, hU, brT, brF, br_s, i_10, i_01, fr_129, fr_128, vin_z0, vin_z1, vin_z2, vin_z3, vin_z4, vin_z5, rv_vin, tn_0, tn_1, tn_2, tn_3, inB_102_0, inB_102_1, inB_102_2, inB_102_3, Int32.le_refl, eq_self, inB_2471_0, inB_2471_1, inB_2471_2, inB_2471_3, inB_2471_4, inB_2471_5, inB_2471_6, inB_2471_7, inB_2471_8, inB_2471_9, inB_2471_10, inB_2471_11, inB_2471_12, inB_2471_13, inB_2471_14, inB_2471_15, inB_2471_16, fr_153 hw hG]
  exact hQ
theorem fr_235 {w : mT} {σ : mS} {a1 : Int32}  {D : Nat} {K : Int32 → Hp → Prop} (hw : lit w) (hF : frO σ) (hD : 4 ≤ D) : wpI D 235 [.ref 81, .int a1] (mW w σ) K ↔ K (-1) (mW w σ) := by
  have hG := hF
  unfold frO at hF
  have hU : uI σ 81 0 0 = σ := uI_same hF.1
  refine cI_of (m := 3) (fun d hd Q hQ => ?_) rfl hD
  have hd1 : 1 ≤ d := by omega
  have hd2 : 2 ≤ d := by omega
  have hd3 : 3 ≤ d := by omega
  refine b235_0 ?_
  simp only [↓rF_I, ↓rF_L, ↓rF_R, ↓rF_N, rO_m, rB_m, ↓rI_m, wI_m, ↓rB2_m, ↓rB3_m, wB2_m, wB3_m, ↓rL_m, wL_m, ↓rQ_m, wQ_m, ↓lI_m, pI_m, pL_m, pR_m, sI_m, sBy_m, sBo_m, sL_m, sQ_m, fst_m, true_and, and_true, tg_some, ln_some, uI_1, uI_2, uL_1, uL_2, uL_3, uQ_1, uQ_2, uQ_3, rv_i, rv_l, rv_n, rv_b0, rv_b1, RMR, ne_eq, reduceCtorEq, not_false_eq_true, Option.getD_some, if_true, if_false, and_self, false_and, and_false, Nat.add_left_cancel_iff, Nat.add_eq_left, Nat.left_eq_add, Nat.one_ne_zero, Nat.reduceAdd, Nat.reduceLT, Nat.reduceLeDiff, Nat.reduceEqDiff, RCX 0, RCG 2, RCT 4, RCT 15, RCT 25, RCS 35, RCS 49, RCH 63, RCP 67, RCB 72, RCR 77, RCM 81, RLY, lit_at hw, hd1, hd2, hd3, le_10, lt_m1, hF, hU, brT, brF, br_s, i_10, i_01, fr_129, fr_128, vin_z0, vin_z1, vin_z2, vin_z3, vin_z4, vin_z5, rv_vin, tn_0, tn_1, tn_2, tn_3, inB_102_0, inB_102_1, inB_102_2, inB_102_3, Int32.le_refl, eq_self, inB_2471_0, inB_2471_1, inB_2471_2, inB_2471_3, inB_2471_4, inB_2471_5, inB_2471_6, inB_2471_7, inB_2471_8, inB_2471_9, inB_2471_10, inB_2471_11, inB_2471_12, inB_2471_13, inB_2471_14, inB_2471_15, inB_2471_16, fr_153 hw hG]
  exact hQ
