theorem nr_0 : (0 : Int32) ≤ (0 : Int32) * 60 + 0 ↔ True := by decide
theorem nq_0 : (0 : Int32) ≤ ((0 : Int32) * 60 + 0) * 12 + 0 ↔ True := by decide
theorem tr_0 : ((0 : Int32) * 60 + 0).toNatClampNeg = 0 := by decide
theorem tq_0 : (((0 : Int32) * 60 + 0) * 12 + 0).toNatClampNeg = 0 := by decide
theorem ib3_0 : inB (0 : Int32) 3 = true := by decide
theorem l3_0 : (3 : Int32) ≤ (0 : Int32) ↔ False := by decide
theorem nr_1 : (0 : Int32) ≤ ((0 : Int32) + 1) * 60 + 0 ↔ True := by decide
theorem nq_1 : (0 : Int32) ≤ (((0 : Int32) + 1) * 60 + 0) * 12 + 0 ↔ True := by decide
theorem tr_1 : (((0 : Int32) + 1) * 60 + 0).toNatClampNeg = 60 := by decide
theorem tq_1 : ((((0 : Int32) + 1) * 60 + 0) * 12 + 0).toNatClampNeg = 720 := by decide
theorem ib3_1 : inB ((0 : Int32) + 1) 3 = true := by decide
theorem l3_1 : (3 : Int32) ≤ ((0 : Int32) + 1) ↔ False := by decide
theorem nr_2 : (0 : Int32) ≤ ((0 : Int32) + 1 + 1) * 60 + 0 ↔ True := by decide
theorem nq_2 : (0 : Int32) ≤ (((0 : Int32) + 1 + 1) * 60 + 0) * 12 + 0 ↔ True := by decide
theorem tr_2 : (((0 : Int32) + 1 + 1) * 60 + 0).toNatClampNeg = 120 := by decide
theorem tq_2 : ((((0 : Int32) + 1 + 1) * 60 + 0) * 12 + 0).toNatClampNeg = 1440 := by decide
theorem ib3_2 : inB ((0 : Int32) + 1 + 1) 3 = true := by decide
theorem l3_2 : (3 : Int32) ≤ ((0 : Int32) + 1 + 1) ↔ False := by decide
theorem l3_3 : (3 : Int32) ≤ (0 : Int32) + 1 + 1 + 1 ↔ True := by decide
theorem z12 : (0 : Int32) * 12 = 0 := by decide
theorem nn_12 : (0 : Int32) ≤ 12 ↔ True := by decide
theorem nn_3 : (0 : Int32) ≤ 3 ↔ True := by decide
theorem nn_8 : (0 : Int32) ≤ 8 ↔ True := by decide
theorem nn_2 : (0 : Int32) ≤ 2 ↔ True := by decide
theorem nn_96 : (0 : Int32) ≤ 96 ↔ True := by decide
theorem tn_96' : Int32.toNatClampNeg (Int32.ofNat 96) = 96 := by decide
theorem nn_96' : (0 : Int32) ≤ Int32.ofNat 96 ↔ True := by decide
theorem uC_1 {σ : mS} {a0 sp a1 dp n a j : Nat} : (uC σ a0 sp a1 dp n).1 a j = if a = a1 then va_cpy (σ.1 a0) (σ.1 a1) sp dp n j else σ.1 a j := rfl
theorem uC_2 {σ : mS} {a0 sp a1 dp n : Nat} : (uC σ a0 sp a1 dp n).2 = σ.2 := rfl
theorem uC_0 {σ : mS} {a0 sp a1 dp : Nat} : uC σ a0 sp a1 dp 0 = σ := by
  refine Prod.ext (funext fun a => funext fun j => ?_) rfl
  rw [uC_1]
  split
  · rename_i h; subst h; unfold va_cpy; rw [if_neg (by omega)]
  · rfl
theorem cpy_z {f g : Nat → Int32} {sp dp n j : Nat} (hf : ∀ j, f j = 0) (hg : ∀ j, g j = 0) : va_cpy f g sp dp n j = 0 := by
  unfold va_cpy; split
  · exact hf _
  · exact hg _
theorem fr_50 {w : mT} {σ : mS} {a0 a1 : Int32} {D : Nat} {K : Int32 → Hp → Prop} (hD : 1 ≤ D) : wpI D 50 [.int a0, .int a1] (mW w σ) K ↔ K (a0 * 60 + a1) (mW w σ) :=
  cI_of (m := 0) (fun d hd Q hQ => b50_0 ⟨rfl, hQ⟩) rfl hD
theorem fr_51 {w : mT} {σ : mS} {a0 a1 a2 : Int32} {D : Nat} {K : Int32 → Hp → Prop} (hD : 1 ≤ D) : wpI D 51 [.int a0, .int a1, .int a2] (mW w σ) K ↔ K ((a0 * 60 + a1) * 12 + a2) (mW w σ) :=
  cI_of (m := 0) (fun d hd Q hQ => b51_0 ⟨rfl, hQ⟩) rfl hD
theorem Nle_0 {a b : Nat} : (a + 0 ≤ b) = (a ≤ b) := rfl
def cpy49 (σ : mS) : mS := (uC (uC (uC (uC (uC (uC (uC (uC (uC (uC (uC (uI (uI σ 49 0 (σ.1 35 0)) 49 1 (σ.1 35 1)) 36 0 50 0 12) 37 0 51 0 3) 40 0 54 0 8) 41 0 55 0 8) 42 0 56 0 8) 43 0 57 0 2) 44 0 58 0 2) 45 0 59 0 2) 46 0 60 0 2) 47 0 61 0 2) 48 0 62 0 96)
theorem fr_49_49 {w : mT} {σ : mS} {D : Nat} {K : Hp → Prop} (hw : lit w) (hS : isS w 49) (hz : ∀ j, σ.1 37 j = 0) (hz2 : ∀ j, σ.1 51 j = 0) (hD : 2 ≤ D) : wpV D 49 [.ref 49, .ref 35] (mW w σ) K ↔ K (mW w (cpy49 σ)) := by
  simp only [isS, Nat.reduceAdd] at hS
  refine cV_of (m := 1) (fun d hd Q hQ => ?_) rfl hD
  have hd1 : 1 ≤ d := hd
  refine b49_0 ?_
  simp only [↓rF_I, ↓rF_L, ↓rF_R, ↓rF_N, rO_m, rB_m, ↓rI_m, wI_m, ↓rB2_m, ↓rB3_m, wB2_m, wB3_m, ↓rL_m, wL_m, ↓rQ_m, wQ_m, ↓lI_m, pI_m, pL_m, pR_m, sI_m, sBy_m, sBo_m, sL_m, sQ_m, fst_m, true_and, and_true, tg_some, ln_some, uI_1, uI_2, uL_1, uL_2, uL_3, uQ_1, uQ_2, uQ_3, rv_i, rv_l, rv_n, rv_b0, rv_b1, RMR, ne_eq, reduceCtorEq, not_false_eq_true, Option.getD_some, if_true, if_false, and_self, false_and, and_false, Nat.add_left_cancel_iff, Nat.add_eq_left, Nat.left_eq_add, Nat.one_ne_zero, Nat.reduceAdd, Nat.reduceLT, Nat.reduceLeDiff, Nat.reduceEqDiff, RCX 0, RCG 2, RCT 4, RCT 15, RCT 25, RCS 35, RCS 49, RCH 63, RCP 67, RCB 72, RCR 77, RCM 81, RLY, lit_at hw, true_implies, false_implies, implies_true, Option.some.injEq, forall_eq', forall_eq, reduceCtorEq, brT, brF, br_s, i_10, i_01, ib_0_2, ib_1_2, tn_0, tn_1, Int32.le_refl, eq_self, RCS 49, hS, uC_1, uC_2, uC_0, cpy_z, cI_m, sC_m, Nat.add_zero, Nat.zero_add, Nat.le_refl, forall_const, nr_0, nq_0, tr_0, tq_0, ib3_0, l3_0, nr_1, nq_1, tr_1, tq_1, ib3_1, l3_1, nr_2, nq_2, tr_2, tq_2, ib3_2, l3_2, l3_3, z12, nn_12, nn_3, nn_8, nn_2, nn_96, tn_96', nn_96', tn_2, tn_3, tn_8, tn_12, tn_96, hz, hz2]
  refine b49_47 ?_
  simp only [↓rF_I, ↓rF_L, ↓rF_R, ↓rF_N, rO_m, rB_m, ↓rI_m, wI_m, ↓rB2_m, ↓rB3_m, wB2_m, wB3_m, ↓rL_m, wL_m, ↓rQ_m, wQ_m, ↓lI_m, pI_m, pL_m, pR_m, sI_m, sBy_m, sBo_m, sL_m, sQ_m, fst_m, true_and, and_true, tg_some, ln_some, uI_1, uI_2, uL_1, uL_2, uL_3, uQ_1, uQ_2, uQ_3, rv_i, rv_l, rv_n, rv_b0, rv_b1, RMR, ne_eq, reduceCtorEq, not_false_eq_true, Option.getD_some, if_true, if_false, and_self, false_and, and_false, Nat.add_left_cancel_iff, Nat.add_eq_left, Nat.left_eq_add, Nat.one_ne_zero, Nat.reduceAdd, Nat.reduceLT, Nat.reduceLeDiff, Nat.reduceEqDiff, RCX 0, RCG 2, RCT 4, RCT 15, RCT 25, RCS 35, RCS 49, RCH 63, RCP 67, RCB 72, RCR 77, RCM 81, RLY, lit_at hw, true_implies, false_implies, implies_true, Option.some.injEq, forall_eq', forall_eq, reduceCtorEq, brT, brF, br_s, i_10, i_01, ib_0_2, ib_1_2, tn_0, tn_1, Int32.le_refl, eq_self, RCS 49, hS, uC_1, uC_2, uC_0, cpy_z, cI_m, sC_m, Nat.add_zero, Nat.zero_add, Nat.le_refl, forall_const, nr_0, nq_0, tr_0, tq_0, ib3_0, l3_0, nr_1, nq_1, tr_1, tq_1, ib3_1, l3_1, nr_2, nq_2, tr_2, tq_2, ib3_2, l3_2, l3_3, z12, nn_12, nn_3, nn_8, nn_2, nn_96, tn_96', nn_96', tn_2, tn_3, tn_8, tn_12, tn_96, hz, hz2, fr_50, fr_51, hd1]
  refine b49_47a ?_
  simp only [↓rF_I, ↓rF_L, ↓rF_R, ↓rF_N, rO_m, rB_m, ↓rI_m, wI_m, ↓rB2_m, ↓rB3_m, wB2_m, wB3_m, ↓rL_m, wL_m, ↓rQ_m, wQ_m, ↓lI_m, pI_m, pL_m, pR_m, sI_m, sBy_m, sBo_m, sL_m, sQ_m, fst_m, true_and, and_true, tg_some, ln_some, uI_1, uI_2, uL_1, uL_2, uL_3, uQ_1, uQ_2, uQ_3, rv_i, rv_l, rv_n, rv_b0, rv_b1, RMR, ne_eq, reduceCtorEq, not_false_eq_true, Option.getD_some, if_true, if_false, and_self, false_and, and_false, Nat.add_left_cancel_iff, Nat.add_eq_left, Nat.left_eq_add, Nat.one_ne_zero, Nat.reduceAdd, Nat.reduceLT, Nat.reduceLeDiff, Nat.reduceEqDiff, RCX 0, RCG 2, RCT 4, RCT 15, RCT 25, RCS 35, RCS 49, RCH 63, RCP 67, RCB 72, RCR 77, RCM 81, RLY, lit_at hw, true_implies, false_implies, implies_true, Option.some.injEq, forall_eq', forall_eq, reduceCtorEq, brT, brF, br_s, i_10, i_01, ib_0_2, ib_1_2, tn_0, tn_1, Int32.le_refl, eq_self, RCS 49, hS, uC_1, uC_2, uC_0, cpy_z, cI_m, sC_m, Nat.add_zero, Nat.zero_add, Nat.le_refl, forall_const, nr_0, nq_0, tr_0, tq_0, ib3_0, l3_0, nr_1, nq_1, tr_1, tq_1, ib3_1, l3_1, nr_2, nq_2, tr_2, tq_2, ib3_2, l3_2, l3_3, z12, nn_12, nn_3, nn_8, nn_2, nn_96, tn_96', nn_96', tn_2, tn_3, tn_8, tn_12, tn_96, hz, hz2, fr_50, fr_51, hd1]
  refine b49_47a ?_
  simp only [↓rF_I, ↓rF_L, ↓rF_R, ↓rF_N, rO_m, rB_m, ↓rI_m, wI_m, ↓rB2_m, ↓rB3_m, wB2_m, wB3_m, ↓rL_m, wL_m, ↓rQ_m, wQ_m, ↓lI_m, pI_m, pL_m, pR_m, sI_m, sBy_m, sBo_m, sL_m, sQ_m, fst_m, true_and, and_true, tg_some, ln_some, uI_1, uI_2, uL_1, uL_2, uL_3, uQ_1, uQ_2, uQ_3, rv_i, rv_l, rv_n, rv_b0, rv_b1, RMR, ne_eq, reduceCtorEq, not_false_eq_true, Option.getD_some, if_true, if_false, and_self, false_and, and_false, Nat.add_left_cancel_iff, Nat.add_eq_left, Nat.left_eq_add, Nat.one_ne_zero, Nat.reduceAdd, Nat.reduceLT, Nat.reduceLeDiff, Nat.reduceEqDiff, RCX 0, RCG 2, RCT 4, RCT 15, RCT 25, RCS 35, RCS 49, RCH 63, RCP 67, RCB 72, RCR 77, RCM 81, RLY, lit_at hw, true_implies, false_implies, implies_true, Option.some.injEq, forall_eq', forall_eq, reduceCtorEq, brT, brF, br_s, i_10, i_01, ib_0_2, ib_1_2, tn_0, tn_1, Int32.le_refl, eq_self, RCS 49, hS, uC_1, uC_2, uC_0, cpy_z, cI_m, sC_m, Nat.add_zero, Nat.zero_add, Nat.le_refl, forall_const, nr_0, nq_0, tr_0, tq_0, ib3_0, l3_0, nr_1, nq_1, tr_1, tq_1, ib3_1, l3_1, nr_2, nq_2, tr_2, tq_2, ib3_2, l3_2, l3_3, z12, nn_12, nn_3, nn_8, nn_2, nn_96, tn_96', nn_96', tn_2, tn_3, tn_8, tn_12, tn_96, hz, hz2, fr_50, fr_51, hd1]
  refine b49_47a ?_
  simp only [↓rF_I, ↓rF_L, ↓rF_R, ↓rF_N, rO_m, rB_m, ↓rI_m, wI_m, ↓rB2_m, ↓rB3_m, wB2_m, wB3_m, ↓rL_m, wL_m, ↓rQ_m, wQ_m, ↓lI_m, pI_m, pL_m, pR_m, sI_m, sBy_m, sBo_m, sL_m, sQ_m, fst_m, true_and, and_true, tg_some, ln_some, uI_1, uI_2, uL_1, uL_2, uL_3, uQ_1, uQ_2, uQ_3, rv_i, rv_l, rv_n, rv_b0, rv_b1, RMR, ne_eq, reduceCtorEq, not_false_eq_true, Option.getD_some, if_true, if_false, and_self, false_and, and_false, Nat.add_left_cancel_iff, Nat.add_eq_left, Nat.left_eq_add, Nat.one_ne_zero, Nat.reduceAdd, Nat.reduceLT, Nat.reduceLeDiff, Nat.reduceEqDiff, RCX 0, RCG 2, RCT 4, RCT 15, RCT 25, RCS 35, RCS 49, RCH 63, RCP 67, RCB 72, RCR 77, RCM 81, RLY, lit_at hw, true_implies, false_implies, implies_true, Option.some.injEq, forall_eq', forall_eq, reduceCtorEq, brT, brF, br_s, i_10, i_01, ib_0_2, ib_1_2, tn_0, tn_1, Int32.le_refl, eq_self, RCS 49, hS, uC_1, uC_2, uC_0, cpy_z, cI_m, sC_m, Nat.add_zero, Nat.zero_add, Nat.le_refl, forall_const, nr_0, nq_0, tr_0, tq_0, ib3_0, l3_0, nr_1, nq_1, tr_1, tq_1, ib3_1, l3_1, nr_2, nq_2, tr_2, tq_2, ib3_2, l3_2, l3_3, z12, nn_12, nn_3, nn_8, nn_2, nn_96, tn_96', nn_96', tn_2, tn_3, tn_8, tn_12, tn_96, hz, hz2, fr_50, fr_51, hd1]
  exact hQ
theorem cpy49_ne {σ : mS} {a : Nat} (h : a < 49 ∨ 63 ≤ a) : (cpy49 σ).1 a = σ.1 a := by
  have g0 : ¬ a = 49 := by omega
  have g1 : ¬ a = 50 := by omega
  have g2 : ¬ a = 51 := by omega
  have g3 : ¬ a = 52 := by omega
  have g4 : ¬ a = 53 := by omega
  have g5 : ¬ a = 54 := by omega
  have g6 : ¬ a = 55 := by omega
  have g7 : ¬ a = 56 := by omega
  have g8 : ¬ a = 57 := by omega
  have g9 : ¬ a = 58 := by omega
  have g10 : ¬ a = 59 := by omega
  have g11 : ¬ a = 60 := by omega
  have g12 : ¬ a = 61 := by omega
  have g13 : ¬ a = 62 := by omega
  funext j
  simp only [cpy49, uC_1, uI_1, g0, g1, g2, g3, g4, g5, g6, g7, g8, g9, g10, g11, g12, g13, if_false, false_and]
theorem cpy49_2 {σ : mS} : (cpy49 σ).2 = σ.2 := rfl
def cpy99 (σ : mS) : mS := (uC (uC (uC (uC (uC (uC (uC (uC (uC (uC (uC (uI (uI σ 99 0 (σ.1 35 0)) 99 1 (σ.1 35 1)) 36 0 100 0 12) 37 0 101 0 3) 40 0 104 0 8) 41 0 105 0 8) 42 0 106 0 8) 43 0 107 0 2) 44 0 108 0 2) 45 0 109 0 2) 46 0 110 0 2) 47 0 111 0 2) 48 0 112 0 96)
theorem fr_49_99 {w : mT} {σ : mS} {D : Nat} {K : Hp → Prop} (hw : lit w) (hS : isS w 99) (hz : ∀ j, σ.1 37 j = 0) (hz2 : ∀ j, σ.1 101 j = 0) (hD : 2 ≤ D) : wpV D 49 [.ref 99, .ref 35] (mW w σ) K ↔ K (mW w (cpy99 σ)) := by
  simp only [isS, Nat.reduceAdd] at hS
  refine cV_of (m := 1) (fun d hd Q hQ => ?_) rfl hD
  have hd1 : 1 ≤ d := hd
  refine b49_0 ?_
  simp only [↓rF_I, ↓rF_L, ↓rF_R, ↓rF_N, rO_m, rB_m, ↓rI_m, wI_m, ↓rB2_m, ↓rB3_m, wB2_m, wB3_m, ↓rL_m, wL_m, ↓rQ_m, wQ_m, ↓lI_m, pI_m, pL_m, pR_m, sI_m, sBy_m, sBo_m, sL_m, sQ_m, fst_m, true_and, and_true, tg_some, ln_some, uI_1, uI_2, uL_1, uL_2, uL_3, uQ_1, uQ_2, uQ_3, rv_i, rv_l, rv_n, rv_b0, rv_b1, RMR, ne_eq, reduceCtorEq, not_false_eq_true, Option.getD_some, if_true, if_false, and_self, false_and, and_false, Nat.add_left_cancel_iff, Nat.add_eq_left, Nat.left_eq_add, Nat.one_ne_zero, Nat.reduceAdd, Nat.reduceLT, Nat.reduceLeDiff, Nat.reduceEqDiff, RCX 0, RCG 2, RCT 4, RCT 15, RCT 25, RCS 35, RCS 49, RCH 63, RCP 67, RCB 72, RCR 77, RCM 81, RLY, lit_at hw, true_implies, false_implies, implies_true, Option.some.injEq, forall_eq', forall_eq, reduceCtorEq, brT, brF, br_s, i_10, i_01, ib_0_2, ib_1_2, tn_0, tn_1, Int32.le_refl, eq_self, RCS 99, hS, uC_1, uC_2, uC_0, cpy_z, cI_m, sC_m, Nat.add_zero, Nat.zero_add, Nat.le_refl, forall_const, nr_0, nq_0, tr_0, tq_0, ib3_0, l3_0, nr_1, nq_1, tr_1, tq_1, ib3_1, l3_1, nr_2, nq_2, tr_2, tq_2, ib3_2, l3_2, l3_3, z12, nn_12, nn_3, nn_8, nn_2, nn_96, tn_96', nn_96', tn_2, tn_3, tn_8, tn_12, tn_96, hz, hz2]
  refine b49_47 ?_
  simp only [↓rF_I, ↓rF_L, ↓rF_R, ↓rF_N, rO_m, rB_m, ↓rI_m, wI_m, ↓rB2_m, ↓rB3_m, wB2_m, wB3_m, ↓rL_m, wL_m, ↓rQ_m, wQ_m, ↓lI_m, pI_m, pL_m, pR_m, sI_m, sBy_m, sBo_m, sL_m, sQ_m, fst_m, true_and, and_true, tg_some, ln_some, uI_1, uI_2, uL_1, uL_2, uL_3, uQ_1, uQ_2, uQ_3, rv_i, rv_l, rv_n, rv_b0, rv_b1, RMR, ne_eq, reduceCtorEq, not_false_eq_true, Option.getD_some, if_true, if_false, and_self, false_and, and_false, Nat.add_left_cancel_iff, Nat.add_eq_left, Nat.left_eq_add, Nat.one_ne_zero, Nat.reduceAdd, Nat.reduceLT, Nat.reduceLeDiff, Nat.reduceEqDiff, RCX 0, RCG 2, RCT 4, RCT 15, RCT 25, RCS 35, RCS 49, RCH 63, RCP 67, RCB 72, RCR 77, RCM 81, RLY, lit_at hw, true_implies, false_implies, implies_true, Option.some.injEq, forall_eq', forall_eq, reduceCtorEq, brT, brF, br_s, i_10, i_01, ib_0_2, ib_1_2, tn_0, tn_1, Int32.le_refl, eq_self, RCS 99, hS, uC_1, uC_2, uC_0, cpy_z, cI_m, sC_m, Nat.add_zero, Nat.zero_add, Nat.le_refl, forall_const, nr_0, nq_0, tr_0, tq_0, ib3_0, l3_0, nr_1, nq_1, tr_1, tq_1, ib3_1, l3_1, nr_2, nq_2, tr_2, tq_2, ib3_2, l3_2, l3_3, z12, nn_12, nn_3, nn_8, nn_2, nn_96, tn_96', nn_96', tn_2, tn_3, tn_8, tn_12, tn_96, hz, hz2, fr_50, fr_51, hd1]
  refine b49_47a ?_
  simp only [↓rF_I, ↓rF_L, ↓rF_R, ↓rF_N, rO_m, rB_m, ↓rI_m, wI_m, ↓rB2_m, ↓rB3_m, wB2_m, wB3_m, ↓rL_m, wL_m, ↓rQ_m, wQ_m, ↓lI_m, pI_m, pL_m, pR_m, sI_m, sBy_m, sBo_m, sL_m, sQ_m, fst_m, true_and, and_true, tg_some, ln_some, uI_1, uI_2, uL_1, uL_2, uL_3, uQ_1, uQ_2, uQ_3, rv_i, rv_l, rv_n, rv_b0, rv_b1, RMR, ne_eq, reduceCtorEq, not_false_eq_true, Option.getD_some, if_true, if_false, and_self, false_and, and_false, Nat.add_left_cancel_iff, Nat.add_eq_left, Nat.left_eq_add, Nat.one_ne_zero, Nat.reduceAdd, Nat.reduceLT, Nat.reduceLeDiff, Nat.reduceEqDiff, RCX 0, RCG 2, RCT 4, RCT 15, RCT 25, RCS 35, RCS 49, RCH 63, RCP 67, RCB 72, RCR 77, RCM 81, RLY, lit_at hw, true_implies, false_implies, implies_true, Option.some.injEq, forall_eq', forall_eq, reduceCtorEq, brT, brF, br_s, i_10, i_01, ib_0_2, ib_1_2, tn_0, tn_1, Int32.le_refl, eq_self, RCS 99, hS, uC_1, uC_2, uC_0, cpy_z, cI_m, sC_m, Nat.add_zero, Nat.zero_add, Nat.le_refl, forall_const, nr_0, nq_0, tr_0, tq_0, ib3_0, l3_0, nr_1, nq_1, tr_1, tq_1, ib3_1, l3_1, nr_2, nq_2, tr_2, tq_2, ib3_2, l3_2, l3_3, z12, nn_12, nn_3, nn_8, nn_2, nn_96, tn_96', nn_96', tn_2, tn_3, tn_8, tn_12, tn_96, hz, hz2, fr_50, fr_51, hd1]
  refine b49_47a ?_
  simp only [↓rF_I, ↓rF_L, ↓rF_R, ↓rF_N, rO_m, rB_m, ↓rI_m, wI_m, ↓rB2_m, ↓rB3_m, wB2_m, wB3_m, ↓rL_m, wL_m, ↓rQ_m, wQ_m, ↓lI_m, pI_m, pL_m, pR_m, sI_m, sBy_m, sBo_m, sL_m, sQ_m, fst_m, true_and, and_true, tg_some, ln_some, uI_1, uI_2, uL_1, uL_2, uL_3, uQ_1, uQ_2, uQ_3, rv_i, rv_l, rv_n, rv_b0, rv_b1, RMR, ne_eq, reduceCtorEq, not_false_eq_true, Option.getD_some, if_true, if_false, and_self, false_and, and_false, Nat.add_left_cancel_iff, Nat.add_eq_left, Nat.left_eq_add, Nat.one_ne_zero, Nat.reduceAdd, Nat.reduceLT, Nat.reduceLeDiff, Nat.reduceEqDiff, RCX 0, RCG 2, RCT 4, RCT 15, RCT 25, RCS 35, RCS 49, RCH 63, RCP 67, RCB 72, RCR 77, RCM 81, RLY, lit_at hw, true_implies, false_implies, implies_true, Option.some.injEq, forall_eq', forall_eq, reduceCtorEq, brT, brF, br_s, i_10, i_01, ib_0_2, ib_1_2, tn_0, tn_1, Int32.le_refl, eq_self, RCS 99, hS, uC_1, uC_2, uC_0, cpy_z, cI_m, sC_m, Nat.add_zero, Nat.zero_add, Nat.le_refl, forall_const, nr_0, nq_0, tr_0, tq_0, ib3_0, l3_0, nr_1, nq_1, tr_1, tq_1, ib3_1, l3_1, nr_2, nq_2, tr_2, tq_2, ib3_2, l3_2, l3_3, z12, nn_12, nn_3, nn_8, nn_2, nn_96, tn_96', nn_96', tn_2, tn_3, tn_8, tn_12, tn_96, hz, hz2, fr_50, fr_51, hd1]
  refine b49_47a ?_
  simp only [↓rF_I, ↓rF_L, ↓rF_R, ↓rF_N, rO_m, rB_m, ↓rI_m, wI_m, ↓rB2_m, ↓rB3_m, wB2_m, wB3_m, ↓rL_m, wL_m, ↓rQ_m, wQ_m, ↓lI_m, pI_m, pL_m, pR_m, sI_m, sBy_m, sBo_m, sL_m, sQ_m, fst_m, true_and, and_true, tg_some, ln_some, uI_1, uI_2, uL_1, uL_2, uL_3, uQ_1, uQ_2, uQ_3, rv_i, rv_l, rv_n, rv_b0, rv_b1, RMR, ne_eq, reduceCtorEq, not_false_eq_true, Option.getD_some, if_true, if_false, and_self, false_and, and_false, Nat.add_left_cancel_iff, Nat.add_eq_left, Nat.left_eq_add, Nat.one_ne_zero, Nat.reduceAdd, Nat.reduceLT, Nat.reduceLeDiff, Nat.reduceEqDiff, RCX 0, RCG 2, RCT 4, RCT 15, RCT 25, RCS 35, RCS 49, RCH 63, RCP 67, RCB 72, RCR 77, RCM 81, RLY, lit_at hw, true_implies, false_implies, implies_true, Option.some.injEq, forall_eq', forall_eq, reduceCtorEq, brT, brF, br_s, i_10, i_01, ib_0_2, ib_1_2, tn_0, tn_1, Int32.le_refl, eq_self, RCS 99, hS, uC_1, uC_2, uC_0, cpy_z, cI_m, sC_m, Nat.add_zero, Nat.zero_add, Nat.le_refl, forall_const, nr_0, nq_0, tr_0, tq_0, ib3_0, l3_0, nr_1, nq_1, tr_1, tq_1, ib3_1, l3_1, nr_2, nq_2, tr_2, tq_2, ib3_2, l3_2, l3_3, z12, nn_12, nn_3, nn_8, nn_2, nn_96, tn_96', nn_96', tn_2, tn_3, tn_8, tn_12, tn_96, hz, hz2, fr_50, fr_51, hd1]
  exact hQ
theorem cpy99_ne {σ : mS} {a : Nat} (h : a < 99 ∨ 113 ≤ a) : (cpy99 σ).1 a = σ.1 a := by
  have g0 : ¬ a = 99 := by omega
  have g1 : ¬ a = 100 := by omega
  have g2 : ¬ a = 101 := by omega
  have g3 : ¬ a = 102 := by omega
  have g4 : ¬ a = 103 := by omega
  have g5 : ¬ a = 104 := by omega
  have g6 : ¬ a = 105 := by omega
  have g7 : ¬ a = 106 := by omega
  have g8 : ¬ a = 107 := by omega
  have g9 : ¬ a = 108 := by omega
  have g10 : ¬ a = 109 := by omega
  have g11 : ¬ a = 110 := by omega
  have g12 : ¬ a = 111 := by omega
  have g13 : ¬ a = 112 := by omega
  funext j
  simp only [cpy99, uC_1, uI_1, g0, g1, g2, g3, g4, g5, g6, g7, g8, g9, g10, g11, g12, g13, if_false, false_and]
theorem cpy99_2 {σ : mS} : (cpy99 σ).2 = σ.2 := rfl
