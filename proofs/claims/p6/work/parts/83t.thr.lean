/-! what the model threw -/
theorem m_128 {w : mT} {σ : mS} {D : Nat} {K : Int32 → Hp → Prop} (hw : lit w) (hD : 1 ≤ D) : wpI D 128 [.ref 81] (mW w σ) K ↔ K (σ.1 81 0) (mW w σ) := by
  refine cI_of (m := 0) (fun d hd Q hQ => ?_) rfl hD
  refine b128_0 ?_
  simp only [↓br_pos, ↓br_neg, ↓rF_I, ↓rF_L, ↓rF_R, ↓rF_N, rO_m, rB_m, ↓rI_m, wI_m, ↓rB2_m, ↓rB3_m, wB2_m, wB3_m, ↓rL_m, wL_m, ↓rQ_m, wQ_m, ↓lI_m, pI_m, pL_m, pR_m, sI_m, sBy_m, sBo_m, sL_m, sQ_m, fst_m, true_and, and_true, tg_some, ln_some, uI_1, uI_2, uL_1, uL_2, uL_3, uQ_1, uQ_2, uQ_3, rv_i, rv_l, rv_n, rv_b0, rv_b1, RMR, ne_eq, reduceCtorEq, not_false_eq_true, Option.getD_some, if_true, if_false, and_self, false_and, and_false, Nat.add_left_cancel_iff, Nat.add_eq_left, Nat.left_eq_add, Nat.one_ne_zero, Nat.reduceAdd, Nat.reduceLT, Nat.reduceLeDiff, Nat.reduceEqDiff, true_implies, false_implies, implies_true, Option.some.injEq, forall_eq', forall_eq, reduceCtorEq, brT, brF, br_s, i_10, i_01, ib_0_2, ib_1_2, tn_0, tn_1, Int32.le_refl, eq_self, rv_bN, rv_iM, RCM 81, RLY, lit_at hw]
  exact hQ
theorem thr_T {w : mT} {σ : mS} {D : Nat} {K : Int32 → Hp → Prop} (hw : lit w) (hD : 1 ≤ D) : wpI D 128 [.ref 81] (mW w (uI σ 81 0 1)) K ↔ K 1 (mW w (uI σ 81 0 1)) := by
  rw [m_128 hw hD, uI_1, if_pos ⟨rfl, rfl⟩]
theorem thr_R {w : mT} {σ : mS} {D : Nat} {K : Int32 → Hp → Prop} (hw : lit w) (hD : 1 ≤ D) : wpI D 128 [.ref 81] (mW w (uI σ 81 0 0)) K ↔ K 0 (mW w (uI σ 81 0 0)) := by
  rw [m_128 hw hD, uI_1, if_pos ⟨rfl, rfl⟩]
