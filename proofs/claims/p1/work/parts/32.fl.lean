theorem tn_11 : Int32.toNatClampNeg (11 : Int32) = 11 := by decide
theorem tn_10 : Int32.toNatClampNeg (10 : Int32) = 10 := by decide
theorem ib_ad {a : Int32} {i n : Nat} (h : 0 ≤ a.toInt) (h2 : a.toInt + i < n) (hn : n < 2147483648) : inB (a + Int32.ofNat i) n = true := by
  have e := on_int (i := i) (by omega)
  have e2 := i_add (a := a) (b := Int32.ofNat i) (by omega) (by omega)
  exact inB_of (by omega) (by omega)
theorem lp_149 {w : mT} {p0 p2 n0 n2 d : Nat} {a1 a3 : Int32} {Q : Option (Option Value) → Hp → Prop} (h0 : mL w p0 = some (0, n0, [])) (h2 : mL w p2 = some (0, n2, [])) (ha : 0 ≤ a1.toInt) (ha2 : a1.toInt + 2471 ≤ n0) (hb : 0 ≤ a3.toInt) (hb2 : a3.toInt + 2471 ≤ n2) (hn0 : n0 < 100000) (hn2 : n2 < 100000) : ∀ (n i : Nat) (σ : mS), i + n = 2471 → (∀ σ', frR p2 (p2 + 1) σ σ' → Q (some none) (mW w σ')) → Wp 149 3 [.ref p0, .int a1, .ref p2, .int a3, .int (Int32.ofNat i)] [] (mW w σ) Q d := by
  intro n
  induction n with
  | zero =>
    intro i σ hi hQ
    refine b149_3 ?_
    simp only [↓rF_I, ↓rF_L, ↓rF_R, ↓rF_N, rO_m, rB_m, ↓rI_m, wI_m, ↓rB2_m, ↓rB3_m, wB2_m, wB3_m, ↓rL_m, wL_m, ↓rQ_m, wQ_m, ↓lI_m, pI_m, pL_m, pR_m, sI_m, sBy_m, sBo_m, sL_m, sQ_m, fst_m, true_and, and_true, tg_some, ln_some, uI_1, uI_2, uL_1, uL_2, uL_3, uQ_1, uQ_2, uQ_3, rv_i, rv_l, rv_n, rv_b0, rv_b1, RMR, ne_eq, reduceCtorEq, not_false_eq_true, Option.getD_some, if_true, if_false, and_self, false_and, and_false, Nat.add_left_cancel_iff, Nat.add_eq_left, Nat.left_eq_add, Nat.one_ne_zero, Nat.reduceAdd, Nat.reduceLT, Nat.reduceLeDiff, Nat.reduceEqDiff, true_implies, false_implies, implies_true, Option.some.injEq, forall_eq', forall_eq, reduceCtorEq, brT, brF, br_s, i_10, i_01, ib_0_2, ib_1_2, tn_0, tn_1, Int32.le_refl, eq_self, yle (x := 2471) (c := 2471) (i := i) rfl (by omega) (by omega)]
    exact hQ σ frR_rf
  | succ n ih =>
    intro i σ hi hQ
    refine b149_3 ?_
    simp only [↓rF_I, ↓rF_L, ↓rF_R, ↓rF_N, rO_m, rB_m, ↓rI_m, wI_m, ↓rB2_m, ↓rB3_m, wB2_m, wB3_m, ↓rL_m, wL_m, ↓rQ_m, wQ_m, ↓lI_m, pI_m, pL_m, pR_m, sI_m, sBy_m, sBo_m, sL_m, sQ_m, fst_m, true_and, and_true, tg_some, ln_some, uI_1, uI_2, uL_1, uL_2, uL_3, uQ_1, uQ_2, uQ_3, rv_i, rv_l, rv_n, rv_b0, rv_b1, RMR, ne_eq, reduceCtorEq, not_false_eq_true, Option.getD_some, if_true, if_false, and_self, false_and, and_false, Nat.add_left_cancel_iff, Nat.add_eq_left, Nat.left_eq_add, Nat.one_ne_zero, Nat.reduceAdd, Nat.reduceLT, Nat.reduceLeDiff, Nat.reduceEqDiff, true_implies, false_implies, implies_true, Option.some.injEq, forall_eq', forall_eq, reduceCtorEq, brT, brF, br_s, i_10, i_01, ib_0_2, ib_1_2, tn_0, tn_1, Int32.le_refl, eq_self, nle (x := 2471) (c := 2471) (i := i) rfl (by omega) (by omega), h0, h2, ib_ad (i := i) ha (by omega : a1.toInt + i < n0) (by omega), ib_ad (i := i) hb (by omega : a3.toInt + i < n2) (by omega), on_succ]
    exact ih (i + 1) _ (by omega) (fun σ' h => hQ σ' (frR_tr (frR_I (by omega)) h))
theorem ex_149 {w : mT} {σ : mS} {p0 p2 n0 n2 D : Nat} {a1 a3 : Int32} (h0 : mL w p0 = some (0, n0, [])) (h2 : mL w p2 = some (0, n2, [])) (ha : 0 ≤ a1.toInt) (ha2 : a1.toInt + 2471 ≤ n0) (hb : 0 ≤ a3.toInt) (hb2 : a3.toInt + 2471 ≤ n2) (hn0 : n0 < 100000) (hn2 : n2 < 100000) (hD : 1 ≤ D) : ∃ w' σ', (w' = w ∧ frR p2 (p2 + 1) σ σ') ∧ ∀ K, wpV D 149 [.ref p0, .int a1, .ref p2, .int a3] (mW w σ) K ↔ K (mW w' σ') := by
  refine cV_ex (m := 0) (fun d hd Q hQ => ?_) rfl hD
  exact b149_0 (lp_149 h0 h2 ha ha2 hb hb2 hn0 hn2 2471 0 σ rfl (fun σ' h => hQ w σ' ⟨rfl, h⟩))
theorem m_0 : (2471 : Int32) * 0 = 0 := by decide
theorem i0_t : 0 ≤ (0 : Int32).toInt := by decide
theorem ex_177 {w : mT} {σ : mS} {D : Nat} (hw : lit w) (hz : σ.1 81 18 = 0) (hD : 2 ≤ D) : ∃ w' σ', (w' = w ∧ ∀ a, a ≠ 81 → a ≠ 86 → σ'.1 a = σ.1 a) ∧ ∀ K, wpV D 177 [.ref 81] (mW w σ) K ↔ K (mW w' σ') := by
  refine cV_ex (m := 1) (fun d hd Q hQ => ?_) rfl hD
  obtain ⟨w2, σ2, ⟨rfl, p1⟩, p2⟩ := ex_149 (σ := σ) (p0 := 85) (p2 := 86) (a1 := 0) (a3 := 0) (D := d) (hw 85 (by decide)) (hw 86 (by decide)) i0_t (by decide) i0_t (by decide) (by decide) (by decide) hd
  refine b177_0 ?_
  simp only [↓rF_I, ↓rF_L, ↓rF_R, ↓rF_N, rO_m, rB_m, ↓rI_m, wI_m, ↓rB2_m, ↓rB3_m, wB2_m, wB3_m, ↓rL_m, wL_m, ↓rQ_m, wQ_m, ↓lI_m, pI_m, pL_m, pR_m, sI_m, sBy_m, sBo_m, sL_m, sQ_m, fst_m, true_and, and_true, tg_some, ln_some, uI_1, uI_2, uL_1, uL_2, uL_3, uQ_1, uQ_2, uQ_3, rv_i, rv_l, rv_n, rv_b0, rv_b1, RMR, ne_eq, reduceCtorEq, not_false_eq_true, Option.getD_some, if_true, if_false, and_self, false_and, and_false, Nat.add_left_cancel_iff, Nat.add_eq_left, Nat.left_eq_add, Nat.one_ne_zero, Nat.reduceAdd, Nat.reduceLT, Nat.reduceLeDiff, Nat.reduceEqDiff, RCX 0, RCG 2, RCT 4, RCT 15, RCT 25, RCS 35, RCS 49, RCH 63, RCP 67, RCB 72, RCR 77, RCM 81, RLY, lit_at hw, true_implies, false_implies, implies_true, Option.some.injEq, forall_eq', forall_eq, reduceCtorEq, brT, brF, br_s, i_10, i_01, ib_0_2, ib_1_2, tn_0, tn_1, Int32.le_refl, eq_self, hz, k_0, m_0, p2]
  refine hQ _ _ ⟨rfl, fun a h1 h2 => ?_⟩
  rw [(uI_ne h1).1, p1.1 a (by omega)]
theorem vin_d {a lo hi : Int64} {b : Int32} (e : a.toInt = b.toInt) : vin a lo hi = if lo.toInt ≤ b.toInt ∧ b.toInt ≤ hi.toInt then 1 else 0 := by
  unfold vin; rw [e]
theorem ex_192 {w : mT} {σ : mS} {a1 : Int32} {D : Nat} (hw : lit w) (hF : frO σ) (hD : 3 ≤ D) : ∃ w' σ', xt w w' ∧ ∀ K, wpI D 192 [.ref 81, .int a1] (mW w σ) K ↔ K (sD a1) (mW w' σ') := by
  have hG := hF
  unfold frO at hF
  have hU : uI σ 81 0 0 = σ := uI_same hF.1
  refine cI_ex (m := 2) (fun d hd Q hQ => ?_) rfl hD
  have hd1 : 1 ≤ d := by omega
  have hd2 : 2 ≤ d := by omega
  refine b192_0 ?_
  have ev : vin (Int32.toInt64 a1) 1 99 = if 1 ≤ a1.toInt ∧ a1.toInt ≤ 99 then 1 else 0 := vin_d (Int32.toInt_toInt64 a1)
  by_cases h : 1 ≤ a1.toInt ∧ a1.toInt ≤ 99
  · rw [sD, if_pos h] at hQ
    rw [if_pos h] at ev
    have g3 : a1 ≤ 999 := by rw [i_le, t999]; omega
    obtain ⟨w2, σ2, ⟨rfl, p1⟩, p2⟩ := ex_177 (σ := σ) (D := d) hw (by simp only [hF]) hd
    have q0 : σ2.1 85 0 = 0 := by rw [p1 85 (by omega) (by omega)]; simp only [hF]
    simp only [↓rF_I, ↓rF_L, ↓rF_R, ↓rF_N, rO_m, rB_m, ↓rI_m, wI_m, ↓rB2_m, ↓rB3_m, wB2_m, wB3_m, ↓rL_m, wL_m, ↓rQ_m, wQ_m, ↓lI_m, pI_m, pL_m, pR_m, sI_m, sBy_m, sBo_m, sL_m, sQ_m, fst_m, true_and, and_true, tg_some, ln_some, uI_1, uI_2, uL_1, uL_2, uL_3, uQ_1, uQ_2, uQ_3, rv_i, rv_l, rv_n, rv_b0, rv_b1, RMR, ne_eq, reduceCtorEq, not_false_eq_true, Option.getD_some, if_true, if_false, and_self, false_and, and_false, Nat.add_left_cancel_iff, Nat.add_eq_left, Nat.left_eq_add, Nat.one_ne_zero, Nat.reduceAdd, Nat.reduceLT, Nat.reduceLeDiff, Nat.reduceEqDiff, RCX 0, RCG 2, RCT 4, RCT 15, RCT 25, RCS 35, RCS 49, RCH 63, RCP 67, RCB 72, RCR 77, RCM 81, RLY, lit_at hw, true_implies, false_implies, implies_true, Option.some.injEq, forall_eq', forall_eq, reduceCtorEq, brT, brF, br_s, i_10, i_01, ib_0_2, ib_1_2, tn_0, tn_1, Int32.le_refl, eq_self, hF, hU, fr_129, fr_128, vin_z0, vin_z1, vin_z2, vin_z3, vin_z4, vin_z5, rv_vin, tn_2, tn_3, inB_102_0, inB_102_1, inB_102_2, inB_102_3, inB_2471_0, inB_2471_1, inB_2471_2, inB_2471_3, inB_2471_4, inB_2471_5, inB_2471_6, inB_2471_7, inB_2471_8, inB_2471_9, inB_2471_10, inB_2471_11, inB_2471_12, inB_2471_13, inB_2471_14, inB_2471_15, inB_2471_16, hd1, hd2, ev, g3, Int32.zero_add, p2, q0]
    exact hQ _ _ (xt_rf hw)
  · rw [sD, if_neg h] at hQ
    rw [if_neg h] at ev
    simp only [↓rF_I, ↓rF_L, ↓rF_R, ↓rF_N, rO_m, rB_m, ↓rI_m, wI_m, ↓rB2_m, ↓rB3_m, wB2_m, wB3_m, ↓rL_m, wL_m, ↓rQ_m, wQ_m, ↓lI_m, pI_m, pL_m, pR_m, sI_m, sBy_m, sBo_m, sL_m, sQ_m, fst_m, true_and, and_true, tg_some, ln_some, uI_1, uI_2, uL_1, uL_2, uL_3, uQ_1, uQ_2, uQ_3, rv_i, rv_l, rv_n, rv_b0, rv_b1, RMR, ne_eq, reduceCtorEq, not_false_eq_true, Option.getD_some, if_true, if_false, and_self, false_and, and_false, Nat.add_left_cancel_iff, Nat.add_eq_left, Nat.left_eq_add, Nat.one_ne_zero, Nat.reduceAdd, Nat.reduceLT, Nat.reduceLeDiff, Nat.reduceEqDiff, RCX 0, RCG 2, RCT 4, RCT 15, RCT 25, RCS 35, RCS 49, RCH 63, RCP 67, RCB 72, RCR 77, RCM 81, RLY, lit_at hw, true_implies, false_implies, implies_true, Option.some.injEq, forall_eq', forall_eq, reduceCtorEq, brT, brF, br_s, i_10, i_01, ib_0_2, ib_1_2, tn_0, tn_1, Int32.le_refl, eq_self, hF, hU, fr_129, fr_128, vin_z0, vin_z1, vin_z2, vin_z3, vin_z4, vin_z5, rv_vin, tn_2, tn_3, inB_102_0, inB_102_1, inB_102_2, inB_102_3, inB_2471_0, inB_2471_1, inB_2471_2, inB_2471_3, inB_2471_4, inB_2471_5, inB_2471_6, inB_2471_7, inB_2471_8, inB_2471_9, inB_2471_10, inB_2471_11, inB_2471_12, inB_2471_13, inB_2471_14, inB_2471_15, inB_2471_16, hd1, hd2, ev]
    exact hQ _ _ (xt_rf hw)
theorem fr_200 {w : mT} {σ : mS} {D : Nat} {K : Int32 → Hp → Prop} (hw : lit w) (hz : σ.1 85 11 = 0) (hD : 1 ≤ D) : wpI D 200 [.ref 81] (mW w σ) K ↔ K 2 (mW w σ) := by
  refine cI_of (m := 0) (fun d hd Q hQ => ?_) rfl hD
  refine b200_0 ?_
  simp only [↓rF_I, ↓rF_L, ↓rF_R, ↓rF_N, rO_m, rB_m, ↓rI_m, wI_m, ↓rB2_m, ↓rB3_m, wB2_m, wB3_m, ↓rL_m, wL_m, ↓rQ_m, wQ_m, ↓lI_m, pI_m, pL_m, pR_m, sI_m, sBy_m, sBo_m, sL_m, sQ_m, fst_m, true_and, and_true, tg_some, ln_some, uI_1, uI_2, uL_1, uL_2, uL_3, uQ_1, uQ_2, uQ_3, rv_i, rv_l, rv_n, rv_b0, rv_b1, RMR, ne_eq, reduceCtorEq, not_false_eq_true, Option.getD_some, if_true, if_false, and_self, false_and, and_false, Nat.add_left_cancel_iff, Nat.add_eq_left, Nat.left_eq_add, Nat.one_ne_zero, Nat.reduceAdd, Nat.reduceLT, Nat.reduceLeDiff, Nat.reduceEqDiff, RCX 0, RCG 2, RCT 4, RCT 15, RCT 25, RCS 35, RCS 49, RCH 63, RCP 67, RCB 72, RCR 77, RCM 81, RLY, lit_at hw, true_implies, false_implies, implies_true, Option.some.injEq, forall_eq', forall_eq, reduceCtorEq, brT, brF, br_s, i_10, i_01, ib_0_2, ib_1_2, tn_0, tn_1, Int32.le_refl, eq_self, inB_2471_0, inB_2471_1, inB_2471_2, inB_2471_3, inB_2471_4, inB_2471_5, inB_2471_6, inB_2471_7, inB_2471_8, inB_2471_9, inB_2471_10, inB_2471_11, inB_2471_12, inB_2471_13, inB_2471_14, inB_2471_15, inB_2471_16, inB_102_0, inB_102_1, inB_102_2, inB_102_3, tn_11, hz]
  exact hQ
theorem fr_201 {w : mT} {σ : mS} {D : Nat} {K : Int32 → Hp → Prop} (hw : lit w) (hz : σ.1 85 10 = 0) (hD : 1 ≤ D) : wpI D 201 [.ref 81] (mW w σ) K ↔ K 2 (mW w σ) := by
  refine cI_of (m := 0) (fun d hd Q hQ => ?_) rfl hD
  refine b201_0 ?_
  simp only [↓rF_I, ↓rF_L, ↓rF_R, ↓rF_N, rO_m, rB_m, ↓rI_m, wI_m, ↓rB2_m, ↓rB3_m, wB2_m, wB3_m, ↓rL_m, wL_m, ↓rQ_m, wQ_m, ↓lI_m, pI_m, pL_m, pR_m, sI_m, sBy_m, sBo_m, sL_m, sQ_m, fst_m, true_and, and_true, tg_some, ln_some, uI_1, uI_2, uL_1, uL_2, uL_3, uQ_1, uQ_2, uQ_3, rv_i, rv_l, rv_n, rv_b0, rv_b1, RMR, ne_eq, reduceCtorEq, not_false_eq_true, Option.getD_some, if_true, if_false, and_self, false_and, and_false, Nat.add_left_cancel_iff, Nat.add_eq_left, Nat.left_eq_add, Nat.one_ne_zero, Nat.reduceAdd, Nat.reduceLT, Nat.reduceLeDiff, Nat.reduceEqDiff, RCX 0, RCG 2, RCT 4, RCT 15, RCT 25, RCS 35, RCS 49, RCH 63, RCP 67, RCB 72, RCR 77, RCM 81, RLY, lit_at hw, true_implies, false_implies, implies_true, Option.some.injEq, forall_eq', forall_eq, reduceCtorEq, brT, brF, br_s, i_10, i_01, ib_0_2, ib_1_2, tn_0, tn_1, Int32.le_refl, eq_self, inB_2471_0, inB_2471_1, inB_2471_2, inB_2471_3, inB_2471_4, inB_2471_5, inB_2471_6, inB_2471_7, inB_2471_8, inB_2471_9, inB_2471_10, inB_2471_11, inB_2471_12, inB_2471_13, inB_2471_14, inB_2471_15, inB_2471_16, inB_102_0, inB_102_1, inB_102_2, inB_102_3, tn_10, hz]
  exact hQ
def mi1 (σ : mS) : mS := uI σ 85 1 (σ.1 85 1 + 1)
theorem fr_202 {w : mT} {σ : mS} {D : Nat} {K : Int32 → Hp → Prop} (hw : lit w) (hz : σ.1 85 10 = 0) (hz2 : σ.1 85 11 = 0) (hD : 6 ≤ D) : wpI D 202 [.ref 81] (mW w σ) K ↔ K 0 (mW w (mi1 σ)) := by
  refine cI_of (m := 5) (fun d hd Q hQ => ?_) rfl hD
  have hd1 : 1 ≤ d := by omega
  have e1 : ((2 : Int32) = 0) ↔ False := iff_false_intro (by decide)
  have e2 : ((2 : Int32) = 1) ↔ False := iff_false_intro (by decide)
  refine b202_0 ?_
  simp only [↓rF_I, ↓rF_L, ↓rF_R, ↓rF_N, rO_m, rB_m, ↓rI_m, wI_m, ↓rB2_m, ↓rB3_m, wB2_m, wB3_m, ↓rL_m, wL_m, ↓rQ_m, wQ_m, ↓lI_m, pI_m, pL_m, pR_m, sI_m, sBy_m, sBo_m, sL_m, sQ_m, fst_m, true_and, and_true, tg_some, ln_some, uI_1, uI_2, uL_1, uL_2, uL_3, uQ_1, uQ_2, uQ_3, rv_i, rv_l, rv_n, rv_b0, rv_b1, RMR, ne_eq, reduceCtorEq, not_false_eq_true, Option.getD_some, if_true, if_false, and_self, false_and, and_false, Nat.add_left_cancel_iff, Nat.add_eq_left, Nat.left_eq_add, Nat.one_ne_zero, Nat.reduceAdd, Nat.reduceLT, Nat.reduceLeDiff, Nat.reduceEqDiff, RCX 0, RCG 2, RCT 4, RCT 15, RCT 25, RCS 35, RCS 49, RCH 63, RCP 67, RCB 72, RCR 77, RCM 81, RLY, lit_at hw, true_implies, false_implies, implies_true, Option.some.injEq, forall_eq', forall_eq, reduceCtorEq, brT, brF, br_s, i_10, i_01, ib_0_2, ib_1_2, tn_0, tn_1, Int32.le_refl, eq_self, inB_2471_0, inB_2471_1, inB_2471_2, inB_2471_3, inB_2471_4, inB_2471_5, inB_2471_6, inB_2471_7, inB_2471_8, inB_2471_9, inB_2471_10, inB_2471_11, inB_2471_12, inB_2471_13, inB_2471_14, inB_2471_15, inB_2471_16, inB_102_0, inB_102_1, inB_102_2, inB_102_3, fr_200 hw hz2 hd1, fr_201 hw hz hd1, e1, e2]
  exact hQ
theorem lp_203 {w : mT} {a1 : Int32} {d : Nat} {Q : Option (Option Value) → Hp → Prop} (hw : lit w) (hd : 6 ≤ d) (ha : a1.toInt < 1000) : ∀ (n i : Nat) (σ : mS), σ.1 85 10 = 0 → σ.1 85 11 = 0 → a1.toInt = i + n → (∀ σ', Q (some (some (.int 0))) (mW w σ')) → Wp 203 27 [.ref 81, .int a1, .int (0 : Int32), .int (Int32.ofNat i)] [] (mW w σ) Q d := by
  intro n
  induction n with
  | zero =>
    intro i σ hz hz2 hi hQ
    have e : a1 ≤ Int32.ofNat i := by rw [i_le, on_int (by omega)]; omega
    refine b203_27 ?_
    simp only [↓rF_I, ↓rF_L, ↓rF_R, ↓rF_N, rO_m, rB_m, ↓rI_m, wI_m, ↓rB2_m, ↓rB3_m, wB2_m, wB3_m, ↓rL_m, wL_m, ↓rQ_m, wQ_m, ↓lI_m, pI_m, pL_m, pR_m, sI_m, sBy_m, sBo_m, sL_m, sQ_m, fst_m, true_and, and_true, tg_some, ln_some, uI_1, uI_2, uL_1, uL_2, uL_3, uQ_1, uQ_2, uQ_3, rv_i, rv_l, rv_n, rv_b0, rv_b1, RMR, ne_eq, reduceCtorEq, not_false_eq_true, Option.getD_some, if_true, if_false, and_self, false_and, and_false, Nat.add_left_cancel_iff, Nat.add_eq_left, Nat.left_eq_add, Nat.one_ne_zero, Nat.reduceAdd, Nat.reduceLT, Nat.reduceLeDiff, Nat.reduceEqDiff, RCX 0, RCG 2, RCT 4, RCT 15, RCT 25, RCS 35, RCS 49, RCH 63, RCP 67, RCB 72, RCR 77, RCM 81, RLY, lit_at hw, true_implies, false_implies, implies_true, Option.some.injEq, forall_eq', forall_eq, reduceCtorEq, brT, brF, br_s, i_10, i_01, ib_0_2, ib_1_2, tn_0, tn_1, Int32.le_refl, eq_self, e]
    exact hQ σ
  | succ n ih =>
    intro i σ hz hz2 hi hQ
    have e : ¬ a1 ≤ Int32.ofNat i := by rw [i_le, on_int (by omega)]; omega
    refine b203_27 ?_
    simp only [↓rF_I, ↓rF_L, ↓rF_R, ↓rF_N, rO_m, rB_m, ↓rI_m, wI_m, ↓rB2_m, ↓rB3_m, wB2_m, wB3_m, ↓rL_m, wL_m, ↓rQ_m, wQ_m, ↓lI_m, pI_m, pL_m, pR_m, sI_m, sBy_m, sBo_m, sL_m, sQ_m, fst_m, true_and, and_true, tg_some, ln_some, uI_1, uI_2, uL_1, uL_2, uL_3, uQ_1, uQ_2, uQ_3, rv_i, rv_l, rv_n, rv_b0, rv_b1, RMR, ne_eq, reduceCtorEq, not_false_eq_true, Option.getD_some, if_true, if_false, and_self, false_and, and_false, Nat.add_left_cancel_iff, Nat.add_eq_left, Nat.left_eq_add, Nat.one_ne_zero, Nat.reduceAdd, Nat.reduceLT, Nat.reduceLeDiff, Nat.reduceEqDiff, RCX 0, RCG 2, RCT 4, RCT 15, RCT 25, RCS 35, RCS 49, RCH 63, RCP 67, RCB 72, RCR 77, RCM 81, RLY, lit_at hw, true_implies, false_implies, implies_true, Option.some.injEq, forall_eq', forall_eq, reduceCtorEq, brT, brF, br_s, i_10, i_01, ib_0_2, ib_1_2, tn_0, tn_1, Int32.le_refl, eq_self, e, fr_202 hw hz hz2 hd, on_succ, zz_00]
    refine ih (i + 1) (mi1 σ) ?_ ?_ (by omega) hQ
    · simp [mi1, uI_1, hz]
    · simp [mi1, uI_1, hz2]
theorem ex_203 {w : mT} {σ : mS} {a1 : Int32} {D : Nat} (hw : lit w) (hF : frO σ) (hD : 7 ≤ D) : ∃ w' σ', xt w w' ∧ ∀ K, wpI D 203 [.ref 81, .int a1] (mW w σ) K ↔ K (sN a1) (mW w' σ') := by
  have hG := hF
  unfold frO at hF
  have hU : uI σ 81 0 0 = σ := uI_same hF.1
  refine cI_ex (m := 6) (fun d hd Q hQ => ?_) rfl hD
  have hd1 : 1 ≤ d := by omega
  have hd2 : 2 ≤ d := by omega
  have hd3 : 3 ≤ d := by omega
  have hd4 : 4 ≤ d := by omega
  have hd5 : 5 ≤ d := by omega
  have hd6 : 6 ≤ d := by omega
  refine b203_0 ?_
  have ev : vin (Int32.toInt64 a1) 1 200 = if 1 ≤ a1.toInt ∧ a1.toInt ≤ 200 then 1 else 0 := vin_d (Int32.toInt_toInt64 a1)
  by_cases h : 1 ≤ a1.toInt ∧ a1.toInt ≤ 200
  · rw [sN, if_pos h] at hQ
    rw [if_pos h] at ev
    obtain ⟨w2, σ2, ⟨rfl, p1⟩, p2⟩ := ex_177 (σ := σ) (D := d) hw (by simp only [hF]) hd2
    have q0 : σ2.1 85 10 = 0 := by rw [p1 85 (by omega) (by omega)]; simp only [hF]
    have q1 : σ2.1 85 11 = 0 := by rw [p1 85 (by omega) (by omega)]; simp only [hF]
    simp only [↓rF_I, ↓rF_L, ↓rF_R, ↓rF_N, rO_m, rB_m, ↓rI_m, wI_m, ↓rB2_m, ↓rB3_m, wB2_m, wB3_m, ↓rL_m, wL_m, ↓rQ_m, wQ_m, ↓lI_m, pI_m, pL_m, pR_m, sI_m, sBy_m, sBo_m, sL_m, sQ_m, fst_m, true_and, and_true, tg_some, ln_some, uI_1, uI_2, uL_1, uL_2, uL_3, uQ_1, uQ_2, uQ_3, rv_i, rv_l, rv_n, rv_b0, rv_b1, RMR, ne_eq, reduceCtorEq, not_false_eq_true, Option.getD_some, if_true, if_false, and_self, false_and, and_false, Nat.add_left_cancel_iff, Nat.add_eq_left, Nat.left_eq_add, Nat.one_ne_zero, Nat.reduceAdd, Nat.reduceLT, Nat.reduceLeDiff, Nat.reduceEqDiff, RCX 0, RCG 2, RCT 4, RCT 15, RCT 25, RCS 35, RCS 49, RCH 63, RCP 67, RCB 72, RCR 77, RCM 81, RLY, lit_at hw, true_implies, false_implies, implies_true, Option.some.injEq, forall_eq', forall_eq, reduceCtorEq, brT, brF, br_s, i_10, i_01, ib_0_2, ib_1_2, tn_0, tn_1, Int32.le_refl, eq_self, hF, hU, fr_129, fr_128, vin_z0, vin_z1, vin_z2, vin_z3, vin_z4, vin_z5, rv_vin, tn_2, tn_3, inB_102_0, inB_102_1, inB_102_2, inB_102_3, inB_2471_0, inB_2471_1, inB_2471_2, inB_2471_3, inB_2471_4, inB_2471_5, inB_2471_6, inB_2471_7, inB_2471_8, inB_2471_9, inB_2471_10, inB_2471_11, inB_2471_12, inB_2471_13, inB_2471_14, inB_2471_15, inB_2471_16, hd1, hd2, hd3, hd4, hd5, hd6, ev, p2]
    exact lp_203 hw hd (by omega) a1.toInt.toNat 0 σ2 q0 q1 (by omega) (fun σ' => hQ _ _ (xt_rf hw))
  · rw [sN, if_neg h] at hQ
    rw [if_neg h] at ev
    simp only [↓rF_I, ↓rF_L, ↓rF_R, ↓rF_N, rO_m, rB_m, ↓rI_m, wI_m, ↓rB2_m, ↓rB3_m, wB2_m, wB3_m, ↓rL_m, wL_m, ↓rQ_m, wQ_m, ↓lI_m, pI_m, pL_m, pR_m, sI_m, sBy_m, sBo_m, sL_m, sQ_m, fst_m, true_and, and_true, tg_some, ln_some, uI_1, uI_2, uL_1, uL_2, uL_3, uQ_1, uQ_2, uQ_3, rv_i, rv_l, rv_n, rv_b0, rv_b1, RMR, ne_eq, reduceCtorEq, not_false_eq_true, Option.getD_some, if_true, if_false, and_self, false_and, and_false, Nat.add_left_cancel_iff, Nat.add_eq_left, Nat.left_eq_add, Nat.one_ne_zero, Nat.reduceAdd, Nat.reduceLT, Nat.reduceLeDiff, Nat.reduceEqDiff, RCX 0, RCG 2, RCT 4, RCT 15, RCT 25, RCS 35, RCS 49, RCH 63, RCP 67, RCB 72, RCR 77, RCM 81, RLY, lit_at hw, true_implies, false_implies, implies_true, Option.some.injEq, forall_eq', forall_eq, reduceCtorEq, brT, brF, br_s, i_10, i_01, ib_0_2, ib_1_2, tn_0, tn_1, Int32.le_refl, eq_self, hF, hU, fr_129, fr_128, vin_z0, vin_z1, vin_z2, vin_z3, vin_z4, vin_z5, rv_vin, tn_2, tn_3, inB_102_0, inB_102_1, inB_102_2, inB_102_3, inB_2471_0, inB_2471_1, inB_2471_2, inB_2471_3, inB_2471_4, inB_2471_5, inB_2471_6, inB_2471_7, inB_2471_8, inB_2471_9, inB_2471_10, inB_2471_11, inB_2471_12, inB_2471_13, inB_2471_14, inB_2471_15, inB_2471_16, hd1, hd2, hd3, hd4, hd5, hd6, ev]
    exact hQ _ _ (xt_rf hw)
theorem ex_204 {w : mT} {σ : mS} {D : Nat} (hw : lit w) (hF : frO σ) (hD : 7 ≤ D) : ∃ w' σ', xt w w' ∧ ∀ K, wpI D 204 [.ref 81] (mW w σ) K ↔ K 0 (mW w' σ') := by
  have hG := hF
  unfold frO at hF
  have hU : uI σ 81 0 0 = σ := uI_same hF.1
  refine cI_ex (m := 6) (fun d hd Q hQ => ?_) rfl hD
  have hd1 : 1 ≤ d := by omega
  have hd2 : 2 ≤ d := by omega
  have hd3 : 3 ≤ d := by omega
  have hd4 : 4 ≤ d := by omega
  have hd5 : 5 ≤ d := by omega
  have hd6 : 6 ≤ d := by omega
  obtain ⟨w2, σ2, ⟨rfl, p1⟩, p2⟩ := ex_149 (σ := σ) (p0 := 85) (p2 := 89) (a1 := 0) (a3 := 0) (D := d) (hw 85 (by decide)) (hw 89 (by decide)) i0_t (by decide) i0_t (by decide) (by decide) (by decide) hd1
  obtain ⟨w3, σ3, ⟨rfl, p3⟩, p4⟩ := ex_149 (σ := σ2) (p0 := 89) (p2 := 85) (a1 := 0) (a3 := 0) (D := d) (hw 89 (by decide)) (hw 85 (by decide)) i0_t (by decide) i0_t (by decide) (by decide) (by decide) hd1
  have q : ∀ j, σ2.1 85 j = 0 := fun j => by rw [p1.1 85 (by omega)]; simp only [hF]
  refine b204_0 ?_
  simp only [↓rF_I, ↓rF_L, ↓rF_R, ↓rF_N, rO_m, rB_m, ↓rI_m, wI_m, ↓rB2_m, ↓rB3_m, wB2_m, wB3_m, ↓rL_m, wL_m, ↓rQ_m, wQ_m, ↓lI_m, pI_m, pL_m, pR_m, sI_m, sBy_m, sBo_m, sL_m, sQ_m, fst_m, true_and, and_true, tg_some, ln_some, uI_1, uI_2, uL_1, uL_2, uL_3, uQ_1, uQ_2, uQ_3, rv_i, rv_l, rv_n, rv_b0, rv_b1, RMR, ne_eq, reduceCtorEq, not_false_eq_true, Option.getD_some, if_true, if_false, and_self, false_and, and_false, Nat.add_left_cancel_iff, Nat.add_eq_left, Nat.left_eq_add, Nat.one_ne_zero, Nat.reduceAdd, Nat.reduceLT, Nat.reduceLeDiff, Nat.reduceEqDiff, RCX 0, RCG 2, RCT 4, RCT 15, RCT 25, RCS 35, RCS 49, RCH 63, RCP 67, RCB 72, RCR 77, RCM 81, RLY, lit_at hw, true_implies, false_implies, implies_true, Option.some.injEq, forall_eq', forall_eq, reduceCtorEq, brT, brF, br_s, i_10, i_01, ib_0_2, ib_1_2, tn_0, tn_1, Int32.le_refl, eq_self, hF, hU, fr_129, fr_128, vin_z0, vin_z1, vin_z2, vin_z3, vin_z4, vin_z5, rv_vin, tn_2, tn_3, inB_102_0, inB_102_1, inB_102_2, inB_102_3, inB_2471_0, inB_2471_1, inB_2471_2, inB_2471_3, inB_2471_4, inB_2471_5, inB_2471_6, inB_2471_7, inB_2471_8, inB_2471_9, inB_2471_10, inB_2471_11, inB_2471_12, inB_2471_13, inB_2471_14, inB_2471_15, inB_2471_16, hd1, hd2, hd3, hd4, hd5, hd6, p2]
  refine b204_20 ?_
  simp only [↓rF_I, ↓rF_L, ↓rF_R, ↓rF_N, rO_m, rB_m, ↓rI_m, wI_m, ↓rB2_m, ↓rB3_m, wB2_m, wB3_m, ↓rL_m, wL_m, ↓rQ_m, wQ_m, ↓lI_m, pI_m, pL_m, pR_m, sI_m, sBy_m, sBo_m, sL_m, sQ_m, fst_m, true_and, and_true, tg_some, ln_some, uI_1, uI_2, uL_1, uL_2, uL_3, uQ_1, uQ_2, uQ_3, rv_i, rv_l, rv_n, rv_b0, rv_b1, RMR, ne_eq, reduceCtorEq, not_false_eq_true, Option.getD_some, if_true, if_false, and_self, false_and, and_false, Nat.add_left_cancel_iff, Nat.add_eq_left, Nat.left_eq_add, Nat.one_ne_zero, Nat.reduceAdd, Nat.reduceLT, Nat.reduceLeDiff, Nat.reduceEqDiff, RCX 0, RCG 2, RCT 4, RCT 15, RCT 25, RCS 35, RCS 49, RCH 63, RCP 67, RCB 72, RCR 77, RCM 81, RLY, lit_at hw, true_implies, false_implies, implies_true, Option.some.injEq, forall_eq', forall_eq, reduceCtorEq, brT, brF, br_s, i_10, i_01, ib_0_2, ib_1_2, tn_0, tn_1, Int32.le_refl, eq_self, inB_2471_0, inB_2471_1, inB_2471_2, inB_2471_3, inB_2471_4, inB_2471_5, inB_2471_6, inB_2471_7, inB_2471_8, inB_2471_9, inB_2471_10, inB_2471_11, inB_2471_12, inB_2471_13, inB_2471_14, inB_2471_15, inB_2471_16, inB_102_0, inB_102_1, inB_102_2, inB_102_3, hd1, hd2, hd3, hd4, hd5, hd6, l500, q, zz_00, p4]
  exact hQ _ _ (xt_rf hw)
theorem ex_206 {w : mT} {σ : mS} {a1 a2 : Int32} {D : Nat} (hw : lit w) (hF : frO σ) (hD : 2 ≤ D) : ∃ w' σ', xt w w' ∧ ∀ K, wpI D 206 [.ref 81, .int a1, .int a2] (mW w σ) K ↔ K (sI a1 a2) (mW w' σ') := by
  have hG := hF
  unfold frO at hF
  have hU : uI σ 81 0 0 = σ := uI_same hF.1
  refine cI_ex (m := 1) (fun d hd Q hQ => ?_) rfl hD
  have hd1 : 1 ≤ d := by omega
  refine b206_0 ?_
  by_cases h : 0 ≤ a1.toInt ∧ a1.toInt < 2
  · by_cases h2 : a2 = 0
    · rw [sI, if_pos h2, iM_t h] at hQ
      have e1 : (2471 * a1 : Int32).toInt = 2471 * a1.toInt := by
        rw [Int32.toInt_mul, show (2471 : Int32).toInt = 2471 by decide]
        exact Int.bmod_eq_of_le (by omega) (by omega)
      obtain ⟨w2, σ2, ⟨rfl, p1⟩, p2⟩ := ex_149 (σ := σ) (p0 := 85) (p2 := 88) (a1 := 0) (a3 := 2471 * a1) (D := d) (hw 85 (by decide)) (hw 88 (by decide)) i0_t (by decide) (by omega) (by omega) (by decide) (by decide) hd1
      simp only [↓rF_I, ↓rF_L, ↓rF_R, ↓rF_N, rO_m, rB_m, ↓rI_m, wI_m, ↓rB2_m, ↓rB3_m, wB2_m, wB3_m, ↓rL_m, wL_m, ↓rQ_m, wQ_m, ↓lI_m, pI_m, pL_m, pR_m, sI_m, sBy_m, sBo_m, sL_m, sQ_m, fst_m, true_and, and_true, tg_some, ln_some, uI_1, uI_2, uL_1, uL_2, uL_3, uQ_1, uQ_2, uQ_3, rv_i, rv_l, rv_n, rv_b0, rv_b1, RMR, ne_eq, reduceCtorEq, not_false_eq_true, Option.getD_some, if_true, if_false, and_self, false_and, and_false, Nat.add_left_cancel_iff, Nat.add_eq_left, Nat.left_eq_add, Nat.one_ne_zero, Nat.reduceAdd, Nat.reduceLT, Nat.reduceLeDiff, Nat.reduceEqDiff, RCX 0, RCG 2, RCT 4, RCT 15, RCT 25, RCS 35, RCS 49, RCH 63, RCP 67, RCB 72, RCR 77, RCM 81, RLY, lit_at hw, true_implies, false_implies, implies_true, Option.some.injEq, forall_eq', forall_eq, reduceCtorEq, brT, brF, br_s, i_10, i_01, ib_0_2, ib_1_2, tn_0, tn_1, Int32.le_refl, eq_self, hF, hU, fr_129, fr_128, vin_z0, vin_z1, vin_z2, vin_z3, vin_z4, vin_z5, rv_vin, tn_2, tn_3, inB_102_0, inB_102_1, inB_102_2, inB_102_3, inB_2471_0, inB_2471_1, inB_2471_2, inB_2471_3, inB_2471_4, inB_2471_5, inB_2471_6, inB_2471_7, inB_2471_8, inB_2471_9, inB_2471_10, inB_2471_11, inB_2471_12, inB_2471_13, inB_2471_14, inB_2471_15, inB_2471_16, hd1, vin_m, iM_t h, h2, p2, iM_ib h, vn_b1]
      exact hQ _ _ (xt_rf hw)
    · rw [sI, if_neg h2] at hQ
      simp only [↓rF_I, ↓rF_L, ↓rF_R, ↓rF_N, rO_m, rB_m, ↓rI_m, wI_m, ↓rB2_m, ↓rB3_m, wB2_m, wB3_m, ↓rL_m, wL_m, ↓rQ_m, wQ_m, ↓lI_m, pI_m, pL_m, pR_m, sI_m, sBy_m, sBo_m, sL_m, sQ_m, fst_m, true_and, and_true, tg_some, ln_some, uI_1, uI_2, uL_1, uL_2, uL_3, uQ_1, uQ_2, uQ_3, rv_i, rv_l, rv_n, rv_b0, rv_b1, RMR, ne_eq, reduceCtorEq, not_false_eq_true, Option.getD_some, if_true, if_false, and_self, false_and, and_false, Nat.add_left_cancel_iff, Nat.add_eq_left, Nat.left_eq_add, Nat.one_ne_zero, Nat.reduceAdd, Nat.reduceLT, Nat.reduceLeDiff, Nat.reduceEqDiff, RCX 0, RCG 2, RCT 4, RCT 15, RCT 25, RCS 35, RCS 49, RCH 63, RCP 67, RCB 72, RCR 77, RCM 81, RLY, lit_at hw, true_implies, false_implies, implies_true, Option.some.injEq, forall_eq', forall_eq, reduceCtorEq, brT, brF, br_s, i_10, i_01, ib_0_2, ib_1_2, tn_0, tn_1, Int32.le_refl, eq_self, hF, hU, fr_129, fr_128, vin_z0, vin_z1, vin_z2, vin_z3, vin_z4, vin_z5, rv_vin, tn_2, tn_3, inB_102_0, inB_102_1, inB_102_2, inB_102_3, inB_2471_0, inB_2471_1, inB_2471_2, inB_2471_3, inB_2471_4, inB_2471_5, inB_2471_6, inB_2471_7, inB_2471_8, inB_2471_9, inB_2471_10, inB_2471_11, inB_2471_12, inB_2471_13, inB_2471_14, inB_2471_15, inB_2471_16, hd1, vin_m, iM_t h, h2, iM_ib h]
      exact hQ _ _ (xt_rf hw)
  · have e : sI a1 a2 = 0 := by unfold sI; rw [iM_f h]; split <;> rfl
    rw [e] at hQ
    simp only [↓rF_I, ↓rF_L, ↓rF_R, ↓rF_N, rO_m, rB_m, ↓rI_m, wI_m, ↓rB2_m, ↓rB3_m, wB2_m, wB3_m, ↓rL_m, wL_m, ↓rQ_m, wQ_m, ↓lI_m, pI_m, pL_m, pR_m, sI_m, sBy_m, sBo_m, sL_m, sQ_m, fst_m, true_and, and_true, tg_some, ln_some, uI_1, uI_2, uL_1, uL_2, uL_3, uQ_1, uQ_2, uQ_3, rv_i, rv_l, rv_n, rv_b0, rv_b1, RMR, ne_eq, reduceCtorEq, not_false_eq_true, Option.getD_some, if_true, if_false, and_self, false_and, and_false, Nat.add_left_cancel_iff, Nat.add_eq_left, Nat.left_eq_add, Nat.one_ne_zero, Nat.reduceAdd, Nat.reduceLT, Nat.reduceLeDiff, Nat.reduceEqDiff, RCX 0, RCG 2, RCT 4, RCT 15, RCT 25, RCS 35, RCS 49, RCH 63, RCP 67, RCB 72, RCR 77, RCM 81, RLY, lit_at hw, true_implies, false_implies, implies_true, Option.some.injEq, forall_eq', forall_eq, reduceCtorEq, brT, brF, br_s, i_10, i_01, ib_0_2, ib_1_2, tn_0, tn_1, Int32.le_refl, eq_self, hF, hU, fr_129, fr_128, vin_z0, vin_z1, vin_z2, vin_z3, vin_z4, vin_z5, rv_vin, tn_2, tn_3, inB_102_0, inB_102_1, inB_102_2, inB_102_3, inB_2471_0, inB_2471_1, inB_2471_2, inB_2471_3, inB_2471_4, inB_2471_5, inB_2471_6, inB_2471_7, inB_2471_8, inB_2471_9, inB_2471_10, inB_2471_11, inB_2471_12, inB_2471_13, inB_2471_14, inB_2471_15, inB_2471_16, hd1, vin_m, iM_f h]
    exact hQ _ _ (xt_rf hw)
