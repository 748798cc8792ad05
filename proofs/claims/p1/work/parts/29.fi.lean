theorem zS_lt {σ : mS} {n a : Nat} (h : a < n) : (zS σ n).1 a = σ.1 a := by
  have g1 : ¬ a = n + 8 := by omega
  have g2 : ¬ n ≤ a := by omega
  funext j
  simp only [zS, uI_1, zR_1, g1, g2, false_and, if_false]
theorem zS_2 {σ : mS} {n a : Nat} (h : a < n) : (zS σ n).2.1 a = σ.2.1 a := by
  have g2 : ¬ n ≤ a := by omega
  funext j
  simp only [zS, uI_21, zR_2, g2, false_and, if_false]
theorem zS_3 {σ : mS} {n a : Nat} (h : a < n) : (zS σ n).2.2 a = σ.2.2 a := by
  have g2 : ¬ n ≤ a := by omega
  funext j
  simp only [zS, uI_22, zR_3, g2, false_and, if_false]
theorem zS_101 {σ : mS} {j : Nat} : (zS σ 99).1 101 j = 0 := by
  simp [zS, uI_1, zR_1]
theorem frM_S {σ : mS} : frM σ (zS σ 99) := fun a h1 h2 => ⟨zS_lt h2, zS_2 h2, zS_3 h2⟩
theorem frM_p {σ : mS} : frM σ (cpy99 σ) := fun a h1 h2 => ⟨cpy99_ne (Or.inl h2), by rw [cpy99_2], by rw [cpy99_2]⟩
theorem lit_S {w : mT} (hw : lit w) (hl : w.2.2.2.length = 99) : lit (mAs w (kS 99)) := fun a ha => by
  rw [mAs_L, if_pos (by omega)]; exact hw a ha
theorem isS_S {w : mT} (hl : w.2.2.2.length = 99) : isS (mAs w (kS 99)) 99 := by
  unfold isS
  simp only [mAs_L, hl]
  exact ⟨rfl, rfl, rfl, rfl, rfl, rfl, rfl, rfl, rfl, rfl, rfl, rfl, rfl, rfl⟩
theorem xt_S {w : mT} (hw : lit w) (hl : w.2.2.2.length = 99) : xt w (mAs w (kS 99)) := by
  refine ⟨rfl, rfl, lit_S hw hl, rfl, ?_, ?_⟩
  · simp [mAs, kS]
  · simp only [mAs, kS, mSz_app, mSz, cS]; omega
theorem k_00 : ((0 : Int32) + 0) - (0 + 0) / 12 * 12 = 0 := by decide
theorem k_12 : ((12 : Int32) = 0) ↔ False := iff_false_intro (by decide)
theorem k_0 : ((0 : Int32) = 12) ↔ False := iff_false_intro (by decide)
theorem ib_12 : inB (0 : Int32) 12 = true := by decide
theorem ex_11 {w : mT} {σ : mS} {D : Nat} (hw : lit w) (hF : frC σ) (hl : w.2.2.2.length = 99) (hD : 3 ≤ D) : ∃ w' σ', (xt w w' ∧ frM σ σ' ∧ (∀ a, a < 63 → σ'.1 a = σ.1 a) ∧ ∀ a, a < 63 → σ'.2.2 a = σ.2.2 a) ∧ ∀ K, wpV D 11 [.ref 63, .ref 35] (mW w σ) K ↔ K (mW w' σ') := by
  have hG := hF
  unfold frC at hF
  refine cV_ex (m := 2) (fun d hd Q hQ => ?_) rfl hD
  have hd1 : 1 ≤ d := by omega
  have hd2 : 2 ≤ d := by omega
  have hw2 := lit_S hw hl
  have hS2 := isS_S hl
  have hS := hS2
  simp only [isS, Nat.reduceAdd] at hS
  refine b11_0 ?_
  simp only [↓rF_I, ↓rF_L, ↓rF_R, ↓rF_N, rO_m, rB_m, ↓rI_m, wI_m, ↓rB2_m, ↓rB3_m, wB2_m, wB3_m, ↓rL_m, wL_m, ↓rQ_m, wQ_m, ↓lI_m, pI_m, pL_m, pR_m, sI_m, sBy_m, sBo_m, sL_m, sQ_m, fst_m, true_and, and_true, tg_some, ln_some, uI_1, uI_2, uL_1, uL_2, uL_3, uQ_1, uQ_2, uQ_3, rv_i, rv_l, rv_n, rv_b0, rv_b1, RMR, ne_eq, reduceCtorEq, not_false_eq_true, Option.getD_some, if_true, if_false, and_self, false_and, and_false, Nat.add_left_cancel_iff, Nat.add_eq_left, Nat.left_eq_add, Nat.one_ne_zero, Nat.reduceAdd, Nat.reduceLT, Nat.reduceLeDiff, Nat.reduceEqDiff, RCX 0, RCG 2, RCT 4, RCT 15, RCT 25, RCS 35, RCS 49, RCH 63, RCP 67, RCB 72, RCR 77, RCM 81, RLY, lit_at hw, true_implies, false_implies, implies_true, Option.some.injEq, forall_eq', forall_eq, reduceCtorEq, brT, brF, br_s, i_10, i_01, ib_0_2, ib_1_2, tn_0, tn_1, Int32.le_refl, eq_self, hF, k_00, k_12, k_0, ib_12, ↓nw_all, nO_5, hl, s_47 hl, hd1, hd2, lit_at hw2, hS, RCS 99, zS_lt, zS_2, zS_3, zS_101, fr_49_99 hw2 hS2]
  refine hQ _ _ ⟨xt_S hw hl, frM_tr (frM_I (by omega)) (frM_tr frM_S (frM_tr (frM_Q (by omega)) frM_p)), fun a ha => ?_, fun a ha => ?_⟩
  · rw [cpy99_ne (by omega), uQ_1, zS_lt (by omega)]
    exact (uI_ne (by omega)).1
  · rw [cpy99_2]
    rw [(uQ_ne (by omega)).2.2, zS_3 (by omega)]
    rfl
def sD (a : Int32) : Int32 := if 1 ≤ a.toInt ∧ a.toInt ≤ 99 then a else -1
theorem t99 : (99 : Int32).toInt = 99 := by decide
theorem t1 : (1 : Int32).toInt = 1 := by decide
theorem t999 : (999 : Int32).toInt = 999 := by decide
theorem t200 : (200 : Int32).toInt = 200 := by decide
theorem ex_92 {w : mT} {σ : mS} {a1 : Int32} {D : Nat} (hw : lit w) (hF : frC σ) (hl : w.2.2.2.length = 99) (hD : 4 ≤ D) : ∃ w' σ', (xt w w' ∧ frM σ σ') ∧ ∀ K, wpI D 92 [.ref 0, .int a1] (mW w σ) K ↔ K (sD a1) (mW w' σ') := by
  have hG := hF
  unfold frC at hF
  refine cI_ex (m := 3) (fun d hd Q hQ => ?_) rfl hD
  have hd1 : 1 ≤ d := by omega
  have hd2 : 2 ≤ d := by omega
  have hd3 : 3 ≤ d := by omega
  refine b92_0 ?_
  by_cases h : 1 ≤ a1.toInt ∧ a1.toInt ≤ 99
  · rw [sD, if_pos h] at hQ
    have g1 : ¬ a1 < 1 := by rw [i_lt, t1]; omega
    have g2 : ¬ (99 : Int32) < a1 := by rw [i_lt, t99]; omega
    have g3 : a1 ≤ 999 := by rw [i_le, t999]; omega
    obtain ⟨w2, σ2, ⟨p1, p2, p3, p4⟩, p5⟩ := ex_11 (D := d) hw hG hl hd
    have hw2 := p1.2.2.1
    have q0 : σ2.1 35 0 = 0 := by rw [p3 35 (by omega)]; exact hF.2.2.2.2.2.2.2.2.2.2.1
    simp only [↓rF_I, ↓rF_L, ↓rF_R, ↓rF_N, rO_m, rB_m, ↓rI_m, wI_m, ↓rB2_m, ↓rB3_m, wB2_m, wB3_m, ↓rL_m, wL_m, ↓rQ_m, wQ_m, ↓lI_m, pI_m, pL_m, pR_m, sI_m, sBy_m, sBo_m, sL_m, sQ_m, fst_m, true_and, and_true, tg_some, ln_some, uI_1, uI_2, uL_1, uL_2, uL_3, uQ_1, uQ_2, uQ_3, rv_i, rv_l, rv_n, rv_b0, rv_b1, RMR, ne_eq, reduceCtorEq, not_false_eq_true, Option.getD_some, if_true, if_false, and_self, false_and, and_false, Nat.add_left_cancel_iff, Nat.add_eq_left, Nat.left_eq_add, Nat.one_ne_zero, Nat.reduceAdd, Nat.reduceLT, Nat.reduceLeDiff, Nat.reduceEqDiff, RCX 0, RCG 2, RCT 4, RCT 15, RCT 25, RCS 35, RCS 49, RCH 63, RCP 67, RCB 72, RCR 77, RCM 81, RLY, lit_at hw, true_implies, false_implies, implies_true, Option.some.injEq, forall_eq', forall_eq, reduceCtorEq, brT, brF, br_s, i_10, i_01, ib_0_2, ib_1_2, tn_0, tn_1, Int32.le_refl, eq_self, hF, g1, g2, g3, Int32.zero_add, p5, lit_at hw2, q0]
    exact hQ _ _ ⟨p1, frM_tr p2 (frM_I (by omega))⟩
  · rw [sD, if_neg h] at hQ
    simp only [↓rF_I, ↓rF_L, ↓rF_R, ↓rF_N, rO_m, rB_m, ↓rI_m, wI_m, ↓rB2_m, ↓rB3_m, wB2_m, wB3_m, ↓rL_m, wL_m, ↓rQ_m, wQ_m, ↓lI_m, pI_m, pL_m, pR_m, sI_m, sBy_m, sBo_m, sL_m, sQ_m, fst_m, true_and, and_true, tg_some, ln_some, uI_1, uI_2, uL_1, uL_2, uL_3, uQ_1, uQ_2, uQ_3, rv_i, rv_l, rv_n, rv_b0, rv_b1, RMR, ne_eq, reduceCtorEq, not_false_eq_true, Option.getD_some, if_true, if_false, and_self, false_and, and_false, Nat.add_left_cancel_iff, Nat.add_eq_left, Nat.left_eq_add, Nat.one_ne_zero, Nat.reduceAdd, Nat.reduceLT, Nat.reduceLeDiff, Nat.reduceEqDiff, RCX 0, RCG 2, RCT 4, RCT 15, RCT 25, RCS 35, RCS 49, RCH 63, RCP 67, RCB 72, RCR 77, RCM 81, RLY, lit_at hw, true_implies, false_implies, implies_true, Option.some.injEq, forall_eq', forall_eq, reduceCtorEq, brT, brF, br_s, i_10, i_01, ib_0_2, ib_1_2, tn_0, tn_1, Int32.le_refl, eq_self, hF]
    refine ⟨fun _ => hQ _ _ ⟨xt_rf hw, frM_rf⟩, fun q1 => ⟨fun _ => hQ _ _ ⟨xt_rf hw, frM_rf⟩, fun q2 => ?_⟩⟩
    rw [i_lt, t1] at q1
    rw [i_lt, t99] at q2
    omega
theorem fr_64 {w : mT} {σ : mS} {D : Nat} {K : Int32 → Hp → Prop} (hw : lit w) (hz : ∀ j, σ.1 61 j = 0) (hD : 1 ≤ D) : wpI D 64 [.ref 49] (mW w σ) K ↔ K 0 (mW w σ) := by
  refine cI_of (m := 0) (fun d hd Q hQ => ?_) rfl hD
  have e : ((0 : Int32) < 0) ↔ False := iff_false_intro (by decide)
  refine b64_0 ?_
  simp only [↓rF_I, ↓rF_L, ↓rF_R, ↓rF_N, rO_m, rB_m, ↓rI_m, wI_m, ↓rB2_m, ↓rB3_m, wB2_m, wB3_m, ↓rL_m, wL_m, ↓rQ_m, wQ_m, ↓lI_m, pI_m, pL_m, pR_m, sI_m, sBy_m, sBo_m, sL_m, sQ_m, fst_m, true_and, and_true, tg_some, ln_some, uI_1, uI_2, uL_1, uL_2, uL_3, uQ_1, uQ_2, uQ_3, rv_i, rv_l, rv_n, rv_b0, rv_b1, RMR, ne_eq, reduceCtorEq, not_false_eq_true, Option.getD_some, if_true, if_false, and_self, false_and, and_false, Nat.add_left_cancel_iff, Nat.add_eq_left, Nat.left_eq_add, Nat.one_ne_zero, Nat.reduceAdd, Nat.reduceLT, Nat.reduceLeDiff, Nat.reduceEqDiff, RCX 0, RCG 2, RCT 4, RCT 15, RCT 25, RCS 35, RCS 49, RCH 63, RCP 67, RCB 72, RCR 77, RCM 81, RLY, lit_at hw, true_implies, false_implies, implies_true, Option.some.injEq, forall_eq', forall_eq, reduceCtorEq, brT, brF, br_s, i_10, i_01, ib_0_2, ib_1_2, tn_0, tn_1, Int32.le_refl, eq_self, hz, e]
  exact hQ
/-- a minute in which nothing is to be done -/
def ps1 (σ : mS) : mS := uI (uI (uI σ 46 1 (σ.1 46 1 + 0)) 46 0 (σ.1 46 0 + 0)) 35 1 (σ.1 35 1 + 1)
theorem fr_20 {w : mT} {σ : mS} {t D : Nat} {K : Int32 → Hp → Prop} (hw : lit w) (hz : ∀ j, σ.1 47 j = 0) (hD : 6 ≤ D) : wpI D 20 [.ref t, .ref 35] (mW w σ) K ↔ K 0 (mW w (ps1 σ)) := by
  refine cI_of (m := 5) (fun d hd Q hQ => ?_) rfl hD
  have e : ((0 : Int32) = 0) ↔ True := iff_true_intro rfl
  refine b20_0 ?_
  simp only [↓rF_I, ↓rF_L, ↓rF_R, ↓rF_N, rO_m, rB_m, ↓rI_m, wI_m, ↓rB2_m, ↓rB3_m, wB2_m, wB3_m, ↓rL_m, wL_m, ↓rQ_m, wQ_m, ↓lI_m, pI_m, pL_m, pR_m, sI_m, sBy_m, sBo_m, sL_m, sQ_m, fst_m, true_and, and_true, tg_some, ln_some, uI_1, uI_2, uL_1, uL_2, uL_3, uQ_1, uQ_2, uQ_3, rv_i, rv_l, rv_n, rv_b0, rv_b1, RMR, ne_eq, reduceCtorEq, not_false_eq_true, Option.getD_some, if_true, if_false, and_self, false_and, and_false, Nat.add_left_cancel_iff, Nat.add_eq_left, Nat.left_eq_add, Nat.one_ne_zero, Nat.reduceAdd, Nat.reduceLT, Nat.reduceLeDiff, Nat.reduceEqDiff, RCX 0, RCG 2, RCT 4, RCT 15, RCT 25, RCS 35, RCS 49, RCH 63, RCP 67, RCB 72, RCR 77, RCM 81, RLY, lit_at hw, true_implies, false_implies, implies_true, Option.some.injEq, forall_eq', forall_eq, reduceCtorEq, brT, brF, br_s, i_10, i_01, ib_0_2, ib_1_2, tn_0, tn_1, Int32.le_refl, eq_self, hz, e]
  refine b20_50 ?_
  simp only [↓rF_I, ↓rF_L, ↓rF_R, ↓rF_N, rO_m, rB_m, ↓rI_m, wI_m, ↓rB2_m, ↓rB3_m, wB2_m, wB3_m, ↓rL_m, wL_m, ↓rQ_m, wQ_m, ↓lI_m, pI_m, pL_m, pR_m, sI_m, sBy_m, sBo_m, sL_m, sQ_m, fst_m, true_and, and_true, tg_some, ln_some, uI_1, uI_2, uL_1, uL_2, uL_3, uQ_1, uQ_2, uQ_3, rv_i, rv_l, rv_n, rv_b0, rv_b1, RMR, ne_eq, reduceCtorEq, not_false_eq_true, Option.getD_some, if_true, if_false, and_self, false_and, and_false, Nat.add_left_cancel_iff, Nat.add_eq_left, Nat.left_eq_add, Nat.one_ne_zero, Nat.reduceAdd, Nat.reduceLT, Nat.reduceLeDiff, Nat.reduceEqDiff, RCX 0, RCG 2, RCT 4, RCT 15, RCT 25, RCS 35, RCS 49, RCH 63, RCP 67, RCB 72, RCR 77, RCM 81, RLY, lit_at hw, true_implies, false_implies, implies_true, Option.some.injEq, forall_eq', forall_eq, reduceCtorEq, brT, brF, br_s, i_10, i_01, ib_0_2, ib_1_2, tn_0, tn_1, Int32.le_refl, eq_self, hz, e]
  refine b20_106 ?_
  simp only [↓rF_I, ↓rF_L, ↓rF_R, ↓rF_N, rO_m, rB_m, ↓rI_m, wI_m, ↓rB2_m, ↓rB3_m, wB2_m, wB3_m, ↓rL_m, wL_m, ↓rQ_m, wQ_m, ↓lI_m, pI_m, pL_m, pR_m, sI_m, sBy_m, sBo_m, sL_m, sQ_m, fst_m, true_and, and_true, tg_some, ln_some, uI_1, uI_2, uL_1, uL_2, uL_3, uQ_1, uQ_2, uQ_3, rv_i, rv_l, rv_n, rv_b0, rv_b1, RMR, ne_eq, reduceCtorEq, not_false_eq_true, Option.getD_some, if_true, if_false, and_self, false_and, and_false, Nat.add_left_cancel_iff, Nat.add_eq_left, Nat.left_eq_add, Nat.one_ne_zero, Nat.reduceAdd, Nat.reduceLT, Nat.reduceLeDiff, Nat.reduceEqDiff, RCX 0, RCG 2, RCT 4, RCT 15, RCT 25, RCS 35, RCS 49, RCH 63, RCP 67, RCB 72, RCR 77, RCM 81, RLY, lit_at hw, true_implies, false_implies, implies_true, Option.some.injEq, forall_eq', forall_eq, reduceCtorEq, brT, brF, br_s, i_10, i_01, ib_0_2, ib_1_2, tn_0, tn_1, Int32.le_refl, eq_self, hz, e]
  refine b20_127 (b20_132 ?_)
  simp only [↓rF_I, ↓rF_L, ↓rF_R, ↓rF_N, rO_m, rB_m, ↓rI_m, wI_m, ↓rB2_m, ↓rB3_m, wB2_m, wB3_m, ↓rL_m, wL_m, ↓rQ_m, wQ_m, ↓lI_m, pI_m, pL_m, pR_m, sI_m, sBy_m, sBo_m, sL_m, sQ_m, fst_m, true_and, and_true, tg_some, ln_some, uI_1, uI_2, uL_1, uL_2, uL_3, uQ_1, uQ_2, uQ_3, rv_i, rv_l, rv_n, rv_b0, rv_b1, RMR, ne_eq, reduceCtorEq, not_false_eq_true, Option.getD_some, if_true, if_false, and_self, false_and, and_false, Nat.add_left_cancel_iff, Nat.add_eq_left, Nat.left_eq_add, Nat.one_ne_zero, Nat.reduceAdd, Nat.reduceLT, Nat.reduceLeDiff, Nat.reduceEqDiff, RCX 0, RCG 2, RCT 4, RCT 15, RCT 25, RCS 35, RCS 49, RCH 63, RCP 67, RCB 72, RCR 77, RCM 81, RLY, lit_at hw, true_implies, false_implies, implies_true, Option.some.injEq, forall_eq', forall_eq, reduceCtorEq, brT, brF, br_s, i_10, i_01, ib_0_2, ib_1_2, tn_0, tn_1, Int32.le_refl, eq_self, hz, e]
  refine b20_143 (b20_148 (b20_150 ?_))
  simp only [↓rF_I, ↓rF_L, ↓rF_R, ↓rF_N, rO_m, rB_m, ↓rI_m, wI_m, ↓rB2_m, ↓rB3_m, wB2_m, wB3_m, ↓rL_m, wL_m, ↓rQ_m, wQ_m, ↓lI_m, pI_m, pL_m, pR_m, sI_m, sBy_m, sBo_m, sL_m, sQ_m, fst_m, true_and, and_true, tg_some, ln_some, uI_1, uI_2, uL_1, uL_2, uL_3, uQ_1, uQ_2, uQ_3, rv_i, rv_l, rv_n, rv_b0, rv_b1, RMR, ne_eq, reduceCtorEq, not_false_eq_true, Option.getD_some, if_true, if_false, and_self, false_and, and_false, Nat.add_left_cancel_iff, Nat.add_eq_left, Nat.left_eq_add, Nat.one_ne_zero, Nat.reduceAdd, Nat.reduceLT, Nat.reduceLeDiff, Nat.reduceEqDiff, RCX 0, RCG 2, RCT 4, RCT 15, RCT 25, RCS 35, RCS 49, RCH 63, RCP 67, RCB 72, RCR 77, RCM 81, RLY, lit_at hw, true_implies, false_implies, implies_true, Option.some.injEq, forall_eq', forall_eq, reduceCtorEq, brT, brF, br_s, i_10, i_01, ib_0_2, ib_1_2, tn_0, tn_1, Int32.le_refl, eq_self, hz, e]
  exact hQ
