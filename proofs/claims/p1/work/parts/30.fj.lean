def sN (a : Int32) : Int32 := if 1 ≤ a.toInt ∧ a.toInt ≤ 200 then 0 else -1
theorem ps1_M {σ : mS} : frM σ (ps1 σ) := frM_tr (frM_tr (frM_I (by omega)) (frM_I (by omega))) (frM_I (by omega))
theorem ps1_47 {σ : mS} : (ps1 σ).1 47 = σ.1 47 := rfl
theorem lp_96 {w : mT} {a1 : Int32} {d : Nat} {Q : Option (Option Value) → Hp → Prop} (hw : lit w) (hd : 6 ≤ d) (ha : a1.toInt < 1000) : ∀ (n i : Nat) (σ : mS), σ.2.2 0 3 = some 15 → (∀ j, σ.1 47 j = 0) → a1.toInt = i + n → (∀ σ', frM σ σ' → Q (some (some (.int 0))) (mW w σ')) → Wp 96 29 [.ref 0, .int a1, .int (0 : Int32), .int (Int32.ofNat i)] [] (mW w σ) Q d := by
  intro n
  induction n with
  | zero =>
    intro i σ ht hz hi hQ
    have e : a1 ≤ Int32.ofNat i := by rw [i_le, on_int (by omega)]; omega
    refine b96_29 ?_
    simp only [↓rF_I, ↓rF_L, ↓rF_R, ↓rF_N, rO_m, rB_m, ↓rI_m, wI_m, ↓rB2_m, ↓rB3_m, wB2_m, wB3_m, ↓rL_m, wL_m, ↓rQ_m, wQ_m, ↓lI_m, pI_m, pL_m, pR_m, sI_m, sBy_m, sBo_m, sL_m, sQ_m, fst_m, true_and, and_true, tg_some, ln_some, uI_1, uI_2, uL_1, uL_2, uL_3, uQ_1, uQ_2, uQ_3, rv_i, rv_l, rv_n, rv_b0, rv_b1, RMR, ne_eq, reduceCtorEq, not_false_eq_true, Option.getD_some, if_true, if_false, and_self, false_and, and_false, Nat.add_left_cancel_iff, Nat.add_eq_left, Nat.left_eq_add, Nat.one_ne_zero, Nat.reduceAdd, Nat.reduceLT, Nat.reduceLeDiff, Nat.reduceEqDiff, RCX 0, RCG 2, RCT 4, RCT 15, RCT 25, RCS 35, RCS 49, RCH 63, RCP 67, RCB 72, RCR 77, RCM 81, RLY, lit_at hw, true_implies, false_implies, implies_true, Option.some.injEq, forall_eq', forall_eq, reduceCtorEq, brT, brF, br_s, i_10, i_01, ib_0_2, ib_1_2, tn_0, tn_1, Int32.le_refl, eq_self, e]
    exact hQ σ frM_rf
  | succ n ih =>
    intro i σ ht hz hi hQ
    have e : ¬ a1 ≤ Int32.ofNat i := by rw [i_le, on_int (by omega)]; omega
    refine b96_29 ?_
    simp only [↓rF_I, ↓rF_L, ↓rF_R, ↓rF_N, rO_m, rB_m, ↓rI_m, wI_m, ↓rB2_m, ↓rB3_m, wB2_m, wB3_m, ↓rL_m, wL_m, ↓rQ_m, wQ_m, ↓lI_m, pI_m, pL_m, pR_m, sI_m, sBy_m, sBo_m, sL_m, sQ_m, fst_m, true_and, and_true, tg_some, ln_some, uI_1, uI_2, uL_1, uL_2, uL_3, uQ_1, uQ_2, uQ_3, rv_i, rv_l, rv_n, rv_b0, rv_b1, RMR, ne_eq, reduceCtorEq, not_false_eq_true, Option.getD_some, if_true, if_false, and_self, false_and, and_false, Nat.add_left_cancel_iff, Nat.add_eq_left, Nat.left_eq_add, Nat.one_ne_zero, Nat.reduceAdd, Nat.reduceLT, Nat.reduceLeDiff, Nat.reduceEqDiff, RCX 0, RCG 2, RCT 4, RCT 15, RCT 25, RCS 35, RCS 49, RCH 63, RCP 67, RCB 72, RCR 77, RCM 81, RLY, lit_at hw, true_implies, false_implies, implies_true, Option.some.injEq, forall_eq', forall_eq, reduceCtorEq, brT, brF, br_s, i_10, i_01, ib_0_2, ib_1_2, tn_0, tn_1, Int32.le_refl, eq_self, e, ht, fr_20 hw hz hd, on_succ]
    refine ih (i + 1) (ps1 σ) ht hz (by omega) (fun σ' h => hQ σ' (frM_tr ps1_M h))
theorem ex_96 {w : mT} {σ : mS} {a1 : Int32} {D : Nat} (hw : lit w) (hF : frC σ) (hl : w.2.2.2.length = 99) (hD : 7 ≤ D) : ∃ w' σ', (xt w w' ∧ frM σ σ') ∧ ∀ K, wpI D 96 [.ref 0, .int a1] (mW w σ) K ↔ K (sN a1) (mW w' σ') := by
  have hG := hF
  unfold frC at hF
  refine cI_ex (m := 6) (fun d hd Q hQ => ?_) rfl hD
  have hd1 : 1 ≤ d := by omega
  have hd2 : 2 ≤ d := by omega
  have hd3 : 3 ≤ d := by omega
  have hd4 : 4 ≤ d := by omega
  have hd5 : 5 ≤ d := by omega
  have hd6 : 6 ≤ d := by omega
  refine b96_0 ?_
  by_cases h : 1 ≤ a1.toInt ∧ a1.toInt ≤ 200
  · rw [sN, if_pos h] at hQ
    have g1 : ¬ a1 < 1 := by rw [i_lt, t1]; omega
    have g2 : a1 ≤ 200 := by rw [i_le, t200]; omega
    obtain ⟨w2, σ2, ⟨p1, p2, p3, p4⟩, p5⟩ := ex_11 (D := d) hw hG hl (by omega)
    have hw2 := p1.2.2.1
    have q0 : ∀ j, σ2.1 47 j = 0 := fun j => by rw [p3 47 (by omega)]; simp only [hF]
    have q1 : σ2.2.2 0 3 = some 15 := by rw [p4 0 (by omega)]; exact hF.2.1
    simp only [↓rF_I, ↓rF_L, ↓rF_R, ↓rF_N, rO_m, rB_m, ↓rI_m, wI_m, ↓rB2_m, ↓rB3_m, wB2_m, wB3_m, ↓rL_m, wL_m, ↓rQ_m, wQ_m, ↓lI_m, pI_m, pL_m, pR_m, sI_m, sBy_m, sBo_m, sL_m, sQ_m, fst_m, true_and, and_true, tg_some, ln_some, uI_1, uI_2, uL_1, uL_2, uL_3, uQ_1, uQ_2, uQ_3, rv_i, rv_l, rv_n, rv_b0, rv_b1, RMR, ne_eq, reduceCtorEq, not_false_eq_true, Option.getD_some, if_true, if_false, and_self, false_and, and_false, Nat.add_left_cancel_iff, Nat.add_eq_left, Nat.left_eq_add, Nat.one_ne_zero, Nat.reduceAdd, Nat.reduceLT, Nat.reduceLeDiff, Nat.reduceEqDiff, RCX 0, RCG 2, RCT 4, RCT 15, RCT 25, RCS 35, RCS 49, RCH 63, RCP 67, RCB 72, RCR 77, RCM 81, RLY, lit_at hw, true_implies, false_implies, implies_true, Option.some.injEq, forall_eq', forall_eq, reduceCtorEq, brT, brF, br_s, i_10, i_01, ib_0_2, ib_1_2, tn_0, tn_1, Int32.le_refl, eq_self, hF, g1, g2, p5]
    refine lp_96 hw2 hd (by omega) a1.toInt.toNat 0 σ2 q1 q0 (by omega) (fun σ' h => hQ _ _ ⟨p1, frM_tr p2 h⟩)
  · rw [sN, if_neg h] at hQ
    simp only [↓rF_I, ↓rF_L, ↓rF_R, ↓rF_N, rO_m, rB_m, ↓rI_m, wI_m, ↓rB2_m, ↓rB3_m, wB2_m, wB3_m, ↓rL_m, wL_m, ↓rQ_m, wQ_m, ↓lI_m, pI_m, pL_m, pR_m, sI_m, sBy_m, sBo_m, sL_m, sQ_m, fst_m, true_and, and_true, tg_some, ln_some, uI_1, uI_2, uL_1, uL_2, uL_3, uQ_1, uQ_2, uQ_3, rv_i, rv_l, rv_n, rv_b0, rv_b1, RMR, ne_eq, reduceCtorEq, not_false_eq_true, Option.getD_some, if_true, if_false, and_self, false_and, and_false, Nat.add_left_cancel_iff, Nat.add_eq_left, Nat.left_eq_add, Nat.one_ne_zero, Nat.reduceAdd, Nat.reduceLT, Nat.reduceLeDiff, Nat.reduceEqDiff, RCX 0, RCG 2, RCT 4, RCT 15, RCT 25, RCS 35, RCS 49, RCH 63, RCP 67, RCB 72, RCR 77, RCM 81, RLY, lit_at hw, true_implies, false_implies, implies_true, Option.some.injEq, forall_eq', forall_eq, reduceCtorEq, brT, brF, br_s, i_10, i_01, ib_0_2, ib_1_2, tn_0, tn_1, Int32.le_refl, eq_self, hF]
    refine ⟨fun _ => hQ _ _ ⟨xt_rf hw, frM_rf⟩, fun q1 => ⟨fun q2 => ?_, fun _ => hQ _ _ ⟨xt_rf hw, frM_rf⟩⟩⟩
    rw [i_lt, t1] at q1
    rw [i_le, t200] at q2
    omega
theorem isS_49 {w : mT} (hw : lit w) : isS w 49 := ⟨hw 49 (by decide), hw 50 (by decide), hw 51 (by decide), hw 52 (by decide), hw 53 (by decide), hw 54 (by decide), hw 55 (by decide), hw 56 (by decide), hw 57 (by decide), hw 58 (by decide), hw 59 (by decide), hw 60 (by decide), hw 61 (by decide), hw 62 (by decide)⟩
theorem l500 : ((500 : Int32) ≤ 0) ↔ False := iff_false_intro (by decide)
theorem ex_97 {w : mT} {σ : mS} {D : Nat} (hw : lit w) (hF : frC σ) (hD : 7 ≤ D) : ∃ w' σ', (xt w w' ∧ frM σ σ') ∧ ∀ K, wpI D 97 [.ref 0] (mW w σ) K ↔ K 0 (mW w' σ') := by
  have hG := hF
  unfold frC at hF
  refine cI_ex (m := 6) (fun d hd Q hQ => ?_) rfl hD
  have hd1 : 1 ≤ d := by omega
  have hd2 : 2 ≤ d := by omega
  have hd3 : 3 ≤ d := by omega
  have hd4 : 4 ≤ d := by omega
  have hd5 : 5 ≤ d := by omega
  have hd6 : 6 ≤ d := by omega
  have z1 : ∀ j, σ.1 37 j = 0 := fun j => by simp only [hF]
  have z2 : ∀ j, σ.1 51 j = 0 := fun j => by simp only [hF]
  have z3 : ∀ j, (cpy49 σ).1 61 j = 0 := fun j => by simp [cpy49, uC_1, uI_1, va_cpy, hF]
  have hS := isS_49 hw
  refine b97_0 ?_
  simp only [↓rF_I, ↓rF_L, ↓rF_R, ↓rF_N, rO_m, rB_m, ↓rI_m, wI_m, ↓rB2_m, ↓rB3_m, wB2_m, wB3_m, ↓rL_m, wL_m, ↓rQ_m, wQ_m, ↓lI_m, pI_m, pL_m, pR_m, sI_m, sBy_m, sBo_m, sL_m, sQ_m, fst_m, true_and, and_true, tg_some, ln_some, uI_1, uI_2, uL_1, uL_2, uL_3, uQ_1, uQ_2, uQ_3, rv_i, rv_l, rv_n, rv_b0, rv_b1, RMR, ne_eq, reduceCtorEq, not_false_eq_true, Option.getD_some, if_true, if_false, and_self, false_and, and_false, Nat.add_left_cancel_iff, Nat.add_eq_left, Nat.left_eq_add, Nat.one_ne_zero, Nat.reduceAdd, Nat.reduceLT, Nat.reduceLeDiff, Nat.reduceEqDiff, RCX 0, RCG 2, RCT 4, RCT 15, RCT 25, RCS 35, RCS 49, RCH 63, RCP 67, RCB 72, RCR 77, RCM 81, RLY, lit_at hw, true_implies, false_implies, implies_true, Option.some.injEq, forall_eq', forall_eq, reduceCtorEq, brT, brF, br_s, i_10, i_01, ib_0_2, ib_1_2, tn_0, tn_1, Int32.le_refl, eq_self, hF, hd1, hd2, hd3, hd4, hd5, hd6, fr_49_49 hw hS z1 z2]
  refine b97_13 ?_
  simp only [↓rF_I, ↓rF_L, ↓rF_R, ↓rF_N, rO_m, rB_m, ↓rI_m, wI_m, ↓rB2_m, ↓rB3_m, wB2_m, wB3_m, ↓rL_m, wL_m, ↓rQ_m, wQ_m, ↓lI_m, pI_m, pL_m, pR_m, sI_m, sBy_m, sBo_m, sL_m, sQ_m, fst_m, true_and, and_true, tg_some, ln_some, uI_1, uI_2, uL_1, uL_2, uL_3, uQ_1, uQ_2, uQ_3, rv_i, rv_l, rv_n, rv_b0, rv_b1, RMR, ne_eq, reduceCtorEq, not_false_eq_true, Option.getD_some, if_true, if_false, and_self, false_and, and_false, Nat.add_left_cancel_iff, Nat.add_eq_left, Nat.left_eq_add, Nat.one_ne_zero, Nat.reduceAdd, Nat.reduceLT, Nat.reduceLeDiff, Nat.reduceEqDiff, RCX 0, RCG 2, RCT 4, RCT 15, RCT 25, RCS 35, RCS 49, RCH 63, RCP 67, RCB 72, RCR 77, RCM 81, RLY, lit_at hw, true_implies, false_implies, implies_true, Option.some.injEq, forall_eq', forall_eq, reduceCtorEq, brT, brF, br_s, i_10, i_01, ib_0_2, ib_1_2, tn_0, tn_1, Int32.le_refl, eq_self, hF, hd1, hd2, hd3, hd4, hd5, hd6, l500, fr_64 hw z3]
  exact hQ _ _ ⟨xt_rf hw, fun a h1 h2 => ⟨cpy49_ne (by omega), by rw [cpy49_2], by rw [cpy49_2]⟩⟩
/-- the second argument of image is 0 or 1 -/
theorem ex_13 {w : mT} {σ : mS} {a1 : Int32} {D : Nat} (hw : lit w) (hF : frC σ) (hl : w.2.2.2.length = 99) (hD : 3 ≤ D) : ∃ w' σ', (xt w w' ∧ frM σ σ') ∧ ∀ K, wpI D 13 [.ref 63, .int a1, .ref 35] (mW w σ) K ↔ K (iM a1) (mW w' σ') := by
  have hG := hF
  unfold frC at hF
  refine cI_ex (m := 2) (fun d hd Q hQ => ?_) rfl hD
  have hd1 : 1 ≤ d := by omega
  have hd2 : 2 ≤ d := by omega
  have hw2 := lit_S hw hl
  have hS2 := isS_S hl
  have hS := hS2
  simp only [isS, Nat.reduceAdd] at hS
  have t2 : (2 : Int32).toInt = 2 := by decide
  have t0 : (0 : Int32).toInt = 0 := by decide
  refine b13_0 ?_
  by_cases h : 0 ≤ a1.toInt ∧ a1.toInt < 2
  · rw [iM_t h] at hQ
    have g1 : ¬ a1 < 0 := by rw [i_lt, t0]; omega
    have g2 : a1 < 2 := by rw [i_lt, t2]; omega
    simp only [↓rF_I, ↓rF_L, ↓rF_R, ↓rF_N, rO_m, rB_m, ↓rI_m, wI_m, ↓rB2_m, ↓rB3_m, wB2_m, wB3_m, ↓rL_m, wL_m, ↓rQ_m, wQ_m, ↓lI_m, pI_m, pL_m, pR_m, sI_m, sBy_m, sBo_m, sL_m, sQ_m, fst_m, true_and, and_true, tg_some, ln_some, uI_1, uI_2, uL_1, uL_2, uL_3, uQ_1, uQ_2, uQ_3, rv_i, rv_l, rv_n, rv_b0, rv_b1, RMR, ne_eq, reduceCtorEq, not_false_eq_true, Option.getD_some, if_true, if_false, and_self, false_and, and_false, Nat.add_left_cancel_iff, Nat.add_eq_left, Nat.left_eq_add, Nat.one_ne_zero, Nat.reduceAdd, Nat.reduceLT, Nat.reduceLeDiff, Nat.reduceEqDiff, RCX 0, RCG 2, RCT 4, RCT 15, RCT 25, RCS 35, RCS 49, RCH 63, RCP 67, RCB 72, RCR 77, RCM 81, RLY, lit_at hw, true_implies, false_implies, implies_true, Option.some.injEq, forall_eq', forall_eq, reduceCtorEq, brT, brF, br_s, i_10, i_01, ib_0_2, ib_1_2, tn_0, tn_1, Int32.le_refl, eq_self, hF, g1, g2, iM_ib h, ↓nw_all, nO_5, hl, s_47 hl, hd1, hd2, lit_at hw2, hS, RCS 99, zS_lt, zS_2, zS_3, zS_101, fr_49_99 hw2 hS2, vn_b1]
    refine hQ _ _ ⟨xt_S hw hl, frM_tr frM_S (frM_tr (frM_Q (by omega)) (frM_tr frM_p (frM_I (by omega))))⟩
  · rw [iM_f h] at hQ
    simp only [↓rF_I, ↓rF_L, ↓rF_R, ↓rF_N, rO_m, rB_m, ↓rI_m, wI_m, ↓rB2_m, ↓rB3_m, wB2_m, wB3_m, ↓rL_m, wL_m, ↓rQ_m, wQ_m, ↓lI_m, pI_m, pL_m, pR_m, sI_m, sBy_m, sBo_m, sL_m, sQ_m, fst_m, true_and, and_true, tg_some, ln_some, uI_1, uI_2, uL_1, uL_2, uL_3, uQ_1, uQ_2, uQ_3, rv_i, rv_l, rv_n, rv_b0, rv_b1, RMR, ne_eq, reduceCtorEq, not_false_eq_true, Option.getD_some, if_true, if_false, and_self, false_and, and_false, Nat.add_left_cancel_iff, Nat.add_eq_left, Nat.left_eq_add, Nat.one_ne_zero, Nat.reduceAdd, Nat.reduceLT, Nat.reduceLeDiff, Nat.reduceEqDiff, RCX 0, RCG 2, RCT 4, RCT 15, RCT 25, RCS 35, RCS 49, RCH 63, RCP 67, RCB 72, RCR 77, RCM 81, RLY, lit_at hw, true_implies, false_implies, implies_true, Option.some.injEq, forall_eq', forall_eq, reduceCtorEq, brT, brF, br_s, i_10, i_01, ib_0_2, ib_1_2, tn_0, tn_1, Int32.le_refl, eq_self, hF]
    refine ⟨fun _ => hQ _ _ ⟨xt_rf hw, frM_rf⟩, fun q1 => ⟨fun q2 => ?_, fun _ => hQ _ _ ⟨xt_rf hw, frM_rf⟩⟩⟩
    rw [i_lt, t0] at q1
    rw [i_lt, t2] at q2
    omega
theorem fr_14 {w : mT} {σ : mS} {a1 : Int32} {D : Nat} {K : Int32 → Hp → Prop} (hw : lit w) (hF : frC σ) (hD : 3 ≤ D) : wpI D 14 [.ref 63, .int a1, .ref 35] (mW w σ) K ↔ K 0 (mW w σ) := by
  have hG := hF
  unfold frC at hF
  refine cI_of (m := 2) (fun d hd Q hQ => ?_) rfl hD
  have hd1 : 1 ≤ d := by omega
  have hd2 : 2 ≤ d := by omega
  refine b14_0 ?_
  by_cases h : 0 ≤ a1.toInt ∧ a1.toInt < 2
  · have t2 : (2 : Int32).toInt = 2 := by decide
    have t0 : (0 : Int32).toInt = 0 := by decide
    have g1 : ¬ a1 < 0 := by rw [i_lt, t0]; omega
    have g2 : ¬ (2 : Int32) ≤ a1 := by rw [i_le, t2]; omega
    simp only [↓rF_I, ↓rF_L, ↓rF_R, ↓rF_N, rO_m, rB_m, ↓rI_m, wI_m, ↓rB2_m, ↓rB3_m, wB2_m, wB3_m, ↓rL_m, wL_m, ↓rQ_m, wQ_m, ↓lI_m, pI_m, pL_m, pR_m, sI_m, sBy_m, sBo_m, sL_m, sQ_m, fst_m, true_and, and_true, tg_some, ln_some, uI_1, uI_2, uL_1, uL_2, uL_3, uQ_1, uQ_2, uQ_3, rv_i, rv_l, rv_n, rv_b0, rv_b1, RMR, ne_eq, reduceCtorEq, not_false_eq_true, Option.getD_some, if_true, if_false, and_self, false_and, and_false, Nat.add_left_cancel_iff, Nat.add_eq_left, Nat.left_eq_add, Nat.one_ne_zero, Nat.reduceAdd, Nat.reduceLT, Nat.reduceLeDiff, Nat.reduceEqDiff, RCX 0, RCG 2, RCT 4, RCT 15, RCT 25, RCS 35, RCS 49, RCH 63, RCP 67, RCB 72, RCR 77, RCM 81, RLY, lit_at hw, true_implies, false_implies, implies_true, Option.some.injEq, forall_eq', forall_eq, reduceCtorEq, brT, brF, br_s, i_10, i_01, ib_0_2, ib_1_2, tn_0, tn_1, Int32.le_refl, eq_self, hF, g1, g2, iM_ib h]
    exact hQ
  · simp only [↓rF_I, ↓rF_L, ↓rF_R, ↓rF_N, rO_m, rB_m, ↓rI_m, wI_m, ↓rB2_m, ↓rB3_m, wB2_m, wB3_m, ↓rL_m, wL_m, ↓rQ_m, wQ_m, ↓lI_m, pI_m, pL_m, pR_m, sI_m, sBy_m, sBo_m, sL_m, sQ_m, fst_m, true_and, and_true, tg_some, ln_some, uI_1, uI_2, uL_1, uL_2, uL_3, uQ_1, uQ_2, uQ_3, rv_i, rv_l, rv_n, rv_b0, rv_b1, RMR, ne_eq, reduceCtorEq, not_false_eq_true, Option.getD_some, if_true, if_false, and_self, false_and, and_false, Nat.add_left_cancel_iff, Nat.add_eq_left, Nat.left_eq_add, Nat.one_ne_zero, Nat.reduceAdd, Nat.reduceLT, Nat.reduceLeDiff, Nat.reduceEqDiff, RCX 0, RCG 2, RCT 4, RCT 15, RCT 25, RCS 35, RCS 49, RCH 63, RCP 67, RCB 72, RCR 77, RCM 81, RLY, lit_at hw, true_implies, false_implies, implies_true, Option.some.injEq, forall_eq', forall_eq, reduceCtorEq, brT, brF, br_s, i_10, i_01, ib_0_2, ib_1_2, tn_0, tn_1, Int32.le_refl, eq_self, hF, ↓br_z2, h]
    exact hQ
def sI (a b : Int32) : Int32 := if b = 0 then iM a else 0
theorem rv_iM {a : Int32} : (rvOK (some .boolean) (some (.int (iM a))) = true) ↔ True := by
  rw [rv_b]; refine iff_true_intro ?_
  unfold iM; split <;> simp
theorem ex_99 {w : mT} {σ : mS} {a1 a2 : Int32} {D : Nat} (hw : lit w) (hF : frC σ) (hl : w.2.2.2.length = 99) (hD : 4 ≤ D) : ∃ w' σ', (xt w w' ∧ frM σ σ') ∧ ∀ K, wpI D 99 [.ref 0, .int a1, .int a2] (mW w σ) K ↔ K (sI a1 a2) (mW w' σ') := by
  have hG := hF
  unfold frC at hF
  refine cI_ex (m := 3) (fun d hd Q hQ => ?_) rfl hD
  have hd1 : 1 ≤ d := by omega
  have hd2 : 2 ≤ d := by omega
  have hd3 : 3 ≤ d := by omega
  refine b99_0 ?_
  by_cases h : a2 = 0
  · rw [sI, if_pos h] at hQ
    obtain ⟨w2, σ2, p1, p5⟩ := ex_13 (a1 := a1) (D := d) hw hG hl hd
    simp only [↓rF_I, ↓rF_L, ↓rF_R, ↓rF_N, rO_m, rB_m, ↓rI_m, wI_m, ↓rB2_m, ↓rB3_m, wB2_m, wB3_m, ↓rL_m, wL_m, ↓rQ_m, wQ_m, ↓lI_m, pI_m, pL_m, pR_m, sI_m, sBy_m, sBo_m, sL_m, sQ_m, fst_m, true_and, and_true, tg_some, ln_some, uI_1, uI_2, uL_1, uL_2, uL_3, uQ_1, uQ_2, uQ_3, rv_i, rv_l, rv_n, rv_b0, rv_b1, RMR, ne_eq, reduceCtorEq, not_false_eq_true, Option.getD_some, if_true, if_false, and_self, false_and, and_false, Nat.add_left_cancel_iff, Nat.add_eq_left, Nat.left_eq_add, Nat.one_ne_zero, Nat.reduceAdd, Nat.reduceLT, Nat.reduceLeDiff, Nat.reduceEqDiff, RCX 0, RCG 2, RCT 4, RCT 15, RCT 25, RCS 35, RCS 49, RCH 63, RCP 67, RCB 72, RCR 77, RCM 81, RLY, lit_at hw, true_implies, false_implies, implies_true, Option.some.injEq, forall_eq', forall_eq, reduceCtorEq, brT, brF, br_s, i_10, i_01, ib_0_2, ib_1_2, tn_0, tn_1, Int32.le_refl, eq_self, hF, h, p5, rv_iM]
    exact hQ _ _ p1
  · rw [sI, if_neg h] at hQ
    simp only [↓rF_I, ↓rF_L, ↓rF_R, ↓rF_N, rO_m, rB_m, ↓rI_m, wI_m, ↓rB2_m, ↓rB3_m, wB2_m, wB3_m, ↓rL_m, wL_m, ↓rQ_m, wQ_m, ↓lI_m, pI_m, pL_m, pR_m, sI_m, sBy_m, sBo_m, sL_m, sQ_m, fst_m, true_and, and_true, tg_some, ln_some, uI_1, uI_2, uL_1, uL_2, uL_3, uQ_1, uQ_2, uQ_3, rv_i, rv_l, rv_n, rv_b0, rv_b1, RMR, ne_eq, reduceCtorEq, not_false_eq_true, Option.getD_some, if_true, if_false, and_self, false_and, and_false, Nat.add_left_cancel_iff, Nat.add_eq_left, Nat.left_eq_add, Nat.one_ne_zero, Nat.reduceAdd, Nat.reduceLT, Nat.reduceLeDiff, Nat.reduceEqDiff, RCX 0, RCG 2, RCT 4, RCT 15, RCT 25, RCS 35, RCS 49, RCH 63, RCP 67, RCB 72, RCR 77, RCM 81, RLY, lit_at hw, true_implies, false_implies, implies_true, Option.some.injEq, forall_eq', forall_eq, reduceCtorEq, brT, brF, br_s, i_10, i_01, ib_0_2, ib_1_2, tn_0, tn_1, Int32.le_refl, eq_self, hF, h, fr_14 hw hG, hd1, hd2, hd3]
    exact hQ _ _ ⟨xt_rf hw, frM_rf⟩
