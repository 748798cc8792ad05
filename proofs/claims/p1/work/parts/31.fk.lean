def frR (lo hi : Nat) (σ σ' : mS) : Prop := (∀ a, (a < lo ∨ hi ≤ a) → σ'.1 a = σ.1 a) ∧ σ'.2 = σ.2
theorem frR_rf {lo hi : Nat} {σ : mS} : frR lo hi σ σ := ⟨fun _ _ => rfl, rfl⟩
theorem frR_tr {lo hi : Nat} {σ σ' σ'' : mS} (h : frR lo hi σ σ') (h' : frR lo hi σ' σ'') : frR lo hi σ σ'' := ⟨fun a q => (h'.1 a q).trans (h.1 a q), h'.2.trans h.2⟩
theorem frR_I {lo hi : Nat} {σ : mS} {a j : Nat} {x : Int32} (h : lo ≤ a ∧ a < hi) : frR lo hi σ (uI σ a j x) := ⟨fun q hq => (uI_ne (by omega)).1, rfl⟩
theorem frR_M {lo hi : Nat} {σ σ' : mS} (h : frR lo hi σ σ') (hh : hi ≤ 81) : frM σ σ' := fun a h1 h2 => ⟨h.1 a (by omega), by rw [h.2], by rw [h.2]⟩
theorem nle {c i : Nat} {x : Int32} (hx : x = Int32.ofNat c) (h : i < c) (hc : c < 2147483648) : ¬ x ≤ Int32.ofNat i := by
  rw [hx]; intro q; exact absurd ((on_le hc (by omega)).mp q) (by omega)
theorem yle {c i : Nat} {x : Int32} (hx : x = Int32.ofNat c) (h : c ≤ i) (hi : i < 2147483648) : x ≤ Int32.ofNat i := by
  rw [hx]; exact (on_le (by omega) hi).mpr h
theorem lp_48d {w : mT} {t d : Nat} {Q : Option (Option Value) → Hp → Prop} (hw : lit w) : ∀ (n i : Nat) (σ : mS), i + n = 2 → (∀ σ', frR 35 49 σ σ' → Q (some none) (mW w σ')) → Wp 48 93 [.ref 35, .ref t, .int (Int32.ofNat i)] [] (mW w σ) Q d := by
  intro n
  induction n with
  | zero =>
    intro i σ hi hQ
    refine b48_93 ?_
    simp only [↓rF_I, ↓rF_L, ↓rF_R, ↓rF_N, rO_m, rB_m, ↓rI_m, wI_m, ↓rB2_m, ↓rB3_m, wB2_m, wB3_m, ↓rL_m, wL_m, ↓rQ_m, wQ_m, ↓lI_m, pI_m, pL_m, pR_m, sI_m, sBy_m, sBo_m, sL_m, sQ_m, fst_m, true_and, and_true, tg_some, ln_some, uI_1, uI_2, uL_1, uL_2, uL_3, uQ_1, uQ_2, uQ_3, rv_i, rv_l, rv_n, rv_b0, rv_b1, RMR, ne_eq, reduceCtorEq, not_false_eq_true, Option.getD_some, if_true, if_false, and_self, false_and, and_false, Nat.add_left_cancel_iff, Nat.add_eq_left, Nat.left_eq_add, Nat.one_ne_zero, Nat.reduceAdd, Nat.reduceLT, Nat.reduceLeDiff, Nat.reduceEqDiff, RCX 0, RCG 2, RCT 4, RCT 15, RCT 25, RCS 35, RCS 49, RCH 63, RCP 67, RCB 72, RCR 77, RCM 81, RLY, lit_at hw, true_implies, false_implies, implies_true, Option.some.injEq, forall_eq', forall_eq, reduceCtorEq, brT, brF, br_s, i_10, i_01, ib_0_2, ib_1_2, tn_0, tn_1, Int32.le_refl, eq_self, yle (x := 2) (c := 2) (i := i) rfl (by omega) (by omega)]
    exact hQ σ frR_rf
  | succ n ih =>
    intro i σ hi hQ
    refine b48_93 ?_
    simp only [↓rF_I, ↓rF_L, ↓rF_R, ↓rF_N, rO_m, rB_m, ↓rI_m, wI_m, ↓rB2_m, ↓rB3_m, wB2_m, wB3_m, ↓rL_m, wL_m, ↓rQ_m, wQ_m, ↓lI_m, pI_m, pL_m, pR_m, sI_m, sBy_m, sBo_m, sL_m, sQ_m, fst_m, true_and, and_true, tg_some, ln_some, uI_1, uI_2, uL_1, uL_2, uL_3, uQ_1, uQ_2, uQ_3, rv_i, rv_l, rv_n, rv_b0, rv_b1, RMR, ne_eq, reduceCtorEq, not_false_eq_true, Option.getD_some, if_true, if_false, and_self, false_and, and_false, Nat.add_left_cancel_iff, Nat.add_eq_left, Nat.left_eq_add, Nat.one_ne_zero, Nat.reduceAdd, Nat.reduceLT, Nat.reduceLeDiff, Nat.reduceEqDiff, RCX 0, RCG 2, RCT 4, RCT 15, RCT 25, RCS 35, RCS 49, RCH 63, RCP 67, RCB 72, RCR 77, RCM 81, RLY, lit_at hw, true_implies, false_implies, implies_true, Option.some.injEq, forall_eq', forall_eq, reduceCtorEq, brT, brF, br_s, i_10, i_01, ib_0_2, ib_1_2, tn_0, tn_1, Int32.le_refl, eq_self, nle (x := 2) (c := 2) (i := i) rfl (by omega) (by omega), on_inB (i := i) (n := 2) (by omega) (by omega), on_nat (i := i) (by omega), on_succ]
    exact ih (i + 1) _ (by omega) (fun σ' h => hQ σ' (frR_tr (by repeat (first | exact frR_I (by decide) | refine frR_tr ?_ (frR_I (by decide)))) h))
theorem lp_48c {w : mT} {t d : Nat} {Q : Option (Option Value) → Hp → Prop} (hw : lit w) : ∀ (n i : Nat) (σ : mS), i + n = 8 → (∀ σ', frR 35 49 σ σ' → Q (some none) (mW w σ')) → Wp 48 58 [.ref 35, .ref t, .int (Int32.ofNat i)] [] (mW w σ) Q d := by
  intro n
  induction n with
  | zero =>
    intro i σ hi hQ
    refine b48_58 ?_
    simp only [↓rF_I, ↓rF_L, ↓rF_R, ↓rF_N, rO_m, rB_m, ↓rI_m, wI_m, ↓rB2_m, ↓rB3_m, wB2_m, wB3_m, ↓rL_m, wL_m, ↓rQ_m, wQ_m, ↓lI_m, pI_m, pL_m, pR_m, sI_m, sBy_m, sBo_m, sL_m, sQ_m, fst_m, true_and, and_true, tg_some, ln_some, uI_1, uI_2, uL_1, uL_2, uL_3, uQ_1, uQ_2, uQ_3, rv_i, rv_l, rv_n, rv_b0, rv_b1, RMR, ne_eq, reduceCtorEq, not_false_eq_true, Option.getD_some, if_true, if_false, and_self, false_and, and_false, Nat.add_left_cancel_iff, Nat.add_eq_left, Nat.left_eq_add, Nat.one_ne_zero, Nat.reduceAdd, Nat.reduceLT, Nat.reduceLeDiff, Nat.reduceEqDiff, RCX 0, RCG 2, RCT 4, RCT 15, RCT 25, RCS 35, RCS 49, RCH 63, RCP 67, RCB 72, RCR 77, RCM 81, RLY, lit_at hw, true_implies, false_implies, implies_true, Option.some.injEq, forall_eq', forall_eq, reduceCtorEq, brT, brF, br_s, i_10, i_01, ib_0_2, ib_1_2, tn_0, tn_1, Int32.le_refl, eq_self, yle (x := 8) (c := 8) (i := i) rfl (by omega) (by omega)]
    exact lp_48d hw 2 0 σ rfl hQ
  | succ n ih =>
    intro i σ hi hQ
    refine b48_58 ?_
    simp only [↓rF_I, ↓rF_L, ↓rF_R, ↓rF_N, rO_m, rB_m, ↓rI_m, wI_m, ↓rB2_m, ↓rB3_m, wB2_m, wB3_m, ↓rL_m, wL_m, ↓rQ_m, wQ_m, ↓lI_m, pI_m, pL_m, pR_m, sI_m, sBy_m, sBo_m, sL_m, sQ_m, fst_m, true_and, and_true, tg_some, ln_some, uI_1, uI_2, uL_1, uL_2, uL_3, uQ_1, uQ_2, uQ_3, rv_i, rv_l, rv_n, rv_b0, rv_b1, RMR, ne_eq, reduceCtorEq, not_false_eq_true, Option.getD_some, if_true, if_false, and_self, false_and, and_false, Nat.add_left_cancel_iff, Nat.add_eq_left, Nat.left_eq_add, Nat.one_ne_zero, Nat.reduceAdd, Nat.reduceLT, Nat.reduceLeDiff, Nat.reduceEqDiff, RCX 0, RCG 2, RCT 4, RCT 15, RCT 25, RCS 35, RCS 49, RCH 63, RCP 67, RCB 72, RCR 77, RCM 81, RLY, lit_at hw, true_implies, false_implies, implies_true, Option.some.injEq, forall_eq', forall_eq, reduceCtorEq, brT, brF, br_s, i_10, i_01, ib_0_2, ib_1_2, tn_0, tn_1, Int32.le_refl, eq_self, nle (x := 8) (c := 8) (i := i) rfl (by omega) (by omega), on_inB (i := i) (n := 8) (by omega) (by omega), on_nat (i := i) (by omega), on_succ]
    exact ih (i + 1) _ (by omega) (fun σ' h => hQ σ' (frR_tr (by repeat (first | exact frR_I (by decide) | refine frR_tr ?_ (frR_I (by decide)))) h))
theorem lp_48b {w : mT} {t d : Nat} {Q : Option (Option Value) → Hp → Prop} (hw : lit w) : ∀ (n i : Nat) (σ : mS), i + n = 3 → (∀ σ', frR 35 49 σ σ' → Q (some none) (mW w σ')) → Wp 48 38 [.ref 35, .ref t, .int (Int32.ofNat i)] [] (mW w σ) Q d := by
  intro n
  induction n with
  | zero =>
    intro i σ hi hQ
    refine b48_38 ?_
    simp only [↓rF_I, ↓rF_L, ↓rF_R, ↓rF_N, rO_m, rB_m, ↓rI_m, wI_m, ↓rB2_m, ↓rB3_m, wB2_m, wB3_m, ↓rL_m, wL_m, ↓rQ_m, wQ_m, ↓lI_m, pI_m, pL_m, pR_m, sI_m, sBy_m, sBo_m, sL_m, sQ_m, fst_m, true_and, and_true, tg_some, ln_some, uI_1, uI_2, uL_1, uL_2, uL_3, uQ_1, uQ_2, uQ_3, rv_i, rv_l, rv_n, rv_b0, rv_b1, RMR, ne_eq, reduceCtorEq, not_false_eq_true, Option.getD_some, if_true, if_false, and_self, false_and, and_false, Nat.add_left_cancel_iff, Nat.add_eq_left, Nat.left_eq_add, Nat.one_ne_zero, Nat.reduceAdd, Nat.reduceLT, Nat.reduceLeDiff, Nat.reduceEqDiff, RCX 0, RCG 2, RCT 4, RCT 15, RCT 25, RCS 35, RCS 49, RCH 63, RCP 67, RCB 72, RCR 77, RCM 81, RLY, lit_at hw, true_implies, false_implies, implies_true, Option.some.injEq, forall_eq', forall_eq, reduceCtorEq, brT, brF, br_s, i_10, i_01, ib_0_2, ib_1_2, tn_0, tn_1, Int32.le_refl, eq_self, yle (x := 3) (c := 3) (i := i) rfl (by omega) (by omega)]
    exact lp_48c hw 8 0 σ rfl hQ
  | succ n ih =>
    intro i σ hi hQ
    refine b48_38 ?_
    simp only [↓rF_I, ↓rF_L, ↓rF_R, ↓rF_N, rO_m, rB_m, ↓rI_m, wI_m, ↓rB2_m, ↓rB3_m, wB2_m, wB3_m, ↓rL_m, wL_m, ↓rQ_m, wQ_m, ↓lI_m, pI_m, pL_m, pR_m, sI_m, sBy_m, sBo_m, sL_m, sQ_m, fst_m, true_and, and_true, tg_some, ln_some, uI_1, uI_2, uL_1, uL_2, uL_3, uQ_1, uQ_2, uQ_3, rv_i, rv_l, rv_n, rv_b0, rv_b1, RMR, ne_eq, reduceCtorEq, not_false_eq_true, Option.getD_some, if_true, if_false, and_self, false_and, and_false, Nat.add_left_cancel_iff, Nat.add_eq_left, Nat.left_eq_add, Nat.one_ne_zero, Nat.reduceAdd, Nat.reduceLT, Nat.reduceLeDiff, Nat.reduceEqDiff, RCX 0, RCG 2, RCT 4, RCT 15, RCT 25, RCS 35, RCS 49, RCH 63, RCP 67, RCB 72, RCR 77, RCM 81, RLY, lit_at hw, true_implies, false_implies, implies_true, Option.some.injEq, forall_eq', forall_eq, reduceCtorEq, brT, brF, br_s, i_10, i_01, ib_0_2, ib_1_2, tn_0, tn_1, Int32.le_refl, eq_self, nle (x := 3) (c := 3) (i := i) rfl (by omega) (by omega), on_inB (i := i) (n := 3) (by omega) (by omega), on_nat (i := i) (by omega), on_succ]
    exact ih (i + 1) _ (by omega) (fun σ' h => hQ σ' (frR_tr (by repeat (first | exact frR_I (by decide) | refine frR_tr ?_ (frR_I (by decide)))) h))
theorem lp_48a {w : mT} {d : Nat} {Q : Option (Option Value) → Hp → Prop} (hw : lit w) : ∀ (n i : Nat) (σ : mS), i + n = 12 → (∀ σ', frR 35 49 σ σ' → Q (some none) (mW w σ')) → Wp 48 12 [.ref 35, .ref 25, .int (Int32.ofNat i)] [] (mW w σ) Q d := by
  intro n
  induction n with
  | zero =>
    intro i σ hi hQ
    refine b48_12 ?_
    simp only [↓rF_I, ↓rF_L, ↓rF_R, ↓rF_N, rO_m, rB_m, ↓rI_m, wI_m, ↓rB2_m, ↓rB3_m, wB2_m, wB3_m, ↓rL_m, wL_m, ↓rQ_m, wQ_m, ↓lI_m, pI_m, pL_m, pR_m, sI_m, sBy_m, sBo_m, sL_m, sQ_m, fst_m, true_and, and_true, tg_some, ln_some, uI_1, uI_2, uL_1, uL_2, uL_3, uQ_1, uQ_2, uQ_3, rv_i, rv_l, rv_n, rv_b0, rv_b1, RMR, ne_eq, reduceCtorEq, not_false_eq_true, Option.getD_some, if_true, if_false, and_self, false_and, and_false, Nat.add_left_cancel_iff, Nat.add_eq_left, Nat.left_eq_add, Nat.one_ne_zero, Nat.reduceAdd, Nat.reduceLT, Nat.reduceLeDiff, Nat.reduceEqDiff, RCX 0, RCG 2, RCT 4, RCT 15, RCT 25, RCS 35, RCS 49, RCH 63, RCP 67, RCB 72, RCR 77, RCM 81, RLY, lit_at hw, true_implies, false_implies, implies_true, Option.some.injEq, forall_eq', forall_eq, reduceCtorEq, brT, brF, br_s, i_10, i_01, ib_0_2, ib_1_2, tn_0, tn_1, Int32.le_refl, eq_self, yle (x := 12) (c := 12) (i := i) rfl (by omega) (by omega)]
    exact lp_48b hw 3 0 σ rfl hQ
  | succ n ih =>
    intro i σ hi hQ
    refine b48_12 ?_
    simp only [↓rF_I, ↓rF_L, ↓rF_R, ↓rF_N, rO_m, rB_m, ↓rI_m, wI_m, ↓rB2_m, ↓rB3_m, wB2_m, wB3_m, ↓rL_m, wL_m, ↓rQ_m, wQ_m, ↓lI_m, pI_m, pL_m, pR_m, sI_m, sBy_m, sBo_m, sL_m, sQ_m, fst_m, true_and, and_true, tg_some, ln_some, uI_1, uI_2, uL_1, uL_2, uL_3, uQ_1, uQ_2, uQ_3, rv_i, rv_l, rv_n, rv_b0, rv_b1, RMR, ne_eq, reduceCtorEq, not_false_eq_true, Option.getD_some, if_true, if_false, and_self, false_and, and_false, Nat.add_left_cancel_iff, Nat.add_eq_left, Nat.left_eq_add, Nat.one_ne_zero, Nat.reduceAdd, Nat.reduceLT, Nat.reduceLeDiff, Nat.reduceEqDiff, RCX 0, RCG 2, RCT 4, RCT 15, RCT 25, RCS 35, RCS 49, RCH 63, RCP 67, RCB 72, RCR 77, RCM 81, RLY, lit_at hw, true_implies, false_implies, implies_true, Option.some.injEq, forall_eq', forall_eq, reduceCtorEq, brT, brF, br_s, i_10, i_01, ib_0_2, ib_1_2, tn_0, tn_1, Int32.le_refl, eq_self, nle (x := 12) (c := 12) (i := i) rfl (by omega) (by omega), on_inB (i := i) (n := 12) (by omega) (by omega), on_nat (i := i) (by omega), on_succ]
    exact ih (i + 1) _ (by omega) (fun σ' h => hQ σ' (frR_tr (by repeat (first | exact frR_I (by decide) | refine frR_tr ?_ (frR_I (by decide)))) h))
theorem ex_48 {w : mT} {σ : mS} {D : Nat} (hw : lit w) (hD : 1 ≤ D) : ∃ w' σ', (w' = w ∧ frR 35 49 σ σ') ∧ ∀ K, wpV D 48 [.ref 35, .ref 25] (mW w σ) K ↔ K (mW w' σ') := by
  refine cV_ex (m := 0) (fun d hd Q hQ => ?_) rfl hD
  refine b48_0 ?_
  simp only [↓rF_I, ↓rF_L, ↓rF_R, ↓rF_N, rO_m, rB_m, ↓rI_m, wI_m, ↓rB2_m, ↓rB3_m, wB2_m, wB3_m, ↓rL_m, wL_m, ↓rQ_m, wQ_m, ↓lI_m, pI_m, pL_m, pR_m, sI_m, sBy_m, sBo_m, sL_m, sQ_m, fst_m, true_and, and_true, tg_some, ln_some, uI_1, uI_2, uL_1, uL_2, uL_3, uQ_1, uQ_2, uQ_3, rv_i, rv_l, rv_n, rv_b0, rv_b1, RMR, ne_eq, reduceCtorEq, not_false_eq_true, Option.getD_some, if_true, if_false, and_self, false_and, and_false, Nat.add_left_cancel_iff, Nat.add_eq_left, Nat.left_eq_add, Nat.one_ne_zero, Nat.reduceAdd, Nat.reduceLT, Nat.reduceLeDiff, Nat.reduceEqDiff, RCX 0, RCG 2, RCT 4, RCT 15, RCT 25, RCS 35, RCS 49, RCH 63, RCP 67, RCB 72, RCR 77, RCM 81, RLY, lit_at hw, true_implies, false_implies, implies_true, Option.some.injEq, forall_eq', forall_eq, reduceCtorEq, brT, brF, br_s, i_10, i_01, ib_0_2, ib_1_2, tn_0, tn_1, Int32.le_refl, eq_self]
  exact lp_48a hw 12 0 _ rfl (fun σ' h => hQ w σ' ⟨rfl, frR_tr (by repeat (first | exact frR_I (by decide) | refine frR_tr ?_ (frR_I (by decide)))) h⟩)
def fgt (σ : mS) : mS := uI (uI (uI σ 63 2 0) 66 0 0) 66 1 0
theorem fr_9 {w : mT} {σ : mS} {D : Nat} {K : Hp → Prop} (hw : lit w) (hD : 1 ≤ D) : wpV D 9 [.ref 63] (mW w σ) K ↔ K (mW w (fgt σ)) := by
  refine cV_of (m := 0) (fun d hd Q hQ => ?_) rfl hD
  refine b9_0 ?_
  simp only [↓rF_I, ↓rF_L, ↓rF_R, ↓rF_N, rO_m, rB_m, ↓rI_m, wI_m, ↓rB2_m, ↓rB3_m, wB2_m, wB3_m, ↓rL_m, wL_m, ↓rQ_m, wQ_m, ↓lI_m, pI_m, pL_m, pR_m, sI_m, sBy_m, sBo_m, sL_m, sQ_m, fst_m, true_and, and_true, tg_some, ln_some, uI_1, uI_2, uL_1, uL_2, uL_3, uQ_1, uQ_2, uQ_3, rv_i, rv_l, rv_n, rv_b0, rv_b1, RMR, ne_eq, reduceCtorEq, not_false_eq_true, Option.getD_some, if_true, if_false, and_self, false_and, and_false, Nat.add_left_cancel_iff, Nat.add_eq_left, Nat.left_eq_add, Nat.one_ne_zero, Nat.reduceAdd, Nat.reduceLT, Nat.reduceLeDiff, Nat.reduceEqDiff, RCX 0, RCG 2, RCT 4, RCT 15, RCT 25, RCS 35, RCS 49, RCH 63, RCP 67, RCB 72, RCR 77, RCM 81, RLY, lit_at hw, true_implies, false_implies, implies_true, Option.some.injEq, forall_eq', forall_eq, reduceCtorEq, brT, brF, br_s, i_10, i_01, ib_0_2, ib_1_2, tn_0, tn_1, Int32.le_refl, eq_self]
  refine b9_7 ?_
  simp only [↓rF_I, ↓rF_L, ↓rF_R, ↓rF_N, rO_m, rB_m, ↓rI_m, wI_m, ↓rB2_m, ↓rB3_m, wB2_m, wB3_m, ↓rL_m, wL_m, ↓rQ_m, wQ_m, ↓lI_m, pI_m, pL_m, pR_m, sI_m, sBy_m, sBo_m, sL_m, sQ_m, fst_m, true_and, and_true, tg_some, ln_some, uI_1, uI_2, uL_1, uL_2, uL_3, uQ_1, uQ_2, uQ_3, rv_i, rv_l, rv_n, rv_b0, rv_b1, RMR, ne_eq, reduceCtorEq, not_false_eq_true, Option.getD_some, if_true, if_false, and_self, false_and, and_false, Nat.add_left_cancel_iff, Nat.add_eq_left, Nat.left_eq_add, Nat.one_ne_zero, Nat.reduceAdd, Nat.reduceLT, Nat.reduceLeDiff, Nat.reduceEqDiff, RCX 0, RCG 2, RCT 4, RCT 15, RCT 25, RCS 35, RCS 49, RCH 63, RCP 67, RCB 72, RCR 77, RCM 81, RLY, lit_at hw, true_implies, false_implies, implies_true, Option.some.injEq, forall_eq', forall_eq, reduceCtorEq, brT, brF, br_s, i_10, i_01, ib_0_2, ib_1_2, tn_0, tn_1, Int32.le_refl, eq_self, l2_0, vn_b0]
  refine b9_7 ?_
  simp only [↓rF_I, ↓rF_L, ↓rF_R, ↓rF_N, rO_m, rB_m, ↓rI_m, wI_m, ↓rB2_m, ↓rB3_m, wB2_m, wB3_m, ↓rL_m, wL_m, ↓rQ_m, wQ_m, ↓lI_m, pI_m, pL_m, pR_m, sI_m, sBy_m, sBo_m, sL_m, sQ_m, fst_m, true_and, and_true, tg_some, ln_some, uI_1, uI_2, uL_1, uL_2, uL_3, uQ_1, uQ_2, uQ_3, rv_i, rv_l, rv_n, rv_b0, rv_b1, RMR, ne_eq, reduceCtorEq, not_false_eq_true, Option.getD_some, if_true, if_false, and_self, false_and, and_false, Nat.add_left_cancel_iff, Nat.add_eq_left, Nat.left_eq_add, Nat.one_ne_zero, Nat.reduceAdd, Nat.reduceLT, Nat.reduceLeDiff, Nat.reduceEqDiff, RCX 0, RCG 2, RCT 4, RCT 15, RCT 25, RCS 35, RCS 49, RCH 63, RCP 67, RCB 72, RCR 77, RCM 81, RLY, lit_at hw, true_implies, false_implies, implies_true, Option.some.injEq, forall_eq', forall_eq, reduceCtorEq, brT, brF, br_s, i_10, i_01, ib_0_2, ib_1_2, tn_0, tn_1, Int32.le_refl, eq_self, l2_1, ib_1p, tn_1p, vn_b0]
  refine b9_7 ?_
  simp only [↓rF_I, ↓rF_L, ↓rF_R, ↓rF_N, rO_m, rB_m, ↓rI_m, wI_m, ↓rB2_m, ↓rB3_m, wB2_m, wB3_m, ↓rL_m, wL_m, ↓rQ_m, wQ_m, ↓lI_m, pI_m, pL_m, pR_m, sI_m, sBy_m, sBo_m, sL_m, sQ_m, fst_m, true_and, and_true, tg_some, ln_some, uI_1, uI_2, uL_1, uL_2, uL_3, uQ_1, uQ_2, uQ_3, rv_i, rv_l, rv_n, rv_b0, rv_b1, RMR, ne_eq, reduceCtorEq, not_false_eq_true, Option.getD_some, if_true, if_false, and_self, false_and, and_false, Nat.add_left_cancel_iff, Nat.add_eq_left, Nat.left_eq_add, Nat.one_ne_zero, Nat.reduceAdd, Nat.reduceLT, Nat.reduceLeDiff, Nat.reduceEqDiff, RCX 0, RCG 2, RCT 4, RCT 15, RCT 25, RCS 35, RCS 49, RCH 63, RCP 67, RCB 72, RCR 77, RCM 81, RLY, lit_at hw, true_implies, false_implies, implies_true, Option.some.injEq, forall_eq', forall_eq, reduceCtorEq, brT, brF, br_s, i_10, i_01, ib_0_2, ib_1_2, tn_0, tn_1, Int32.le_refl, eq_self, l2_2]
  exact hQ
def clr (σ : mS) : mS := uI (uI (uI (uI (uI σ 25 0 0) 25 1 1) 25 2 0) 25 3 0) 25 4 0
theorem fr_69 {w : mT} {σ : mS} {D : Nat} {K : Hp → Prop} (hw : lit w) (hD : 1 ≤ D) : wpV D 69 [.ref 25] (mW w σ) K ↔ K (mW w (clr σ)) := by
  refine cV_of (m := 0) (fun d hd Q hQ => ?_) rfl hD
  refine b69_0 ?_
  simp only [↓rF_I, ↓rF_L, ↓rF_R, ↓rF_N, rO_m, rB_m, ↓rI_m, wI_m, ↓rB2_m, ↓rB3_m, wB2_m, wB3_m, ↓rL_m, wL_m, ↓rQ_m, wQ_m, ↓lI_m, pI_m, pL_m, pR_m, sI_m, sBy_m, sBo_m, sL_m, sQ_m, fst_m, true_and, and_true, tg_some, ln_some, uI_1, uI_2, uL_1, uL_2, uL_3, uQ_1, uQ_2, uQ_3, rv_i, rv_l, rv_n, rv_b0, rv_b1, RMR, ne_eq, reduceCtorEq, not_false_eq_true, Option.getD_some, if_true, if_false, and_self, false_and, and_false, Nat.add_left_cancel_iff, Nat.add_eq_left, Nat.left_eq_add, Nat.one_ne_zero, Nat.reduceAdd, Nat.reduceLT, Nat.reduceLeDiff, Nat.reduceEqDiff, RCX 0, RCG 2, RCT 4, RCT 15, RCT 25, RCS 35, RCS 49, RCH 63, RCP 67, RCB 72, RCR 77, RCM 81, RLY, lit_at hw, true_implies, false_implies, implies_true, Option.some.injEq, forall_eq', forall_eq, reduceCtorEq, brT, brF, br_s, i_10, i_01, ib_0_2, ib_1_2, tn_0, tn_1, Int32.le_refl, eq_self]
  exact hQ
def adv0 (σ : mS) : mS := uI (uI (uI σ 2 2 0) 2 3 0) 2 4 0
theorem i_00 : ((0 : Int32) < 0) ↔ False := iff_false_intro (by decide)
theorem fr_39 {w : mT} {σ : mS} {D : Nat} {K : Hp → Prop} (hw : lit w) (h3 : σ.1 2 3 = 0) (h1 : σ.1 2 1 = 0) (hD : 2 ≤ D) : wpV D 39 [.ref 2] (mW w σ) K ↔ K (mW w (adv0 σ)) := by
  refine cV_of (m := 1) (fun d hd Q hQ => ?_) rfl hD
  refine b39_0 ?_
  simp only [↓rF_I, ↓rF_L, ↓rF_R, ↓rF_N, rO_m, rB_m, ↓rI_m, wI_m, ↓rB2_m, ↓rB3_m, wB2_m, wB3_m, ↓rL_m, wL_m, ↓rQ_m, wQ_m, ↓lI_m, pI_m, pL_m, pR_m, sI_m, sBy_m, sBo_m, sL_m, sQ_m, fst_m, true_and, and_true, tg_some, ln_some, uI_1, uI_2, uL_1, uL_2, uL_3, uQ_1, uQ_2, uQ_3, rv_i, rv_l, rv_n, rv_b0, rv_b1, RMR, ne_eq, reduceCtorEq, not_false_eq_true, Option.getD_some, if_true, if_false, and_self, false_and, and_false, Nat.add_left_cancel_iff, Nat.add_eq_left, Nat.left_eq_add, Nat.one_ne_zero, Nat.reduceAdd, Nat.reduceLT, Nat.reduceLeDiff, Nat.reduceEqDiff, RCX 0, RCG 2, RCT 4, RCT 15, RCT 25, RCS 35, RCS 49, RCH 63, RCP 67, RCB 72, RCR 77, RCM 81, RLY, lit_at hw, true_implies, false_implies, implies_true, Option.some.injEq, forall_eq', forall_eq, reduceCtorEq, brT, brF, br_s, i_10, i_01, ib_0_2, ib_1_2, tn_0, tn_1, Int32.le_refl, eq_self, h3]
  refine b39_8 ?_
  simp only [↓rF_I, ↓rF_L, ↓rF_R, ↓rF_N, rO_m, rB_m, ↓rI_m, wI_m, ↓rB2_m, ↓rB3_m, wB2_m, wB3_m, ↓rL_m, wL_m, ↓rQ_m, wQ_m, ↓lI_m, pI_m, pL_m, pR_m, sI_m, sBy_m, sBo_m, sL_m, sQ_m, fst_m, true_and, and_true, tg_some, ln_some, uI_1, uI_2, uL_1, uL_2, uL_3, uQ_1, uQ_2, uQ_3, rv_i, rv_l, rv_n, rv_b0, rv_b1, RMR, ne_eq, reduceCtorEq, not_false_eq_true, Option.getD_some, if_true, if_false, and_self, false_and, and_false, Nat.add_left_cancel_iff, Nat.add_eq_left, Nat.left_eq_add, Nat.one_ne_zero, Nat.reduceAdd, Nat.reduceLT, Nat.reduceLeDiff, Nat.reduceEqDiff, RCX 0, RCG 2, RCT 4, RCT 15, RCT 25, RCS 35, RCS 49, RCH 63, RCP 67, RCB 72, RCR 77, RCM 81, RLY, lit_at hw, true_implies, false_implies, implies_true, Option.some.injEq, forall_eq', forall_eq, reduceCtorEq, brT, brF, br_s, i_10, i_01, ib_0_2, ib_1_2, tn_0, tn_1, Int32.le_refl, eq_self, h1, i_00, Nat.reduceEqDiff]
  exact hQ
theorem l600 : ((600 : Int32) ≤ 0) ↔ False := iff_false_intro (by decide)
theorem o600 : (Int32.ofNat 600 < 0) ↔ False := iff_false_intro (by decide)
def rd0 (σ : mS) : mS := adv0 (clr (uI (uQ (uI (uI (uI (uI (uQ σ 2 0 (some 1)) 2 1 0) 2 3 0) 2 5 0) 2 6 0) 2 7 (some 25)) 2 9 0))
theorem fr_27 {w : mT} {σ : mS} {D : Nat} {K : Int32 → Hp → Prop} (hw : lit w) (hD : 6 ≤ D) : wpI D 27 [.ref 2, .ref 1, .int 0, .ref 25] (mW w σ) K ↔ K 0 (mW w (rd0 σ)) := by
  refine cI_of (m := 5) (fun d hd Q hQ => ?_) rfl hD
  have hd1 : 1 ≤ d := by omega
  have hd2 : 2 ≤ d := by omega
  have hd3 : 3 ≤ d := by omega
  have hd4 : 4 ≤ d := by omega
  have hd5 : 5 ≤ d := by omega
  refine b27_0 ?_
  have z3 : (clr (uI (uQ (uI (uI (uI (uI (uQ σ 2 0 (some 1)) 2 1 0) 2 3 0) 2 5 0) 2 6 0) 2 7 (some 25)) 2 9 0)).1 2 3 = 0 := by simp [clr, uI_1, uQ_1]
  have z1 : (clr (uI (uQ (uI (uI (uI (uI (uQ σ 2 0 (some 1)) 2 1 0) 2 3 0) 2 5 0) 2 6 0) 2 7 (some 25)) 2 9 0)).1 2 1 = 0 := by simp [clr, uI_1, uQ_1]
  simp only [↓rF_I, ↓rF_L, ↓rF_R, ↓rF_N, rO_m, rB_m, ↓rI_m, wI_m, ↓rB2_m, ↓rB3_m, wB2_m, wB3_m, ↓rL_m, wL_m, ↓rQ_m, wQ_m, ↓lI_m, pI_m, pL_m, pR_m, sI_m, sBy_m, sBo_m, sL_m, sQ_m, fst_m, true_and, and_true, tg_some, ln_some, uI_1, uI_2, uL_1, uL_2, uL_3, uQ_1, uQ_2, uQ_3, rv_i, rv_l, rv_n, rv_b0, rv_b1, RMR, ne_eq, reduceCtorEq, not_false_eq_true, Option.getD_some, if_true, if_false, and_self, false_and, and_false, Nat.add_left_cancel_iff, Nat.add_eq_left, Nat.left_eq_add, Nat.one_ne_zero, Nat.reduceAdd, Nat.reduceLT, Nat.reduceLeDiff, Nat.reduceEqDiff, RCX 0, RCG 2, RCT 4, RCT 15, RCT 25, RCS 35, RCS 49, RCH 63, RCP 67, RCB 72, RCR 77, RCM 81, RLY, lit_at hw, true_implies, false_implies, implies_true, Option.some.injEq, forall_eq', forall_eq, reduceCtorEq, brT, brF, br_s, i_10, i_01, ib_0_2, ib_1_2, tn_0, tn_1, Int32.le_refl, eq_self, hd1, hd2, hd3, hd4, hd5, o600, fr_69 hw, fr_39 hw z3 z1]
  refine b27_51 ?_
  have z4 : (adv0 (clr (uI (uQ (uI (uI (uI (uI (uQ σ 2 0 (some 1)) 2 1 0) 2 3 0) 2 5 0) 2 6 0) 2 7 (some 25)) 2 9 0))).1 2 4 = 0 := by simp [adv0, uI_1]
  have z5 : (adv0 (clr (uI (uQ (uI (uI (uI (uI (uQ σ 2 0 (some 1)) 2 1 0) 2 3 0) 2 5 0) 2 6 0) 2 7 (some 25)) 2 9 0))).1 2 5 = 0 := by simp [adv0, clr, uI_1, uQ_1]
  simp only [↓rF_I, ↓rF_L, ↓rF_R, ↓rF_N, rO_m, rB_m, ↓rI_m, wI_m, ↓rB2_m, ↓rB3_m, wB2_m, wB3_m, ↓rL_m, wL_m, ↓rQ_m, wQ_m, ↓lI_m, pI_m, pL_m, pR_m, sI_m, sBy_m, sBo_m, sL_m, sQ_m, fst_m, true_and, and_true, tg_some, ln_some, uI_1, uI_2, uL_1, uL_2, uL_3, uQ_1, uQ_2, uQ_3, rv_i, rv_l, rv_n, rv_b0, rv_b1, RMR, ne_eq, reduceCtorEq, not_false_eq_true, Option.getD_some, if_true, if_false, and_self, false_and, and_false, Nat.add_left_cancel_iff, Nat.add_eq_left, Nat.left_eq_add, Nat.one_ne_zero, Nat.reduceAdd, Nat.reduceLT, Nat.reduceLeDiff, Nat.reduceEqDiff, RCX 0, RCG 2, RCT 4, RCT 15, RCT 25, RCS 35, RCS 49, RCH 63, RCP 67, RCB 72, RCR 77, RCM 81, RLY, lit_at hw, true_implies, false_implies, implies_true, Option.some.injEq, forall_eq', forall_eq, reduceCtorEq, brT, brF, br_s, i_10, i_01, ib_0_2, ib_1_2, tn_0, tn_1, Int32.le_refl, eq_self, hd1, hd2, hd3, hd4, hd5, l600, z4, z5]
  exact hQ
def sT (a : Int32) : Int32 := if a = 0 then 0 else -1
theorem rd0_M {σ : mS} : frM σ (rd0 σ) := by
  unfold rd0 adv0 clr
  exact frM_tr (frM_tr (frM_tr (frM_tr (frM_tr (frM_tr (frM_tr (frM_tr (frM_tr (frM_tr (frM_tr (frM_tr (frM_tr (frM_tr (frM_Q (by omega)) (frM_I (by omega))) (frM_I (by omega))) (frM_I (by omega))) (frM_I (by omega))) (frM_Q (by omega))) (frM_I (by omega))) (frM_I (by omega))) (frM_I (by omega))) (frM_I (by omega))) (frM_I (by omega))) (frM_I (by omega))) (frM_I (by omega))) (frM_I (by omega))) (frM_I (by omega))
theorem ex_77 {w : mT} {σ : mS} {a1 : Int32} {D : Nat} (hw : lit w) (hF : frC σ) (hD : 7 ≤ D) : ∃ w' σ', (xt w w' ∧ frM σ σ') ∧ ∀ K, wpI D 77 [.ref 0, .int a1] (mW w σ) K ↔ K (sT a1) (mW w' σ') := by
  have hG := hF
  unfold frC at hF
  have hU : uI σ 0 1 0 = σ := uI_same hF.1
  refine cI_ex (m := 6) (fun d hd Q hQ => ?_) rfl hD
  have hd1 : 1 ≤ d := by omega
  have hd2 : 2 ≤ d := by omega
  have hd3 : 3 ≤ d := by omega
  have hd4 : 4 ≤ d := by omega
  have hd5 : 5 ≤ d := by omega
  have hd6 : 6 ≤ d := by omega
  refine b77_0 ?_
  by_cases h : a1 = 0
  · subst h
    rw [sT, if_pos rfl] at hQ
    have q3 : (rd0 σ).2.2 0 3 = some 15 := by simp [rd0, adv0, clr, uI_2, uI_22, uQ_3, hF]
    have q4 : (rd0 σ).2.2 0 4 = some 25 := by simp [rd0, adv0, clr, uI_2, uI_22, uQ_3, hF]
    obtain ⟨w2, σ2, ⟨rfl, p1⟩, p2⟩ := ex_48 (σ := uQ (uQ (rd0 σ) 0 3 (some 25)) 0 4 (some 15)) (D := d) hw hd1
    have y3 : σ2.2.2 0 3 = some 25 := by rw [p1.2]; simp [uQ_3]
    have y0 : σ2.1 25 0 = 0 := by rw [p1.1 25 (by omega)]; simp [uQ_1, rd0, adv0, clr, uI_1]
    have y25 : (fgt σ2).1 25 0 = 0 := by simp [fgt, uI_1, y0]
    have y2 : (fgt σ2).2.2 0 3 = some 25 := by simp [fgt, uI_22, y3]
    simp only [↓rF_I, ↓rF_L, ↓rF_R, ↓rF_N, rO_m, rB_m, ↓rI_m, wI_m, ↓rB2_m, ↓rB3_m, wB2_m, wB3_m, ↓rL_m, wL_m, ↓rQ_m, wQ_m, ↓lI_m, pI_m, pL_m, pR_m, sI_m, sBy_m, sBo_m, sL_m, sQ_m, fst_m, true_and, and_true, tg_some, ln_some, uI_1, uI_2, uL_1, uL_2, uL_3, uQ_1, uQ_2, uQ_3, rv_i, rv_l, rv_n, rv_b0, rv_b1, RMR, ne_eq, reduceCtorEq, not_false_eq_true, Option.getD_some, if_true, if_false, and_self, false_and, and_false, Nat.add_left_cancel_iff, Nat.add_eq_left, Nat.left_eq_add, Nat.one_ne_zero, Nat.reduceAdd, Nat.reduceLT, Nat.reduceLeDiff, Nat.reduceEqDiff, RCX 0, RCG 2, RCT 4, RCT 15, RCT 25, RCS 35, RCS 49, RCH 63, RCP 67, RCB 72, RCR 77, RCM 81, RLY, lit_at hw, true_implies, false_implies, implies_true, Option.some.injEq, forall_eq', forall_eq, reduceCtorEq, brT, brF, br_s, i_10, i_01, ib_0_2, ib_1_2, tn_0, tn_1, Int32.le_refl, eq_self, hF, i_00, hU, fr_27 hw, hd1, hd2, hd3, hd4, hd5, hd6, q3, q4, p2, fr_9 hw, y25, y2, Int32.lt_irrefl]
    refine hQ _ _ ⟨xt_rf hw, ?_⟩
    unfold fgt
    exact frM_tr rd0_M (frM_tr (frM_tr (frM_Q (by omega)) (frM_Q (by omega))) (frM_tr (frR_M p1 (by omega)) (frM_tr (frM_tr (frM_tr (frM_I (by omega)) (frM_I (by omega))) (frM_I (by omega))) (frM_tr (frM_tr (frM_I (by omega)) (frM_L (by omega))) (frM_L (by omega))))))
  · rw [sT, if_neg h] at hQ
    have hQ' := hQ _ _ ⟨xt_rf hw, frM_rf⟩
    by_cases g1 : a1 < 0
    · simp only [↓rF_I, ↓rF_L, ↓rF_R, ↓rF_N, rO_m, rB_m, ↓rI_m, wI_m, ↓rB2_m, ↓rB3_m, wB2_m, wB3_m, ↓rL_m, wL_m, ↓rQ_m, wQ_m, ↓lI_m, pI_m, pL_m, pR_m, sI_m, sBy_m, sBo_m, sL_m, sQ_m, fst_m, true_and, and_true, tg_some, ln_some, uI_1, uI_2, uL_1, uL_2, uL_3, uQ_1, uQ_2, uQ_3, rv_i, rv_l, rv_n, rv_b0, rv_b1, RMR, ne_eq, reduceCtorEq, not_false_eq_true, Option.getD_some, if_true, if_false, and_self, false_and, and_false, Nat.add_left_cancel_iff, Nat.add_eq_left, Nat.left_eq_add, Nat.one_ne_zero, Nat.reduceAdd, Nat.reduceLT, Nat.reduceLeDiff, Nat.reduceEqDiff, RCX 0, RCG 2, RCT 4, RCT 15, RCT 25, RCS 35, RCS 49, RCH 63, RCP 67, RCB 72, RCR 77, RCM 81, RLY, lit_at hw, true_implies, false_implies, implies_true, Option.some.injEq, forall_eq', forall_eq, reduceCtorEq, brT, brF, br_s, i_10, i_01, ib_0_2, ib_1_2, tn_0, tn_1, Int32.le_refl, eq_self, hF, g1]
      exact hQ'
    · have g2 : ¬ a1 ≤ 0 := by
        intro g2
        apply h
        rw [i_lt] at g1
        rw [i_le] at g2
        exact Int32.toInt_inj.mp (by rw [show (0 : Int32).toInt = 0 by decide] at *; omega)
      simp only [↓rF_I, ↓rF_L, ↓rF_R, ↓rF_N, rO_m, rB_m, ↓rI_m, wI_m, ↓rB2_m, ↓rB3_m, wB2_m, wB3_m, ↓rL_m, wL_m, ↓rQ_m, wQ_m, ↓lI_m, pI_m, pL_m, pR_m, sI_m, sBy_m, sBo_m, sL_m, sQ_m, fst_m, true_and, and_true, tg_some, ln_some, uI_1, uI_2, uL_1, uL_2, uL_3, uQ_1, uQ_2, uQ_3, rv_i, rv_l, rv_n, rv_b0, rv_b1, RMR, ne_eq, reduceCtorEq, not_false_eq_true, Option.getD_some, if_true, if_false, and_self, false_and, and_false, Nat.add_left_cancel_iff, Nat.add_eq_left, Nat.left_eq_add, Nat.one_ne_zero, Nat.reduceAdd, Nat.reduceLT, Nat.reduceLeDiff, Nat.reduceEqDiff, RCX 0, RCG 2, RCT 4, RCT 15, RCT 25, RCS 35, RCS 49, RCH 63, RCP 67, RCB 72, RCR 77, RCM 81, RLY, lit_at hw, true_implies, false_implies, implies_true, Option.some.injEq, forall_eq', forall_eq, reduceCtorEq, brT, brF, br_s, i_10, i_01, ib_0_2, ib_1_2, tn_0, tn_1, Int32.le_refl, eq_self, hF, g1, g2]
      exact hQ'
