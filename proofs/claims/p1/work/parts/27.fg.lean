def xt (w w' : mT) : Prop := w'.1 = w.1 ∧ w'.2.1 = w.2.1 ∧ lit w' ∧ w'.2.2.1 = w.2.2.1 ∧ w'.2.2.2.length ≤ w.2.2.2.length + 20 ∧ mSz w'.2.2.2 ≤ mSz w.2.2.2 + 3000
theorem xt_rf {w : mT} (h : lit w) : xt w w := ⟨rfl, rfl, h, rfl, by omega, by omega⟩
theorem wpC_ex {m D k : Nat} {as : List Value} {hp : Hp} {P : mT → mS → Prop} {r : Option (Option Value)} (hx : ∀ d, m ≤ d → ∀ Q : Option (Option Value) → Hp → Prop, (∀ w' σ', P w' σ' → Q r (mW w' σ')) → Wp k 0 (enL as (ML k)) [] hp Q d) (hb : Nat.ble (enF as).length (ML k) = true) (hD : m + 1 ≤ D) : ∃ w' σ', P w' σ' ∧ ∀ kr kt, wpC D k as hp kr kt ↔ kO kr kt r (mW w' σ') := by
  obtain ⟨d, rfl⟩ : ∃ d, D = d + 1 := ⟨D - 1, by omega⟩
  obtain ⟨n, r', h2, h3, w', σ', h4, h5, h6⟩ := hx d (by omega) (fun r' h' => ∃ w' σ', P w' σ' ∧ r' = r ∧ h' = mW w' σ') (fun w' σ' h => ⟨w', σ', h, rfl, rfl⟩)
  subst h5; subst h6
  refine ⟨w', σ', h4, fun kr kt => ?_⟩
  have key : Wp k 0 (enL as (ML k)) [] hp (fun r'' h'' => r'' = r' ∧ h'' = mW w' σ') d := ⟨n, r', _, h3, rfl, rfl⟩
  constructor
  · rintro ⟨d', hd, -, h7⟩
    obtain rfl : d = d' := by omega
    obtain ⟨r3, h8, ⟨e1, e2⟩, h9⟩ := Wp_det key h7
    subst e1; subst e2
    exact h9
  · intro h
    exact ⟨d, rfl, hb, n, r', _, h3, h⟩
theorem cI_ex {m D k : Nat} {as : List Value} {hp : Hp} {P : mT → mS → Prop} {x : Int32} (hx : ∀ d, m ≤ d → ∀ Q : Option (Option Value) → Hp → Prop, (∀ w' σ', P w' σ' → Q (some (some (.int x))) (mW w' σ')) → Wp k 0 (enL as (ML k)) [] hp Q d) (hb : Nat.ble (enF as).length (ML k) = true) (hD : m + 1 ≤ D) : ∃ w' σ', P w' σ' ∧ ∀ K, wpI D k as hp K ↔ K x (mW w' σ') := by
  obtain ⟨w', σ', h1, h2⟩ := wpC_ex hx hb hD
  refine ⟨w', σ', h1, fun K => ?_⟩
  unfold wpI
  rw [h2]
  constructor
  · rintro ⟨y, e, h⟩; cases e; exact h
  · intro h; exact ⟨x, rfl, h⟩
theorem cV_ex {m D k : Nat} {as : List Value} {hp : Hp} {P : mT → mS → Prop} (hx : ∀ d, m ≤ d → ∀ Q : Option (Option Value) → Hp → Prop, (∀ w' σ', P w' σ' → Q (some none) (mW w' σ')) → Wp k 0 (enL as (ML k)) [] hp Q d) (hb : Nat.ble (enF as).length (ML k) = true) (hD : m + 1 ≤ D) : ∃ w' σ', P w' σ' ∧ ∀ K, wpV D k as hp K ↔ K (mW w' σ') := by
  obtain ⟨w', σ', h1, h2⟩ := wpC_ex hx hb hD
  refine ⟨w', σ', h1, fun K => ?_⟩
  unfold wpV
  rw [h2]
  constructor
  · rintro ⟨-, h⟩; exact h
  · intro h; exact ⟨rfl, h⟩
/-- one byte on the tape -/
def pb1 (σ : mS) (x : Int32) : mS := uI (uI σ 1 (σ.1 0 1).toNatClampNeg x) 0 1 (σ.1 0 1 + 1)
theorem pb1_t {σ : mS} {x : Int32} (h : 0 ≤ (σ.1 0 1).toInt) (h2 : (σ.1 0 1).toInt < 600) : ((pb1 σ x).1 0 1).toInt = (σ.1 0 1).toInt + 1 := by
  have e : (pb1 σ x).1 0 1 = σ.1 0 1 + 1 := by simp [pb1, uI]
  rw [e, i_add (by rw [show (1 : Int32).toInt = 1 by decide]; omega) (by rw [show (1 : Int32).toInt = 1 by decide]; omega)]
  rfl
theorem pb1_M {σ : mS} {x : Int32} : frM σ (pb1 σ x) := frM_tr (frM_I (by omega)) (frM_I (by omega))
theorem pb_step {w : mT} {σ : mS} {a1 a2 : Int32} {Q : Option (Option Value) → Hp → Prop} {d : Nat} (hw : lit w) (h : 0 ≤ (σ.1 0 1).toInt) (h2 : (σ.1 0 1).toInt < 600) (ha : ¬ a2 < 0) (hn : Wp 117 3 [.ref 0, .int a1, .int (a2 + -8)] [] (mW w (pb1 σ ((a1 >>> (a2 &&& 31)) &&& 255))) Q d) : Wp 117 3 [.ref 0, .int a1, .int a2] [] (mW w σ) Q d := by
  refine b117_3 ?_
  have e : ¬ (600 : Int32) ≤ σ.1 0 1 := by rw [i_le, show (600 : Int32).toInt = 600 by decide]; omega
  simp only [↓rF_I, ↓rF_L, ↓rF_R, ↓rF_N, rO_m, rB_m, ↓rI_m, wI_m, ↓rB2_m, ↓rB3_m, wB2_m, wB3_m, ↓rL_m, wL_m, ↓rQ_m, wQ_m, ↓lI_m, pI_m, pL_m, pR_m, sI_m, sBy_m, sBo_m, sL_m, sQ_m, fst_m, true_and, and_true, tg_some, ln_some, uI_1, uI_2, uL_1, uL_2, uL_3, uQ_1, uQ_2, uQ_3, rv_i, rv_l, rv_n, rv_b0, rv_b1, RMR, ne_eq, reduceCtorEq, not_false_eq_true, Option.getD_some, if_true, if_false, and_self, false_and, and_false, Nat.add_left_cancel_iff, Nat.add_eq_left, Nat.left_eq_add, Nat.one_ne_zero, Nat.reduceAdd, Nat.reduceLT, Nat.reduceLeDiff, Nat.reduceEqDiff, RCX 0, RCG 2, RCT 4, RCT 15, RCT 25, RCS 35, RCS 49, RCH 63, RCP 67, RCB 72, RCR 77, RCM 81, RLY, lit_at hw, true_implies, false_implies, implies_true, Option.some.injEq, forall_eq', forall_eq, reduceCtorEq, brT, brF, br_s, i_10, i_01, ib_0_2, ib_1_2, tn_0, tn_1, Int32.le_refl, eq_self, ha, e, inB_of (n := 600) h (by omega)]
  exact hn
def pB (σ : mS) (a : Int32) : mS := pb1 (pb1 (pb1 (pb1 σ ((a >>> ((24 : Int32) &&& 31)) &&& 255)) ((a >>> ((24 + -8 : Int32) &&& 31)) &&& 255)) ((a >>> ((24 + -8 + -8 : Int32) &&& 31)) &&& 255)) ((a >>> ((24 + -8 + -8 + -8 : Int32) &&& 31)) &&& 255)
theorem pB_t {σ : mS} {a : Int32} (h : 0 ≤ (σ.1 0 1).toInt) (h2 : (σ.1 0 1).toInt ≤ 596) : ((pB σ a).1 0 1).toInt = (σ.1 0 1).toInt + 4 := by
  unfold pB
  have e1 := pb1_t (x := (a >>> ((24 : Int32) &&& 31)) &&& 255) h (by omega)
  have e2 := pb1_t (σ := pb1 σ ((a >>> ((24 : Int32) &&& 31)) &&& 255)) (x := (a >>> ((24 + -8 : Int32) &&& 31)) &&& 255) (by omega) (by omega)
  have e3 := pb1_t (σ := pb1 (pb1 σ ((a >>> ((24 : Int32) &&& 31)) &&& 255)) ((a >>> ((24 + -8 : Int32) &&& 31)) &&& 255)) (x := (a >>> ((24 + -8 + -8 : Int32) &&& 31)) &&& 255) (by omega) (by omega)
  rw [pb1_t (by omega) (by omega)]
  omega
theorem pB_M {σ : mS} {a : Int32} : frM σ (pB σ a) := frM_tr (frM_tr (frM_tr pb1_M pb1_M) pb1_M) pb1_M
theorem fr_117 {w : mT} {σ : mS} {a1 : Int32} {D : Nat} {K : Hp → Prop} (hw : lit w) (h : 0 ≤ (σ.1 0 1).toInt) (h2 : (σ.1 0 1).toInt ≤ 596) (hD : 1 ≤ D) : wpV D 117 [.ref 0, .int a1] (mW w σ) K ↔ K (mW w (pB σ a1)) := by
  refine cV_of (m := 0) (fun d hd Q hQ => ?_) rfl hD
  have e1 := pb1_t (x := (a1 >>> ((24 : Int32) &&& 31)) &&& 255) h (by omega)
  have e2 := pb1_t (σ := pb1 σ ((a1 >>> ((24 : Int32) &&& 31)) &&& 255)) (x := (a1 >>> ((24 + -8 : Int32) &&& 31)) &&& 255) (by omega) (by omega)
  have e3 := pb1_t (σ := pb1 (pb1 σ ((a1 >>> ((24 : Int32) &&& 31)) &&& 255)) ((a1 >>> ((24 + -8 : Int32) &&& 31)) &&& 255)) (x := (a1 >>> ((24 + -8 + -8 : Int32) &&& 31)) &&& 255) (by omega) (by omega)
  refine b117_0 (pb_step hw h (by omega) (by decide) (pb_step hw (by omega) (by omega) (by decide) (pb_step hw (by omega) (by omega) (by decide) (pb_step hw (by omega) (by omega) (by decide) (b117_3 ?_)))))
  have e : ((24 : Int32) + -8 + -8 + -8 + -8 < 0) ↔ True := iff_true_intro (by decide)
  simp only [↓rF_I, ↓rF_L, ↓rF_R, ↓rF_N, rO_m, rB_m, ↓rI_m, wI_m, ↓rB2_m, ↓rB3_m, wB2_m, wB3_m, ↓rL_m, wL_m, ↓rQ_m, wQ_m, ↓lI_m, pI_m, pL_m, pR_m, sI_m, sBy_m, sBo_m, sL_m, sQ_m, fst_m, true_and, and_true, tg_some, ln_some, uI_1, uI_2, uL_1, uL_2, uL_3, uQ_1, uQ_2, uQ_3, rv_i, rv_l, rv_n, rv_b0, rv_b1, RMR, ne_eq, reduceCtorEq, not_false_eq_true, Option.getD_some, if_true, if_false, and_self, false_and, and_false, Nat.add_left_cancel_iff, Nat.add_eq_left, Nat.left_eq_add, Nat.one_ne_zero, Nat.reduceAdd, Nat.reduceLT, Nat.reduceLeDiff, Nat.reduceEqDiff, RCX 0, RCG 2, RCT 4, RCT 15, RCT 25, RCS 35, RCS 49, RCH 63, RCP 67, RCB 72, RCR 77, RCM 81, RLY, lit_at hw, true_implies, false_implies, implies_true, Option.some.injEq, forall_eq', forall_eq, reduceCtorEq, brT, brF, br_s, i_10, i_01, ib_0_2, ib_1_2, tn_0, tn_1, Int32.le_refl, eq_self, e]
  exact hQ
theorem ex_76 {w : mT} {σ : mS} {a1 a2 a3 a4 a5 : Int32} {D : Nat} (hw : lit w) (hF : frC σ) (hD : 2 ≤ D) : ∃ w' σ', (xt w w' ∧ frM σ σ') ∧ ∀ K, wpI D 76 [.ref 0, .int a1, .int a2, .int a3, .int a4, .int a5] (mW w σ) K ↔ K 20 (mW w' σ') := by
  refine cI_ex (m := 1) (fun d hd Q hQ => ?_) rfl hD
  have t0 : (σ.1 0 1).toInt = 0 := by unfold frC at hF; rw [hF.1]; rfl
  have t1 := pB_t (σ := σ) (a := a1) (by omega) (by omega)
  have t2 := pB_t (σ := pB σ a1) (a := a2) (by omega) (by omega)
  have t3 := pB_t (σ := pB (pB σ a1) a2) (a := a3) (by omega) (by omega)
  have t4 := pB_t (σ := pB (pB (pB σ a1) a2) a3) (a := a4) (by omega) (by omega)
  have t5 := pB_t (σ := pB (pB (pB (pB σ a1) a2) a3) a4) (a := a5) (by omega) (by omega)
  have e5 : (pB (pB (pB (pB (pB σ a1) a2) a3) a4) a5).1 0 1 = 20 := Int32.toInt_inj.mp (by rw [t5, t4, t3, t2, t1, t0]; decide)
  have z0 : σ.1 0 1 = 0 := by unfold frC at hF; exact hF.1
  have hn : ¬ (600 : Int32) < 0 + 20 := by decide
  have hn2 : ((0 : Int32) + 20 ≤ 600) ↔ True := iff_true_intro (by decide)
  have hd1 : 1 ≤ d := hd
  refine b76_0 ?_
  simp only [↓rF_I, ↓rF_L, ↓rF_R, ↓rF_N, rO_m, rB_m, ↓rI_m, wI_m, ↓rB2_m, ↓rB3_m, wB2_m, wB3_m, ↓rL_m, wL_m, ↓rQ_m, wQ_m, ↓lI_m, pI_m, pL_m, pR_m, sI_m, sBy_m, sBo_m, sL_m, sQ_m, fst_m, true_and, and_true, tg_some, ln_some, uI_1, uI_2, uL_1, uL_2, uL_3, uQ_1, uQ_2, uQ_3, rv_i, rv_l, rv_n, rv_b0, rv_b1, RMR, ne_eq, reduceCtorEq, not_false_eq_true, Option.getD_some, if_true, if_false, and_self, false_and, and_false, Nat.add_left_cancel_iff, Nat.add_eq_left, Nat.left_eq_add, Nat.one_ne_zero, Nat.reduceAdd, Nat.reduceLT, Nat.reduceLeDiff, Nat.reduceEqDiff, RCX 0, RCG 2, RCT 4, RCT 15, RCT 25, RCS 35, RCS 49, RCH 63, RCP 67, RCB 72, RCR 77, RCM 81, RLY, lit_at hw, true_implies, false_implies, implies_true, Option.some.injEq, forall_eq', forall_eq, reduceCtorEq, brT, brF, br_s, i_10, i_01, ib_0_2, ib_1_2, tn_0, tn_1, Int32.le_refl, eq_self, z0, hn, hn2]
  rw [fr_117 hw (by omega) (by omega) hd1]
  simp only [↓rF_I, ↓rF_L, ↓rF_R, ↓rF_N, rO_m, rB_m, ↓rI_m, wI_m, ↓rB2_m, ↓rB3_m, wB2_m, wB3_m, ↓rL_m, wL_m, ↓rQ_m, wQ_m, ↓lI_m, pI_m, pL_m, pR_m, sI_m, sBy_m, sBo_m, sL_m, sQ_m, fst_m, true_and, and_true, tg_some, ln_some, uI_1, uI_2, uL_1, uL_2, uL_3, uQ_1, uQ_2, uQ_3, rv_i, rv_l, rv_n, rv_b0, rv_b1, RMR, ne_eq, reduceCtorEq, not_false_eq_true, Option.getD_some, if_true, if_false, and_self, false_and, and_false, Nat.add_left_cancel_iff, Nat.add_eq_left, Nat.left_eq_add, Nat.one_ne_zero, Nat.reduceAdd, Nat.reduceLT, Nat.reduceLeDiff, Nat.reduceEqDiff, RCX 0, RCG 2, RCT 4, RCT 15, RCT 25, RCS 35, RCS 49, RCH 63, RCP 67, RCB 72, RCR 77, RCM 81, RLY, lit_at hw, true_implies, false_implies, implies_true, Option.some.injEq, forall_eq', forall_eq, reduceCtorEq, brT, brF, br_s, i_10, i_01, ib_0_2, ib_1_2, tn_0, tn_1, Int32.le_refl, eq_self]
  rw [fr_117 hw (by omega) (by omega) hd1]
  simp only [↓rF_I, ↓rF_L, ↓rF_R, ↓rF_N, rO_m, rB_m, ↓rI_m, wI_m, ↓rB2_m, ↓rB3_m, wB2_m, wB3_m, ↓rL_m, wL_m, ↓rQ_m, wQ_m, ↓lI_m, pI_m, pL_m, pR_m, sI_m, sBy_m, sBo_m, sL_m, sQ_m, fst_m, true_and, and_true, tg_some, ln_some, uI_1, uI_2, uL_1, uL_2, uL_3, uQ_1, uQ_2, uQ_3, rv_i, rv_l, rv_n, rv_b0, rv_b1, RMR, ne_eq, reduceCtorEq, not_false_eq_true, Option.getD_some, if_true, if_false, and_self, false_and, and_false, Nat.add_left_cancel_iff, Nat.add_eq_left, Nat.left_eq_add, Nat.one_ne_zero, Nat.reduceAdd, Nat.reduceLT, Nat.reduceLeDiff, Nat.reduceEqDiff, RCX 0, RCG 2, RCT 4, RCT 15, RCT 25, RCS 35, RCS 49, RCH 63, RCP 67, RCB 72, RCR 77, RCM 81, RLY, lit_at hw, true_implies, false_implies, implies_true, Option.some.injEq, forall_eq', forall_eq, reduceCtorEq, brT, brF, br_s, i_10, i_01, ib_0_2, ib_1_2, tn_0, tn_1, Int32.le_refl, eq_self]
  rw [fr_117 hw (by omega) (by omega) hd1]
  simp only [↓rF_I, ↓rF_L, ↓rF_R, ↓rF_N, rO_m, rB_m, ↓rI_m, wI_m, ↓rB2_m, ↓rB3_m, wB2_m, wB3_m, ↓rL_m, wL_m, ↓rQ_m, wQ_m, ↓lI_m, pI_m, pL_m, pR_m, sI_m, sBy_m, sBo_m, sL_m, sQ_m, fst_m, true_and, and_true, tg_some, ln_some, uI_1, uI_2, uL_1, uL_2, uL_3, uQ_1, uQ_2, uQ_3, rv_i, rv_l, rv_n, rv_b0, rv_b1, RMR, ne_eq, reduceCtorEq, not_false_eq_true, Option.getD_some, if_true, if_false, and_self, false_and, and_false, Nat.add_left_cancel_iff, Nat.add_eq_left, Nat.left_eq_add, Nat.one_ne_zero, Nat.reduceAdd, Nat.reduceLT, Nat.reduceLeDiff, Nat.reduceEqDiff, RCX 0, RCG 2, RCT 4, RCT 15, RCT 25, RCS 35, RCS 49, RCH 63, RCP 67, RCB 72, RCR 77, RCM 81, RLY, lit_at hw, true_implies, false_implies, implies_true, Option.some.injEq, forall_eq', forall_eq, reduceCtorEq, brT, brF, br_s, i_10, i_01, ib_0_2, ib_1_2, tn_0, tn_1, Int32.le_refl, eq_self]
  rw [fr_117 hw (by omega) (by omega) hd1]
  simp only [↓rF_I, ↓rF_L, ↓rF_R, ↓rF_N, rO_m, rB_m, ↓rI_m, wI_m, ↓rB2_m, ↓rB3_m, wB2_m, wB3_m, ↓rL_m, wL_m, ↓rQ_m, wQ_m, ↓lI_m, pI_m, pL_m, pR_m, sI_m, sBy_m, sBo_m, sL_m, sQ_m, fst_m, true_and, and_true, tg_some, ln_some, uI_1, uI_2, uL_1, uL_2, uL_3, uQ_1, uQ_2, uQ_3, rv_i, rv_l, rv_n, rv_b0, rv_b1, RMR, ne_eq, reduceCtorEq, not_false_eq_true, Option.getD_some, if_true, if_false, and_self, false_and, and_false, Nat.add_left_cancel_iff, Nat.add_eq_left, Nat.left_eq_add, Nat.one_ne_zero, Nat.reduceAdd, Nat.reduceLT, Nat.reduceLeDiff, Nat.reduceEqDiff, RCX 0, RCG 2, RCT 4, RCT 15, RCT 25, RCS 35, RCS 49, RCH 63, RCP 67, RCB 72, RCR 77, RCM 81, RLY, lit_at hw, true_implies, false_implies, implies_true, Option.some.injEq, forall_eq', forall_eq, reduceCtorEq, brT, brF, br_s, i_10, i_01, ib_0_2, ib_1_2, tn_0, tn_1, Int32.le_refl, eq_self]
  rw [fr_117 hw (by omega) (by omega) hd1]
  simp only [↓rF_I, ↓rF_L, ↓rF_R, ↓rF_N, rO_m, rB_m, ↓rI_m, wI_m, ↓rB2_m, ↓rB3_m, wB2_m, wB3_m, ↓rL_m, wL_m, ↓rQ_m, wQ_m, ↓lI_m, pI_m, pL_m, pR_m, sI_m, sBy_m, sBo_m, sL_m, sQ_m, fst_m, true_and, and_true, tg_some, ln_some, uI_1, uI_2, uL_1, uL_2, uL_3, uQ_1, uQ_2, uQ_3, rv_i, rv_l, rv_n, rv_b0, rv_b1, RMR, ne_eq, reduceCtorEq, not_false_eq_true, Option.getD_some, if_true, if_false, and_self, false_and, and_false, Nat.add_left_cancel_iff, Nat.add_eq_left, Nat.left_eq_add, Nat.one_ne_zero, Nat.reduceAdd, Nat.reduceLT, Nat.reduceLeDiff, Nat.reduceEqDiff, RCX 0, RCG 2, RCT 4, RCT 15, RCT 25, RCS 35, RCS 49, RCH 63, RCP 67, RCB 72, RCR 77, RCM 81, RLY, lit_at hw, true_implies, false_implies, implies_true, Option.some.injEq, forall_eq', forall_eq, reduceCtorEq, brT, brF, br_s, i_10, i_01, ib_0_2, ib_1_2, tn_0, tn_1, Int32.le_refl, eq_self, e5]
  exact hQ _ _ ⟨xt_rf hw, frM_tr (frM_tr (frM_tr (frM_tr pB_M pB_M) pB_M) pB_M) pB_M⟩
def pm1 (σ : mS) (x : Int32) : mS := uI (uI σ 82 (σ.1 81 2).toNatClampNeg (vp_nar .byte x)) 81 2 (σ.1 81 2 + 1)
theorem pm1_t {σ : mS} {x : Int32} (h : 0 ≤ (σ.1 81 2).toInt) (h2 : (σ.1 81 2).toInt < 600) : ((pm1 σ x).1 81 2).toInt = (σ.1 81 2).toInt + 1 := by
  have e : (pm1 σ x).1 81 2 = σ.1 81 2 + 1 := by simp [pm1, uI]
  rw [e, i_add (by rw [show (1 : Int32).toInt = 1 by decide]; omega) (by rw [show (1 : Int32).toInt = 1 by decide]; omega)]
  rfl
theorem pm_step {w : mT} {σ : mS} {a1 a2 : Int32} {Q : Option (Option Value) → Hp → Prop} {d : Nat} (hw : lit w) (h : 0 ≤ (σ.1 81 2).toInt) (h2 : (σ.1 81 2).toInt < 600) (ha : ¬ a2 < 0) (hn : Wp 131 3 [.ref 81, .int a1, .int (a2 + -8)] [] (mW w (pm1 σ (Int8.toInt32 (Int32.toInt8 (a1 >>> (a2 &&& 31)))))) Q d) : Wp 131 3 [.ref 81, .int a1, .int a2] [] (mW w σ) Q d := by
  refine b131_3 ?_
  simp only [↓rF_I, ↓rF_L, ↓rF_R, ↓rF_N, rO_m, rB_m, ↓rI_m, wI_m, ↓rB2_m, ↓rB3_m, wB2_m, wB3_m, ↓rL_m, wL_m, ↓rQ_m, wQ_m, ↓lI_m, pI_m, pL_m, pR_m, sI_m, sBy_m, sBo_m, sL_m, sQ_m, fst_m, true_and, and_true, tg_some, ln_some, uI_1, uI_2, uL_1, uL_2, uL_3, uQ_1, uQ_2, uQ_3, rv_i, rv_l, rv_n, rv_b0, rv_b1, RMR, ne_eq, reduceCtorEq, not_false_eq_true, Option.getD_some, if_true, if_false, and_self, false_and, and_false, Nat.add_left_cancel_iff, Nat.add_eq_left, Nat.left_eq_add, Nat.one_ne_zero, Nat.reduceAdd, Nat.reduceLT, Nat.reduceLeDiff, Nat.reduceEqDiff, RCX 0, RCG 2, RCT 4, RCT 15, RCT 25, RCS 35, RCS 49, RCH 63, RCP 67, RCB 72, RCR 77, RCM 81, RLY, lit_at hw, true_implies, false_implies, implies_true, Option.some.injEq, forall_eq', forall_eq, reduceCtorEq, brT, brF, br_s, i_10, i_01, ib_0_2, ib_1_2, tn_0, tn_1, Int32.le_refl, eq_self, ha, inB_of (n := 600) h (by omega)]
  exact hn
def pM (σ : mS) (a : Int32) : mS := pm1 (pm1 (pm1 (pm1 σ (Int8.toInt32 (Int32.toInt8 (a >>> ((24 : Int32) &&& 31))))) (Int8.toInt32 (Int32.toInt8 (a >>> ((24 + -8 : Int32) &&& 31))))) (Int8.toInt32 (Int32.toInt8 (a >>> ((24 + -8 + -8 : Int32) &&& 31))))) (Int8.toInt32 (Int32.toInt8 (a >>> ((24 + -8 + -8 + -8 : Int32) &&& 31))))
theorem pM_t {σ : mS} {a : Int32} (h : 0 ≤ (σ.1 81 2).toInt) (h2 : (σ.1 81 2).toInt ≤ 596) : ((pM σ a).1 81 2).toInt = (σ.1 81 2).toInt + 4 := by
  unfold pM
  have e1 := pm1_t (x := (Int8.toInt32 (Int32.toInt8 (a >>> ((24 : Int32) &&& 31))))) h (by omega)
  have e2 := pm1_t (σ := pm1 σ (Int8.toInt32 (Int32.toInt8 (a >>> ((24 : Int32) &&& 31))))) (x := (Int8.toInt32 (Int32.toInt8 (a >>> ((24 + -8 : Int32) &&& 31))))) (by omega) (by omega)
  have e3 := pm1_t (σ := pm1 (pm1 σ (Int8.toInt32 (Int32.toInt8 (a >>> ((24 : Int32) &&& 31))))) (Int8.toInt32 (Int32.toInt8 (a >>> ((24 + -8 : Int32) &&& 31))))) (x := (Int8.toInt32 (Int32.toInt8 (a >>> ((24 + -8 + -8 : Int32) &&& 31))))) (by omega) (by omega)
  rw [pm1_t (by omega) (by omega)]
  omega
theorem fr_131 {w : mT} {σ : mS} {a1 : Int32} {D : Nat} {K : Hp → Prop} (hw : lit w) (h : 0 ≤ (σ.1 81 2).toInt) (h2 : (σ.1 81 2).toInt ≤ 596) (hD : 1 ≤ D) : wpV D 131 [.ref 81, .int a1] (mW w σ) K ↔ K (mW w (pM σ a1)) := by
  refine cV_of (m := 0) (fun d hd Q hQ => ?_) rfl hD
  have e1 := pm1_t (x := (Int8.toInt32 (Int32.toInt8 (a1 >>> ((24 : Int32) &&& 31))))) h (by omega)
  have e2 := pm1_t (σ := pm1 σ (Int8.toInt32 (Int32.toInt8 (a1 >>> ((24 : Int32) &&& 31))))) (x := (Int8.toInt32 (Int32.toInt8 (a1 >>> ((24 + -8 : Int32) &&& 31))))) (by omega) (by omega)
  have e3 := pm1_t (σ := pm1 (pm1 σ (Int8.toInt32 (Int32.toInt8 (a1 >>> ((24 : Int32) &&& 31))))) (Int8.toInt32 (Int32.toInt8 (a1 >>> ((24 + -8 : Int32) &&& 31))))) (x := (Int8.toInt32 (Int32.toInt8 (a1 >>> ((24 + -8 + -8 : Int32) &&& 31))))) (by omega) (by omega)
  refine b131_0 (pm_step hw h (by omega) (by decide) (pm_step hw (by omega) (by omega) (by decide) (pm_step hw (by omega) (by omega) (by decide) (pm_step hw (by omega) (by omega) (by decide) (b131_3 ?_)))))
  have e : ((24 : Int32) + -8 + -8 + -8 + -8 < 0) ↔ True := iff_true_intro (by decide)
  simp only [↓rF_I, ↓rF_L, ↓rF_R, ↓rF_N, rO_m, rB_m, ↓rI_m, wI_m, ↓rB2_m, ↓rB3_m, wB2_m, wB3_m, ↓rL_m, wL_m, ↓rQ_m, wQ_m, ↓lI_m, pI_m, pL_m, pR_m, sI_m, sBy_m, sBo_m, sL_m, sQ_m, fst_m, true_and, and_true, tg_some, ln_some, uI_1, uI_2, uL_1, uL_2, uL_3, uQ_1, uQ_2, uQ_3, rv_i, rv_l, rv_n, rv_b0, rv_b1, RMR, ne_eq, reduceCtorEq, not_false_eq_true, Option.getD_some, if_true, if_false, and_self, false_and, and_false, Nat.add_left_cancel_iff, Nat.add_eq_left, Nat.left_eq_add, Nat.one_ne_zero, Nat.reduceAdd, Nat.reduceLT, Nat.reduceLeDiff, Nat.reduceEqDiff, RCX 0, RCG 2, RCT 4, RCT 15, RCT 25, RCS 35, RCS 49, RCH 63, RCP 67, RCB 72, RCR 77, RCM 81, RLY, lit_at hw, true_implies, false_implies, implies_true, Option.some.injEq, forall_eq', forall_eq, reduceCtorEq, brT, brF, br_s, i_10, i_01, ib_0_2, ib_1_2, tn_0, tn_1, Int32.le_refl, eq_self, e]
  exact hQ
theorem ex_130 {w : mT} {σ : mS} {a1 a2 a3 a4 a5 : Int32} {D : Nat} (hw : lit w) (hF : frO σ) (hD : 2 ≤ D) : ∃ w' σ', xt w w' ∧ ∀ K, wpI D 130 [.ref 81, .int a1, .int a2, .int a3, .int a4, .int a5] (mW w σ) K ↔ K 20 (mW w' σ') := by
  have z0 : σ.1 81 2 = 0 := by unfold frO at hF; simp only [hF]
  have hG := hF
  unfold frO at hF
  have hU : uI σ 81 0 0 = σ := uI_same hF.1
  refine cI_ex (m := 1) (fun d hd Q hQ => ?_) rfl hD
  have t0 : (σ.1 81 2).toInt = 0 := by rw [z0]; rfl
  have t1 := pM_t (σ := σ) (a := a1) (by omega) (by omega)
  have t2 := pM_t (σ := pM σ a1) (a := a2) (by omega) (by omega)
  have t3 := pM_t (σ := pM (pM σ a1) a2) (a := a3) (by omega) (by omega)
  have t4 := pM_t (σ := pM (pM (pM σ a1) a2) a3) (a := a4) (by omega) (by omega)
  have t5 := pM_t (σ := pM (pM (pM (pM σ a1) a2) a3) a4) (a := a5) (by omega) (by omega)
  have e5 : (pM (pM (pM (pM (pM σ a1) a2) a3) a4) a5).1 81 2 = 20 := Int32.toInt_inj.mp (by rw [t5, t4, t3, t2, t1, t0]; decide)
  have hn : ¬ (600 : Int32) < 0 + 20 := by decide
  have hn2 : ((0 : Int32) + 20 ≤ 600) ↔ True := iff_true_intro (by decide)
  have hd1 : 1 ≤ d := hd
  refine b130_0 ?_
  simp only [↓rF_I, ↓rF_L, ↓rF_R, ↓rF_N, rO_m, rB_m, ↓rI_m, wI_m, ↓rB2_m, ↓rB3_m, wB2_m, wB3_m, ↓rL_m, wL_m, ↓rQ_m, wQ_m, ↓lI_m, pI_m, pL_m, pR_m, sI_m, sBy_m, sBo_m, sL_m, sQ_m, fst_m, true_and, and_true, tg_some, ln_some, uI_1, uI_2, uL_1, uL_2, uL_3, uQ_1, uQ_2, uQ_3, rv_i, rv_l, rv_n, rv_b0, rv_b1, RMR, ne_eq, reduceCtorEq, not_false_eq_true, Option.getD_some, if_true, if_false, and_self, false_and, and_false, Nat.add_left_cancel_iff, Nat.add_eq_left, Nat.left_eq_add, Nat.one_ne_zero, Nat.reduceAdd, Nat.reduceLT, Nat.reduceLeDiff, Nat.reduceEqDiff, RCX 0, RCG 2, RCT 4, RCT 15, RCT 25, RCS 35, RCS 49, RCH 63, RCP 67, RCB 72, RCR 77, RCM 81, RLY, lit_at hw, true_implies, false_implies, implies_true, Option.some.injEq, forall_eq', forall_eq, reduceCtorEq, brT, brF, br_s, i_10, i_01, ib_0_2, ib_1_2, tn_0, tn_1, Int32.le_refl, eq_self, hU, z0, hn, hn2]
  rw [fr_131 hw (by omega) (by omega) hd1]
  simp only [↓rF_I, ↓rF_L, ↓rF_R, ↓rF_N, rO_m, rB_m, ↓rI_m, wI_m, ↓rB2_m, ↓rB3_m, wB2_m, wB3_m, ↓rL_m, wL_m, ↓rQ_m, wQ_m, ↓lI_m, pI_m, pL_m, pR_m, sI_m, sBy_m, sBo_m, sL_m, sQ_m, fst_m, true_and, and_true, tg_some, ln_some, uI_1, uI_2, uL_1, uL_2, uL_3, uQ_1, uQ_2, uQ_3, rv_i, rv_l, rv_n, rv_b0, rv_b1, RMR, ne_eq, reduceCtorEq, not_false_eq_true, Option.getD_some, if_true, if_false, and_self, false_and, and_false, Nat.add_left_cancel_iff, Nat.add_eq_left, Nat.left_eq_add, Nat.one_ne_zero, Nat.reduceAdd, Nat.reduceLT, Nat.reduceLeDiff, Nat.reduceEqDiff, RCX 0, RCG 2, RCT 4, RCT 15, RCT 25, RCS 35, RCS 49, RCH 63, RCP 67, RCB 72, RCR 77, RCM 81, RLY, lit_at hw, true_implies, false_implies, implies_true, Option.some.injEq, forall_eq', forall_eq, reduceCtorEq, brT, brF, br_s, i_10, i_01, ib_0_2, ib_1_2, tn_0, tn_1, Int32.le_refl, eq_self]
  rw [fr_131 hw (by omega) (by omega) hd1]
  simp only [↓rF_I, ↓rF_L, ↓rF_R, ↓rF_N, rO_m, rB_m, ↓rI_m, wI_m, ↓rB2_m, ↓rB3_m, wB2_m, wB3_m, ↓rL_m, wL_m, ↓rQ_m, wQ_m, ↓lI_m, pI_m, pL_m, pR_m, sI_m, sBy_m, sBo_m, sL_m, sQ_m, fst_m, true_and, and_true, tg_some, ln_some, uI_1, uI_2, uL_1, uL_2, uL_3, uQ_1, uQ_2, uQ_3, rv_i, rv_l, rv_n, rv_b0, rv_b1, RMR, ne_eq, reduceCtorEq, not_false_eq_true, Option.getD_some, if_true, if_false, and_self, false_and, and_false, Nat.add_left_cancel_iff, Nat.add_eq_left, Nat.left_eq_add, Nat.one_ne_zero, Nat.reduceAdd, Nat.reduceLT, Nat.reduceLeDiff, Nat.reduceEqDiff, RCX 0, RCG 2, RCT 4, RCT 15, RCT 25, RCS 35, RCS 49, RCH 63, RCP 67, RCB 72, RCR 77, RCM 81, RLY, lit_at hw, true_implies, false_implies, implies_true, Option.some.injEq, forall_eq', forall_eq, reduceCtorEq, brT, brF, br_s, i_10, i_01, ib_0_2, ib_1_2, tn_0, tn_1, Int32.le_refl, eq_self]
  rw [fr_131 hw (by omega) (by omega) hd1]
  simp only [↓rF_I, ↓rF_L, ↓rF_R, ↓rF_N, rO_m, rB_m, ↓rI_m, wI_m, ↓rB2_m, ↓rB3_m, wB2_m, wB3_m, ↓rL_m, wL_m, ↓rQ_m, wQ_m, ↓lI_m, pI_m, pL_m, pR_m, sI_m, sBy_m, sBo_m, sL_m, sQ_m, fst_m, true_and, and_true, tg_some, ln_some, uI_1, uI_2, uL_1, uL_2, uL_3, uQ_1, uQ_2, uQ_3, rv_i, rv_l, rv_n, rv_b0, rv_b1, RMR, ne_eq, reduceCtorEq, not_false_eq_true, Option.getD_some, if_true, if_false, and_self, false_and, and_false, Nat.add_left_cancel_iff, Nat.add_eq_left, Nat.left_eq_add, Nat.one_ne_zero, Nat.reduceAdd, Nat.reduceLT, Nat.reduceLeDiff, Nat.reduceEqDiff, RCX 0, RCG 2, RCT 4, RCT 15, RCT 25, RCS 35, RCS 49, RCH 63, RCP 67, RCB 72, RCR 77, RCM 81, RLY, lit_at hw, true_implies, false_implies, implies_true, Option.some.injEq, forall_eq', forall_eq, reduceCtorEq, brT, brF, br_s, i_10, i_01, ib_0_2, ib_1_2, tn_0, tn_1, Int32.le_refl, eq_self]
  rw [fr_131 hw (by omega) (by omega) hd1]
  simp only [↓rF_I, ↓rF_L, ↓rF_R, ↓rF_N, rO_m, rB_m, ↓rI_m, wI_m, ↓rB2_m, ↓rB3_m, wB2_m, wB3_m, ↓rL_m, wL_m, ↓rQ_m, wQ_m, ↓lI_m, pI_m, pL_m, pR_m, sI_m, sBy_m, sBo_m, sL_m, sQ_m, fst_m, true_and, and_true, tg_some, ln_some, uI_1, uI_2, uL_1, uL_2, uL_3, uQ_1, uQ_2, uQ_3, rv_i, rv_l, rv_n, rv_b0, rv_b1, RMR, ne_eq, reduceCtorEq, not_false_eq_true, Option.getD_some, if_true, if_false, and_self, false_and, and_false, Nat.add_left_cancel_iff, Nat.add_eq_left, Nat.left_eq_add, Nat.one_ne_zero, Nat.reduceAdd, Nat.reduceLT, Nat.reduceLeDiff, Nat.reduceEqDiff, RCX 0, RCG 2, RCT 4, RCT 15, RCT 25, RCS 35, RCS 49, RCH 63, RCP 67, RCB 72, RCR 77, RCM 81, RLY, lit_at hw, true_implies, false_implies, implies_true, Option.some.injEq, forall_eq', forall_eq, reduceCtorEq, brT, brF, br_s, i_10, i_01, ib_0_2, ib_1_2, tn_0, tn_1, Int32.le_refl, eq_self]
  rw [fr_131 hw (by omega) (by omega) hd1]
  simp only [↓rF_I, ↓rF_L, ↓rF_R, ↓rF_N, rO_m, rB_m, ↓rI_m, wI_m, ↓rB2_m, ↓rB3_m, wB2_m, wB3_m, ↓rL_m, wL_m, ↓rQ_m, wQ_m, ↓lI_m, pI_m, pL_m, pR_m, sI_m, sBy_m, sBo_m, sL_m, sQ_m, fst_m, true_and, and_true, tg_some, ln_some, uI_1, uI_2, uL_1, uL_2, uL_3, uQ_1, uQ_2, uQ_3, rv_i, rv_l, rv_n, rv_b0, rv_b1, RMR, ne_eq, reduceCtorEq, not_false_eq_true, Option.getD_some, if_true, if_false, and_self, false_and, and_false, Nat.add_left_cancel_iff, Nat.add_eq_left, Nat.left_eq_add, Nat.one_ne_zero, Nat.reduceAdd, Nat.reduceLT, Nat.reduceLeDiff, Nat.reduceEqDiff, RCX 0, RCG 2, RCT 4, RCT 15, RCT 25, RCS 35, RCS 49, RCH 63, RCP 67, RCB 72, RCR 77, RCM 81, RLY, lit_at hw, true_implies, false_implies, implies_true, Option.some.injEq, forall_eq', forall_eq, reduceCtorEq, brT, brF, br_s, i_10, i_01, ib_0_2, ib_1_2, tn_0, tn_1, Int32.le_refl, eq_self, e5]
  exact hQ _ _ (xt_rf hw)
