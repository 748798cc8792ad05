/-! the class's Reader: a name, a number behind a word -/
def numV (t : Nat → Nat) (g : Rw) : Int32 := if 4 < g 1 - g 0 then -1 else nuI t (g 0) (g 1 - g 0)
def toldF (t : Nat → Nat) (n : Nat) (g : Rw) (i : Nat) (low high : Int32) : Nat :=
  if ¬ sayP t g i then 8 * g 0 + 1 else if adv t n g 2 ≠ 2 then 8 * adv t n g 0 + 1 else if numV t (adv t n g) < low ∨ high < numV t (adv t n g) then 8 * adv t n g 0 + 3 else 0
theorem tG_5 {σ : mS} {t : Nat → Nat} {n F : Nat} {g : Rw} {x : Int32} (h : tG σ t n g) (hx : x = Int32.ofNat F) : tG (uI σ 2 5 x) t n (rSet g 3 F) := by
  obtain ⟨hB, h1, h2, h3, h4, h5, h6, h9⟩ := h
  refine ⟨⟨hB.1, fun i hi => ?_⟩, ?_, ?_, ?_, ?_, ?_, ?_, ?_⟩
  · rw [uI_1, if_neg (by omega)]; exact hB.2 i hi
  · rw [uI_1, if_neg (by omega)]; exact h1
  · rw [uI_1, if_neg (by omega), rS_ne (by omega)]; exact h2
  · rw [uI_1, if_neg (by omega), rS_ne (by omega)]; exact h3
  · rw [uI_1, if_neg (by omega), rS_ne (by omega)]; exact h4
  · rw [uI_1, if_pos ⟨rfl, rfl⟩, rS_eq]; exact hx
  · rw [uI_1, if_neg (by omega), rS_ne (by omega)]; exact h6
  · rw [uI_1, if_neg (by omega), rS_ne (by omega)]; exact h9
theorem vG_5 {n F : Nat} {g : Rw} (h : vG n g) : vG n (rSet g 3 F) := ⟨by rw [rS_ne (by omega), rS_ne (by omega)]; exact h.1, by rw [rS_ne (by omega)]; exact h.2.1, h.2.2.1, by rw [rS_ne (by omega)]; exact h.2.2.2⟩
theorem f8_of {s a : Nat} : (8 : Int32) * Int32.ofNat s + Int32.ofNat a = Int32.ofNat (8 * s + a) := by
  rw [show (8 : Int32) = Int32.ofNat 8 from rfl, of_mul, of_add]
theorem g_34n {w : mT} {σ : mS} {q D : Nat} {low high : Int32} {K : Int32 → Hp → Prop} (hw : lit w) (h5 : σ.1 2 5 ≠ 0) (hD : 1 ≤ D) : wpI D 34 [.ref 2, .ref q, .int low, .int high] (mW w σ) K ↔ K (-1) (mW w σ) := by
  refine cI_of (m := 0) (fun d hd Q hQ => ?_) rfl hD
  refine b34_0 ?_
  simp only [↓br_pos, ↓br_neg, ↓rF_I, ↓rF_L, ↓rF_R, ↓rF_N, rO_m, rB_m, ↓rI_m, wI_m, ↓rB2_m, ↓rB3_m, wB2_m, wB3_m, ↓rL_m, wL_m, ↓rQ_m, wQ_m, ↓lI_m, pI_m, pL_m, pR_m, sI_m, sBy_m, sBo_m, sL_m, sQ_m, fst_m, true_and, and_true, tg_some, ln_some, uI_1, uI_2, uL_1, uL_2, uL_3, uQ_1, uQ_2, uQ_3, rv_i, rv_l, rv_n, rv_b0, rv_b1, RMR, ne_eq, reduceCtorEq, not_false_eq_true, Option.getD_some, if_true, if_false, and_self, false_and, and_false, Nat.add_left_cancel_iff, Nat.add_eq_left, Nat.left_eq_add, Nat.one_ne_zero, Nat.reduceAdd, Nat.reduceLT, Nat.reduceLeDiff, Nat.reduceEqDiff, true_implies, false_implies, implies_true, Option.some.injEq, forall_eq', forall_eq, reduceCtorEq, brT, brF, br_s, i_10, i_01, ib_0_2, ib_1_2, tn_0, tn_1, Int32.le_refl, eq_self, rv_bN, rv_iM, RCX 0, RCG 2, RCT 4, RCT 15, RCT 25, RCS 35, RCS 49, RCH 63, RCP 67, RCB 72, RCR 77, RCM 81, RLY, lit_at hw, h5]
  exact hQ
theorem g_34 {w : mT} {σ : mS} {t : Nat → Nat} {n i : Nat} {g : Rw} {low high : Int32} (hw : lit w) (ht : ∀ i, t i < 256) (hG : tG σ t n g) (hv : vG n g) (h0 : g 3 = 0) (hi : i < 13) : ∃ σ', frR 2 3 σ σ' ∧ σ'.1 2 5 = Int32.ofNat (toldF t n g i low high) ∧ (∃ g', tG σ' t n g' ∧ vG n g') ∧ (toldF t n g i low high = 0 → tG σ' t n (adv t n (adv t n g))) ∧ ∀ {D : Nat} {K : Int32 → Hp → Prop}, 4 ≤ D → (wpI D 34 [.ref 2, .ref (STR + i), .int low, .int high] (mW w σ) K ↔ K (if toldF t n g i low high = 0 then numV t (adv t n g) else -1) (mW w σ')) := by
  have hG' := hG
  obtain ⟨hB, h1, h2, h3, h4, h5, h6, h9⟩ := hG
  have hv' := hv
  obtain ⟨v1, v2, v3, v4⟩ := hv
  have h50 : σ.1 2 5 = 0 := by rw [h5, h0]; rfl
  by_cases a : sayP t g i
  · have ez : iB (sayP t g i) = 1 := iB_t a
    obtain ⟨σ1, f1, t1, e1⟩ := g_39 hw ht hG' hv'
    have hva := vG_adv (t := t) hv'
    have t1' := t1
    obtain ⟨kB, k1, k2, k3, k4, k5, k6, k9⟩ := t1
    obtain ⟨w1, w2, w3, w4⟩ := hva
    have hva := vG_adv (t := t) hv'
    have k50 : σ1.1 2 5 = 0 := by rw [k5, adv_g (by omega), h0]; rfl
    by_cases b : adv t n g 2 = 2
    · have c2 : (Int32.ofNat (adv t n g 2) = (2 : Int32)) ↔ True := iff_true_intro (by rw [b]; rfl)
      have cs : Int32.ofNat (adv t n g 1) - Int32.ofNat (adv t n g 0) = Int32.ofNat (adv t n g 1 - adv t n g 0) := of_sub w1
      -- the number itself
      have num : ∀ {d : Nat} {Q : Option (Option Value) → Hp → Prop}, 3 ≤ d → Wp 34 69 [.ref 2, .ref (STR + i), .int low, .int high, jk] [.int (numV t (adv t n g))] (mW w σ1) Q d → Wp 34 0 [.ref 2, .ref (STR + i), .int low, .int high, jk] [] (mW w σ) Q d := fun {d Q} hd hQ => by
        have hd1 : 1 ≤ d := by omega
        have hd2 : 2 ≤ d := by omega
        have hd3 : 3 ≤ d := by omega
        refine b34_0 ?_
        by_cases l : adv t n g 1 - adv t n g 0 ≤ 4
        · have c3 : (Int32.ofNat (adv t n g 1 - adv t n g 0) ≤ (4 : Int32)) ↔ True := iff_true_intro ((on_le (j := 4) (by omega) (by omega)).mpr l)
          have en : numV t (adv t n g) = nuI t (adv t n g 0) (adv t n g 1 - adv t n g 0) := if_neg (by omega)
          rw [en] at hQ
          simp only [↓br_pos, ↓br_neg, ↓rF_I, ↓rF_L, ↓rF_R, ↓rF_N, rO_m, rB_m, ↓rI_m, wI_m, ↓rB2_m, ↓rB3_m, wB2_m, wB3_m, ↓rL_m, wL_m, ↓rQ_m, wQ_m, ↓lI_m, pI_m, pL_m, pR_m, sI_m, sBy_m, sBo_m, sL_m, sQ_m, fst_m, true_and, and_true, tg_some, ln_some, uI_1, uI_2, uL_1, uL_2, uL_3, uQ_1, uQ_2, uQ_3, rv_i, rv_l, rv_n, rv_b0, rv_b1, RMR, ne_eq, reduceCtorEq, not_false_eq_true, Option.getD_some, if_true, if_false, and_self, false_and, and_false, Nat.add_left_cancel_iff, Nat.add_eq_left, Nat.left_eq_add, Nat.one_ne_zero, Nat.reduceAdd, Nat.reduceLT, Nat.reduceLeDiff, Nat.reduceEqDiff, true_implies, false_implies, implies_true, Option.some.injEq, forall_eq', forall_eq, reduceCtorEq, brT, brF, br_s, i_10, i_01, ib_0_2, ib_1_2, tn_0, tn_1, Int32.le_refl, eq_self, rv_bN, rv_iM, RCX 0, RCG 2, RCT 4, RCT 15, RCT 25, RCS 35, RCS 49, RCH 63, RCP 67, RCB 72, RCR 77, RCM 81, RLY, lit_at hw, h50, g_37 hw hG' hv' hi hd1, ez, e1 hd3, k4, c2, k3, k2, cs, c3, g_35 hw t1' hva hd1]
          exact hQ
        · have c3 : (Int32.ofNat (adv t n g 1 - adv t n g 0) ≤ (4 : Int32)) ↔ False := iff_false_intro (fun q => l ((on_le (j := 4) (by omega) (by omega)).mp q))
          have en : numV t (adv t n g) = -1 := if_pos (by omega)
          rw [en] at hQ
          simp only [↓br_pos, ↓br_neg, ↓rF_I, ↓rF_L, ↓rF_R, ↓rF_N, rO_m, rB_m, ↓rI_m, wI_m, ↓rB2_m, ↓rB3_m, wB2_m, wB3_m, ↓rL_m, wL_m, ↓rQ_m, wQ_m, ↓lI_m, pI_m, pL_m, pR_m, sI_m, sBy_m, sBo_m, sL_m, sQ_m, fst_m, true_and, and_true, tg_some, ln_some, uI_1, uI_2, uL_1, uL_2, uL_3, uQ_1, uQ_2, uQ_3, rv_i, rv_l, rv_n, rv_b0, rv_b1, RMR, ne_eq, reduceCtorEq, not_false_eq_true, Option.getD_some, if_true, if_false, and_self, false_and, and_false, Nat.add_left_cancel_iff, Nat.add_eq_left, Nat.left_eq_add, Nat.one_ne_zero, Nat.reduceAdd, Nat.reduceLT, Nat.reduceLeDiff, Nat.reduceEqDiff, true_implies, false_implies, implies_true, Option.some.injEq, forall_eq', forall_eq, reduceCtorEq, brT, brF, br_s, i_10, i_01, ib_0_2, ib_1_2, tn_0, tn_1, Int32.le_refl, eq_self, rv_bN, rv_iM, RCX 0, RCG 2, RCT 4, RCT 15, RCT 25, RCS 35, RCS 49, RCH 63, RCP 67, RCB 72, RCR 77, RCM 81, RLY, lit_at hw, h50, g_37 hw hG' hv' hi hd1, ez, e1 hd3, k4, c2, k3, k2, cs, c3]
          exact hQ
      by_cases c : numV t (adv t n g) < low
      · have eF : toldF t n g i low high = 8 * adv t n g 0 + 3 := by unfold toldF; rw [if_neg (fun q => q a), if_neg (fun q => q b), if_pos (Or.inl c)]
        have nF : ¬ toldF t n g i low high = 0 := by omega
        refine ⟨uI σ1 2 5 (8 * Int32.ofNat (adv t n g 0) + 3), frR_tr f1 (frR_I (by omega)), by rw [uI_1, if_pos ⟨rfl, rfl⟩, eF]; exact f8_of, ⟨_, tG_5 t1' (f8_of (a := 3)), vG_5 hva⟩, fun q => absurd q nF, fun hD => cI_of (m := 3) (fun d hd Q hQ => ?_) rfl hD⟩
        rw [if_neg nF] at hQ
        refine num hd (b34_69 ?_)
        have hd1 : 1 ≤ d := by omega
        simp only [↓br_pos, ↓br_neg, ↓rF_I, ↓rF_L, ↓rF_R, ↓rF_N, rO_m, rB_m, ↓rI_m, wI_m, ↓rB2_m, ↓rB3_m, wB2_m, wB3_m, ↓rL_m, wL_m, ↓rQ_m, wQ_m, ↓lI_m, pI_m, pL_m, pR_m, sI_m, sBy_m, sBo_m, sL_m, sQ_m, fst_m, true_and, and_true, tg_some, ln_some, uI_1, uI_2, uL_1, uL_2, uL_3, uQ_1, uQ_2, uQ_3, rv_i, rv_l, rv_n, rv_b0, rv_b1, RMR, ne_eq, reduceCtorEq, not_false_eq_true, Option.getD_some, if_true, if_false, and_self, false_and, and_false, Nat.add_left_cancel_iff, Nat.add_eq_left, Nat.left_eq_add, Nat.one_ne_zero, Nat.reduceAdd, Nat.reduceLT, Nat.reduceLeDiff, Nat.reduceEqDiff, true_implies, false_implies, implies_true, Option.some.injEq, forall_eq', forall_eq, reduceCtorEq, brT, brF, br_s, i_10, i_01, ib_0_2, ib_1_2, tn_0, tn_1, Int32.le_refl, eq_self, rv_bN, rv_iM, RCX 0, RCG 2, RCT 4, RCT 15, RCT 25, RCS 35, RCS 49, RCH 63, RCP 67, RCB 72, RCR 77, RCM 81, RLY, lit_at hw, c, g_36 hw k2 k50 hd1]
        exact hQ
      · by_cases e : high < numV t (adv t n g)
        · have eF : toldF t n g i low high = 8 * adv t n g 0 + 3 := by unfold toldF; rw [if_neg (fun q => q a), if_neg (fun q => q b), if_pos (Or.inr e)]
          have nF : ¬ toldF t n g i low high = 0 := by omega
          have e' : ¬ numV t (adv t n g) ≤ high := fun q => absurd e (Int32.not_lt.mpr q)
          refine ⟨uI σ1 2 5 (8 * Int32.ofNat (adv t n g 0) + 3), frR_tr f1 (frR_I (by omega)), by rw [uI_1, if_pos ⟨rfl, rfl⟩, eF]; exact f8_of, ⟨_, tG_5 t1' (f8_of (a := 3)), vG_5 hva⟩, fun q => absurd q nF, fun hD => cI_of (m := 3) (fun d hd Q hQ => ?_) rfl hD⟩
          rw [if_neg nF] at hQ
          refine num hd (b34_69 ?_)
          have hd1 : 1 ≤ d := by omega
          simp only [↓br_pos, ↓br_neg, ↓rF_I, ↓rF_L, ↓rF_R, ↓rF_N, rO_m, rB_m, ↓rI_m, wI_m, ↓rB2_m, ↓rB3_m, wB2_m, wB3_m, ↓rL_m, wL_m, ↓rQ_m, wQ_m, ↓lI_m, pI_m, pL_m, pR_m, sI_m, sBy_m, sBo_m, sL_m, sQ_m, fst_m, true_and, and_true, tg_some, ln_some, uI_1, uI_2, uL_1, uL_2, uL_3, uQ_1, uQ_2, uQ_3, rv_i, rv_l, rv_n, rv_b0, rv_b1, RMR, ne_eq, reduceCtorEq, not_false_eq_true, Option.getD_some, if_true, if_false, and_self, false_and, and_false, Nat.add_left_cancel_iff, Nat.add_eq_left, Nat.left_eq_add, Nat.one_ne_zero, Nat.reduceAdd, Nat.reduceLT, Nat.reduceLeDiff, Nat.reduceEqDiff, true_implies, false_implies, implies_true, Option.some.injEq, forall_eq', forall_eq, reduceCtorEq, brT, brF, br_s, i_10, i_01, ib_0_2, ib_1_2, tn_0, tn_1, Int32.le_refl, eq_self, rv_bN, rv_iM, RCX 0, RCG 2, RCT 4, RCT 15, RCT 25, RCS 35, RCS 49, RCH 63, RCP 67, RCB 72, RCR 77, RCM 81, RLY, lit_at hw, c, e', g_36 hw k2 k50 hd1]
          exact hQ
        · have eF : toldF t n g i low high = 0 := by unfold toldF; rw [if_neg (fun q => q a), if_neg (fun q => q b), if_neg (fun q => q.elim c e)]
          have e' : numV t (adv t n g) ≤ high := Int32.not_lt.mp e
          obtain ⟨σ2, f2, t2, e2⟩ := g_39 hw ht t1' hva
          refine ⟨σ2, frR_tr f1 f2, by rw [eF, t2.2.2.2.2.2.1, adv_g (by omega), adv_g (by omega), h0], ⟨_, t2, vG_adv hva⟩, fun _ => t2, fun hD => cI_of (m := 3) (fun d hd Q hQ => ?_) rfl hD⟩
          rw [if_pos eF] at hQ
          refine num hd (b34_69 ?_)
          simp only [↓br_pos, ↓br_neg, ↓rF_I, ↓rF_L, ↓rF_R, ↓rF_N, rO_m, rB_m, ↓rI_m, wI_m, ↓rB2_m, ↓rB3_m, wB2_m, wB3_m, ↓rL_m, wL_m, ↓rQ_m, wQ_m, ↓lI_m, pI_m, pL_m, pR_m, sI_m, sBy_m, sBo_m, sL_m, sQ_m, fst_m, true_and, and_true, tg_some, ln_some, uI_1, uI_2, uL_1, uL_2, uL_3, uQ_1, uQ_2, uQ_3, rv_i, rv_l, rv_n, rv_b0, rv_b1, RMR, ne_eq, reduceCtorEq, not_false_eq_true, Option.getD_some, if_true, if_false, and_self, false_and, and_false, Nat.add_left_cancel_iff, Nat.add_eq_left, Nat.left_eq_add, Nat.one_ne_zero, Nat.reduceAdd, Nat.reduceLT, Nat.reduceLeDiff, Nat.reduceEqDiff, true_implies, false_implies, implies_true, Option.some.injEq, forall_eq', forall_eq, reduceCtorEq, brT, brF, br_s, i_10, i_01, ib_0_2, ib_1_2, tn_0, tn_1, Int32.le_refl, eq_self, rv_bN, rv_iM, RCX 0, RCG 2, RCT 4, RCT 15, RCT 25, RCS 35, RCS 49, RCH 63, RCP 67, RCB 72, RCR 77, RCM 81, RLY, lit_at hw, c, e', e2 hd]
          exact hQ
    · have c2 : (Int32.ofNat (adv t n g 2) = (2 : Int32)) ↔ False := iff_false_intro (fun q => b ((of_inj (b := 2) (by omega) (by omega)).mp q))
      have eF : toldF t n g i low high = 8 * adv t n g 0 + 1 := by unfold toldF; rw [if_neg (fun q => q a), if_pos b]
      have nF : ¬ toldF t n g i low high = 0 := by omega
      refine ⟨uI σ1 2 5 (8 * Int32.ofNat (adv t n g 0) + 1), frR_tr f1 (frR_I (by omega)), by rw [uI_1, if_pos ⟨rfl, rfl⟩, eF]; exact f8_of, ⟨_, tG_5 t1' (f8_of (a := 1)), vG_5 hva⟩, fun q => absurd q nF, fun hD => cI_of (m := 3) (fun d hd Q hQ => ?_) rfl hD⟩
      rw [if_neg nF] at hQ
      have hd1 : 1 ≤ d := by omega
      have hd2 : 2 ≤ d := by omega
      have hd3 : 3 ≤ d := by omega
      refine b34_0 ?_
      simp only [↓br_pos, ↓br_neg, ↓rF_I, ↓rF_L, ↓rF_R, ↓rF_N, rO_m, rB_m, ↓rI_m, wI_m, ↓rB2_m, ↓rB3_m, wB2_m, wB3_m, ↓rL_m, wL_m, ↓rQ_m, wQ_m, ↓lI_m, pI_m, pL_m, pR_m, sI_m, sBy_m, sBo_m, sL_m, sQ_m, fst_m, true_and, and_true, tg_some, ln_some, uI_1, uI_2, uL_1, uL_2, uL_3, uQ_1, uQ_2, uQ_3, rv_i, rv_l, rv_n, rv_b0, rv_b1, RMR, ne_eq, reduceCtorEq, not_false_eq_true, Option.getD_some, if_true, if_false, and_self, false_and, and_false, Nat.add_left_cancel_iff, Nat.add_eq_left, Nat.left_eq_add, Nat.one_ne_zero, Nat.reduceAdd, Nat.reduceLT, Nat.reduceLeDiff, Nat.reduceEqDiff, true_implies, false_implies, implies_true, Option.some.injEq, forall_eq', forall_eq, reduceCtorEq, brT, brF, br_s, i_10, i_01, ib_0_2, ib_1_2, tn_0, tn_1, Int32.le_refl, eq_self, rv_bN, rv_iM, RCX 0, RCG 2, RCT 4, RCT 15, RCT 25, RCS 35, RCS 49, RCH 63, RCP 67, RCB 72, RCR 77, RCM 81, RLY, lit_at hw, h50, g_37 hw hG' hv' hi hd1, ez, e1 hd3, k4, c2, g_36 hw k2 k50 hd1]
      exact hQ
  · have ez : iB (sayP t g i) = 0 := iB_f a
    have eF : toldF t n g i low high = 8 * g 0 + 1 := by unfold toldF; rw [if_pos a]
    have nF : ¬ toldF t n g i low high = 0 := by omega
    refine ⟨uI σ 2 5 (8 * Int32.ofNat (g 0) + 1), frR_I (by omega), by rw [uI_1, if_pos ⟨rfl, rfl⟩, eF]; exact f8_of, ⟨_, tG_5 hG' (f8_of (a := 1)), vG_5 hv'⟩, fun q => absurd q nF, fun hD => cI_of (m := 3) (fun d hd Q hQ => ?_) rfl hD⟩
    rw [if_neg nF] at hQ
    have hd1 : 1 ≤ d := by omega
    have hd2 : 2 ≤ d := by omega
    have hd3 : 3 ≤ d := by omega
    have n8 : ((8 : Int32) * Int32.ofNat (g 0) + 1 = 0) ↔ False := by
      rw [show (8 : Int32) * Int32.ofNat (g 0) + 1 = Int32.ofNat (8 * g 0 + 1) from f8_of]
      exact iff_false_intro (fun q => absurd ((of_eq0 (by omega)).mp q) (by omega))
    refine b34_0 ?_
    simp only [↓br_pos, ↓br_neg, ↓rF_I, ↓rF_L, ↓rF_R, ↓rF_N, rO_m, rB_m, ↓rI_m, wI_m, ↓rB2_m, ↓rB3_m, wB2_m, wB3_m, ↓rL_m, wL_m, ↓rQ_m, wQ_m, ↓lI_m, pI_m, pL_m, pR_m, sI_m, sBy_m, sBo_m, sL_m, sQ_m, fst_m, true_and, and_true, tg_some, ln_some, uI_1, uI_2, uL_1, uL_2, uL_3, uQ_1, uQ_2, uQ_3, rv_i, rv_l, rv_n, rv_b0, rv_b1, RMR, ne_eq, reduceCtorEq, not_false_eq_true, Option.getD_some, if_true, if_false, and_self, false_and, and_false, Nat.add_left_cancel_iff, Nat.add_eq_left, Nat.left_eq_add, Nat.one_ne_zero, Nat.reduceAdd, Nat.reduceLT, Nat.reduceLeDiff, Nat.reduceEqDiff, true_implies, false_implies, implies_true, Option.some.injEq, forall_eq', forall_eq, reduceCtorEq, brT, brF, br_s, i_10, i_01, ib_0_2, ib_1_2, tn_0, tn_1, Int32.le_refl, eq_self, rv_bN, rv_iM, RCX 0, RCG 2, RCT 4, RCT 15, RCT 25, RCS 35, RCS 49, RCH 63, RCP 67, RCB 72, RCR 77, RCM 81, RLY, lit_at hw, h50, g_37 hw hG' hv' hi hd1, ez, g_36 hw h2 h50 hd1, n8]
    exact hQ
/-- a name -/
def ncI (t : Nat → Nat) (s : Nat) : Nat → Int32
  | 0 => 0
  | k + 1 => ncI t s k * 27 + Int32.ofNat (t (s + k)) - 97 + 1
def dupP (nm : Nat → Int32) (k : Nat) (c : Int32) : Bool := (List.range k).any (fun i => decide (nm i = c))
def nameF (t : Nat → Nat) (g : Rw) (nm : Nat → Int32) : Nat := if g 2 ≠ 1 ∨ 6 < g 1 - g 0 ∨ kepP t g = true then 8 * g 0 + 1 else if dupP nm (g 5) (ncI t (g 0) (g 1 - g 0)) = true then 8 * g 0 + 2 else 0
def nmS (nm : Nat → Int32) (k : Nat) (c : Int32) : Nat → Int32 := fun i => if i = k then c else nm i
theorem lp_33a {w : mT} {σ : mS} {t : Nat → Nat} {n d : Nat} {g : Rw} {Q : Option (Option Value) → Hp → Prop} (hw : lit w) (hG : tG σ t n g) (hv : vG n g) (hQ : Wp 33 83 [.ref 2, .int (ncI t (g 0) (g 1 - g 0)), .int (0 : Int32)] [] (mW w σ) Q d) : ∀ k j : Nat, j + k = g 1 - g 0 → Wp 33 50 [.ref 2, .int (ncI t (g 0) j), .int (Int32.ofNat (g 0 + j))] [] (mW w σ) Q d := by
  obtain ⟨hB, h1, h2, h3, h4, h5, h6, h9⟩ := hG
  obtain ⟨v1, v2, v3, v4⟩ := hv
  intro k
  induction k with
  | zero =>
    intro j hj
    have hj' : j = g 1 - g 0 := by omega
    subst hj'
    have e : g 0 + (g 1 - g 0) = g 1 := by omega
    rw [e]
    refine b33_50 ?_
    simp only [↓br_pos, ↓br_neg, ↓rF_I, ↓rF_L, ↓rF_R, ↓rF_N, rO_m, rB_m, ↓rI_m, wI_m, ↓rB2_m, ↓rB3_m, wB2_m, wB3_m, ↓rL_m, wL_m, ↓rQ_m, wQ_m, ↓lI_m, pI_m, pL_m, pR_m, sI_m, sBy_m, sBo_m, sL_m, sQ_m, fst_m, true_and, and_true, tg_some, ln_some, uI_1, uI_2, uL_1, uL_2, uL_3, uQ_1, uQ_2, uQ_3, rv_i, rv_l, rv_n, rv_b0, rv_b1, RMR, ne_eq, reduceCtorEq, not_false_eq_true, Option.getD_some, if_true, if_false, and_self, false_and, and_false, Nat.add_left_cancel_iff, Nat.add_eq_left, Nat.left_eq_add, Nat.one_ne_zero, Nat.reduceAdd, Nat.reduceLT, Nat.reduceLeDiff, Nat.reduceEqDiff, true_implies, false_implies, implies_true, Option.some.injEq, forall_eq', forall_eq, reduceCtorEq, brT, brF, br_s, i_10, i_01, ib_0_2, ib_1_2, tn_0, tn_1, Int32.le_refl, eq_self, rv_bN, rv_iM, RCX 0, RCG 2, RCT 4, RCT 15, RCT 25, RCS 35, RCS 49, RCH 63, RCP 67, RCB 72, RCR 77, RCM 81, RLY, lit_at hw, h3, Int32.le_refl]
    exact hQ
  | succ k ih =>
    intro j hj
    have l1 : (Int32.ofNat (g 1) ≤ Int32.ofNat (g 0 + j)) ↔ False := iff_false_intro (fun q => absurd ((on_le (by omega) (by omega)).mp q) (by omega))
    have e0 := hB.1
    have e1 := hB.2 (g 0 + j) (by omega)
    have eb : inB (Int32.ofNat (g 0 + j)) 600 = true := on_inB (by omega) (by omega)
    have en := on_nat (i := g 0 + j) (by omega)
    refine b33_50 ?_
    simp only [↓br_pos, ↓br_neg, ↓rF_I, ↓rF_L, ↓rF_R, ↓rF_N, rO_m, rB_m, ↓rI_m, wI_m, ↓rB2_m, ↓rB3_m, wB2_m, wB3_m, ↓rL_m, wL_m, ↓rQ_m, wQ_m, ↓lI_m, pI_m, pL_m, pR_m, sI_m, sBy_m, sBo_m, sL_m, sQ_m, fst_m, true_and, and_true, tg_some, ln_some, uI_1, uI_2, uL_1, uL_2, uL_3, uQ_1, uQ_2, uQ_3, rv_i, rv_l, rv_n, rv_b0, rv_b1, RMR, ne_eq, reduceCtorEq, not_false_eq_true, Option.getD_some, if_true, if_false, and_self, false_and, and_false, Nat.add_left_cancel_iff, Nat.add_eq_left, Nat.left_eq_add, Nat.one_ne_zero, Nat.reduceAdd, Nat.reduceLT, Nat.reduceLeDiff, Nat.reduceEqDiff, true_implies, false_implies, implies_true, Option.some.injEq, forall_eq', forall_eq, reduceCtorEq, brT, brF, br_s, i_10, i_01, ib_0_2, ib_1_2, tn_0, tn_1, Int32.le_refl, eq_self, rv_bN, rv_iM, RCX 0, RCG 2, RCT 4, RCT 15, RCT 25, RCS 35, RCS 49, RCH 63, RCP 67, RCB 72, RCR 77, RCM 81, RLY, lit_at hw, h3, l1, e0, e1, eb, en, on_succ]
    exact ih (j + 1) (by omega)
theorem lp_33b {w : mT} {σ : mS} {t : Nat → Nat} {n d : Nat} {g : Rw} {nm : Nat → Int32} {c : Int32} {Q : Option (Option Value) → Hp → Prop} (hw : lit w) (hG : tG σ t n g) (h5 : g 5 < 23) (hn : ∀ i, i < g 5 → σ.1 14 i = nm i) (hdup : dupP nm (g 5) c = false) (hQ : Wp 33 83 [.ref 2, .int c, .int (Int32.ofNat (g 5))] [] (mW w σ) Q d) : ∀ k j : Nat, j + k = g 5 → Wp 33 83 [.ref 2, .int c, .int (Int32.ofNat j)] [] (mW w σ) Q d := by
  obtain ⟨hB, h1, h2, h3, h4, h55, h6, h9⟩ := hG
  intro k
  induction k with
  | zero =>
    intro j hj
    have hj' : j = g 5 := by omega
    subst hj'
    exact hQ
  | succ k ih =>
    intro j hj
    have l1 : (Int32.ofNat (g 5) ≤ Int32.ofNat j) ↔ False := iff_false_intro (fun q => absurd ((on_le (by omega) (by omega)).mp q) (by omega))
    have e1 := hn j (by omega)
    have eb : inB (Int32.ofNat j) 23 = true := on_inB (by omega) (by omega)
    have en := on_nat (i := j) (by omega)
    have ne : nm j ≠ c := fun q => by
      have : dupP nm (g 5) c = true := by
        unfold dupP
        rw [List.any_eq_true]
        exact ⟨j, List.mem_range.mpr (by omega), decide_eq_true q⟩
      rw [hdup] at this
      exact Bool.noConfusion this
    refine b33_83 ?_
    simp only [↓br_pos, ↓br_neg, ↓rF_I, ↓rF_L, ↓rF_R, ↓rF_N, rO_m, rB_m, ↓rI_m, wI_m, ↓rB2_m, ↓rB3_m, wB2_m, wB3_m, ↓rL_m, wL_m, ↓rQ_m, wQ_m, ↓lI_m, pI_m, pL_m, pR_m, sI_m, sBy_m, sBo_m, sL_m, sQ_m, fst_m, true_and, and_true, tg_some, ln_some, uI_1, uI_2, uL_1, uL_2, uL_3, uQ_1, uQ_2, uQ_3, rv_i, rv_l, rv_n, rv_b0, rv_b1, RMR, ne_eq, reduceCtorEq, not_false_eq_true, Option.getD_some, if_true, if_false, and_self, false_and, and_false, Nat.add_left_cancel_iff, Nat.add_eq_left, Nat.left_eq_add, Nat.one_ne_zero, Nat.reduceAdd, Nat.reduceLT, Nat.reduceLeDiff, Nat.reduceEqDiff, true_implies, false_implies, implies_true, Option.some.injEq, forall_eq', forall_eq, reduceCtorEq, brT, brF, br_s, i_10, i_01, ib_0_2, ib_1_2, tn_0, tn_1, Int32.le_refl, eq_self, rv_bN, rv_iM, RCX 0, RCG 2, RCT 4, RCT 15, RCT 25, RCS 35, RCS 49, RCH 63, RCP 67, RCB 72, RCR 77, RCM 81, RLY, lit_at hw, h9, l1, e1, eb, en, ne, on_succ]
    exact ih (j + 1) (by omega)
theorem lp_33c {w : mT} {σ : mS} {t : Nat → Nat} {n s d : Nat} {g : Rw} {nm : Nat → Int32} {c : Int32} {Q : Option (Option Value) → Hp → Prop} (hw : lit w) (hG : tG σ t n g) (h5 : g 5 < 23) (h0 : g 3 = 0) (hn : ∀ i, i < g 5 → σ.1 14 i = nm i) (hd : 1 ≤ d) (hQ : Q (some none) (mW w (uI σ 2 5 (8 * Int32.ofNat (g 0) + 2)))) : ∀ k j : Nat, j + k = g 5 → (∃ i, j ≤ i ∧ i < g 5 ∧ nm i = c) → Wp 33 83 [.ref 2, .int c, .int (Int32.ofNat j)] [] (mW w σ) Q d := by
  obtain ⟨hB, h1, h2, h3, h4, h55, h6, h9⟩ := hG
  have h50 : σ.1 2 5 = 0 := by rw [h55, h0]; rfl
  intro k
  induction k with
  | zero =>
    intro j hj hx
    obtain ⟨i, a, b, -⟩ := hx
    omega
  | succ k ih =>
    intro j hj hx
    have l1 : (Int32.ofNat (g 5) ≤ Int32.ofNat j) ↔ False := iff_false_intro (fun q => absurd ((on_le (by omega) (by omega)).mp q) (by omega))
    have e1 := hn j (by omega)
    have eb : inB (Int32.ofNat j) 23 = true := on_inB (by omega) (by omega)
    have en := on_nat (i := j) (by omega)
    refine b33_83 ?_
    by_cases z : nm j = c
    · have cz : (nm j = c) ↔ True := iff_true_intro z
      simp only [↓br_pos, ↓br_neg, ↓rF_I, ↓rF_L, ↓rF_R, ↓rF_N, rO_m, rB_m, ↓rI_m, wI_m, ↓rB2_m, ↓rB3_m, wB2_m, wB3_m, ↓rL_m, wL_m, ↓rQ_m, wQ_m, ↓lI_m, pI_m, pL_m, pR_m, sI_m, sBy_m, sBo_m, sL_m, sQ_m, fst_m, true_and, and_true, tg_some, ln_some, uI_1, uI_2, uL_1, uL_2, uL_3, uQ_1, uQ_2, uQ_3, rv_i, rv_l, rv_n, rv_b0, rv_b1, RMR, ne_eq, reduceCtorEq, not_false_eq_true, Option.getD_some, if_true, if_false, and_self, false_and, and_false, Nat.add_left_cancel_iff, Nat.add_eq_left, Nat.left_eq_add, Nat.one_ne_zero, Nat.reduceAdd, Nat.reduceLT, Nat.reduceLeDiff, Nat.reduceEqDiff, true_implies, false_implies, implies_true, Option.some.injEq, forall_eq', forall_eq, reduceCtorEq, brT, brF, br_s, i_10, i_01, ib_0_2, ib_1_2, tn_0, tn_1, Int32.le_refl, eq_self, rv_bN, rv_iM, RCX 0, RCG 2, RCT 4, RCT 15, RCT 25, RCS 35, RCS 49, RCH 63, RCP 67, RCB 72, RCR 77, RCM 81, RLY, lit_at hw, h9, l1, e1, eb, en, cz, g_36 hw h2 h50 hd]
      exact hQ
    · have cz : (nm j = c) ↔ False := iff_false_intro z
      simp only [↓br_pos, ↓br_neg, ↓rF_I, ↓rF_L, ↓rF_R, ↓rF_N, rO_m, rB_m, ↓rI_m, wI_m, ↓rB2_m, ↓rB3_m, wB2_m, wB3_m, ↓rL_m, wL_m, ↓rQ_m, wQ_m, ↓lI_m, pI_m, pL_m, pR_m, sI_m, sBy_m, sBo_m, sL_m, sQ_m, fst_m, true_and, and_true, tg_some, ln_some, uI_1, uI_2, uL_1, uL_2, uL_3, uQ_1, uQ_2, uQ_3, rv_i, rv_l, rv_n, rv_b0, rv_b1, RMR, ne_eq, reduceCtorEq, not_false_eq_true, Option.getD_some, if_true, if_false, and_self, false_and, and_false, Nat.add_left_cancel_iff, Nat.add_eq_left, Nat.left_eq_add, Nat.one_ne_zero, Nat.reduceAdd, Nat.reduceLT, Nat.reduceLeDiff, Nat.reduceEqDiff, true_implies, false_implies, implies_true, Option.some.injEq, forall_eq', forall_eq, reduceCtorEq, brT, brF, br_s, i_10, i_01, ib_0_2, ib_1_2, tn_0, tn_1, Int32.le_refl, eq_self, rv_bN, rv_iM, RCX 0, RCG 2, RCT 4, RCT 15, RCT 25, RCS 35, RCS 49, RCH 63, RCP 67, RCB 72, RCR 77, RCM 81, RLY, lit_at hw, h9, l1, e1, eb, en, cz, on_succ]
      obtain ⟨i, a, b, e⟩ := hx
      refine ih (j + 1) (by omega) ⟨i, ?_, b, e⟩
      by_cases y : i = j
      · subst y; exact absurd e z
      · omega
theorem g_33 {w : mT} {σ : mS} {t : Nat → Nat} {n : Nat} {g : Rw} {nm : Nat → Int32} (hw : lit w) (ht : ∀ i, t i < 256) (hG : tG σ t n g) (hv : vG n g) (h0 : g 3 = 0) (h5 : g 5 < 23) (hn : ∀ i, i < g 5 → σ.1 14 i = nm i) : ∃ σ', ((∀ a, a ≠ 2 → a ≠ 14 → σ'.1 a = σ.1 a) ∧ σ'.2 = σ.2) ∧ σ'.1 2 5 = Int32.ofNat (nameF t g nm) ∧ (∃ g', tG σ' t n g' ∧ vG n g') ∧ (nameF t g nm = 0 → tG σ' t n (adv t n (rSet g 5 (g 5 + 1))) ∧ ∀ i, i < g 5 + 1 → σ'.1 14 i = nmS nm (g 5) (ncI t (g 0) (g 1 - g 0)) i) ∧ ∀ {D : Nat} {K : Hp → Prop}, 4 ≤ D → (wpV D 33 [.ref 2] (mW w σ) K ↔ K (mW w σ')) := by
  have hG' := hG
  obtain ⟨hB, h1, h2, h3, h4, h55, h6, h9⟩ := hG
  have hv' := hv
  obtain ⟨v1, v2, v3, v4⟩ := hv
  have h50 : σ.1 2 5 = 0 := by rw [h55, h0]; rfl
  have fI : ∀ {x : Int32}, (∀ a, a ≠ 2 → a ≠ 14 → (uI σ 2 5 x).1 a = σ.1 a) ∧ (uI σ 2 5 x).2 = σ.2 := ⟨fun a h2 _ => (uI_ne h2).1, rfl⟩
  have cs : Int32.ofNat (g 1) - Int32.ofNat (g 0) = Int32.ofNat (g 1 - g 0) := of_sub v1
  by_cases a : g 2 = 1
  · have c1 : (Int32.ofNat (g 2) = (1 : Int32)) ↔ True := iff_true_intro (by rw [a]; rfl)
    by_cases b : 6 < g 1 - g 0
    · have c2 : ((6 : Int32) < Int32.ofNat (g 1 - g 0)) ↔ True := iff_true_intro ((on_lt (i := 6) (by omega) (by omega)).mpr b)
      have eF : nameF t g nm = 8 * g 0 + 1 := by unfold nameF; rw [if_pos (Or.inr (Or.inl b))]
      have nF : ¬ nameF t g nm = 0 := by omega
      refine ⟨uI σ 2 5 (8 * Int32.ofNat (g 0) + 1), fI, by rw [uI_1, if_pos ⟨rfl, rfl⟩, eF]; exact f8_of, ⟨_, tG_5 hG' (f8_of (a := 1)), vG_5 hv'⟩, fun q => absurd q nF, fun hD => cV_of (m := 3) (fun d hd Q hQ => ?_) rfl hD⟩
      have hd1 : 1 ≤ d := by omega
      have hd2 : 2 ≤ d := by omega
      have hd3 : 3 ≤ d := by omega
      refine b33_0 ?_
      simp only [↓br_pos, ↓br_neg, ↓rF_I, ↓rF_L, ↓rF_R, ↓rF_N, rO_m, rB_m, ↓rI_m, wI_m, ↓rB2_m, ↓rB3_m, wB2_m, wB3_m, ↓rL_m, wL_m, ↓rQ_m, wQ_m, ↓lI_m, pI_m, pL_m, pR_m, sI_m, sBy_m, sBo_m, sL_m, sQ_m, fst_m, true_and, and_true, tg_some, ln_some, uI_1, uI_2, uL_1, uL_2, uL_3, uQ_1, uQ_2, uQ_3, rv_i, rv_l, rv_n, rv_b0, rv_b1, RMR, ne_eq, reduceCtorEq, not_false_eq_true, Option.getD_some, if_true, if_false, and_self, false_and, and_false, Nat.add_left_cancel_iff, Nat.add_eq_left, Nat.left_eq_add, Nat.one_ne_zero, Nat.reduceAdd, Nat.reduceLT, Nat.reduceLeDiff, Nat.reduceEqDiff, true_implies, false_implies, implies_true, Option.some.injEq, forall_eq', forall_eq, reduceCtorEq, brT, brF, br_s, i_10, i_01, ib_0_2, ib_1_2, tn_0, tn_1, Int32.le_refl, eq_self, rv_bN, rv_iM, RCX 0, RCG 2, RCT 4, RCT 15, RCT 25, RCS 35, RCS 49, RCH 63, RCP 67, RCB 72, RCR 77, RCM 81, RLY, lit_at hw, h50, h4, c1, h3, h2, cs, c2, g_36 hw h2 h50 hd1]
      exact hQ
    · have c2 : ((6 : Int32) < Int32.ofNat (g 1 - g 0)) ↔ False := iff_false_intro (fun q => b ((on_lt (i := 6) (by omega) (by omega)).mp q))
      by_cases c : kepP t g = true
      · have ez : iB (kepP t g = true) = 1 := iB_t c
        have eF : nameF t g nm = 8 * g 0 + 1 := by unfold nameF; rw [if_pos (Or.inr (Or.inr c))]
        have nF : ¬ nameF t g nm = 0 := by omega
        refine ⟨uI σ 2 5 (8 * Int32.ofNat (g 0) + 1), fI, by rw [uI_1, if_pos ⟨rfl, rfl⟩, eF]; exact f8_of, ⟨_, tG_5 hG' (f8_of (a := 1)), vG_5 hv'⟩, fun q => absurd q nF, fun hD => cV_of (m := 3) (fun d hd Q hQ => ?_) rfl hD⟩
        have hd1 : 1 ≤ d := by omega
        have hd2 : 2 ≤ d := by omega
        have hd3 : 3 ≤ d := by omega
        refine b33_0 ?_
        simp only [↓br_pos, ↓br_neg, ↓rF_I, ↓rF_L, ↓rF_R, ↓rF_N, rO_m, rB_m, ↓rI_m, wI_m, ↓rB2_m, ↓rB3_m, wB2_m, wB3_m, ↓rL_m, wL_m, ↓rQ_m, wQ_m, ↓lI_m, pI_m, pL_m, pR_m, sI_m, sBy_m, sBo_m, sL_m, sQ_m, fst_m, true_and, and_true, tg_some, ln_some, uI_1, uI_2, uL_1, uL_2, uL_3, uQ_1, uQ_2, uQ_3, rv_i, rv_l, rv_n, rv_b0, rv_b1, RMR, ne_eq, reduceCtorEq, not_false_eq_true, Option.getD_some, if_true, if_false, and_self, false_and, and_false, Nat.add_left_cancel_iff, Nat.add_eq_left, Nat.left_eq_add, Nat.one_ne_zero, Nat.reduceAdd, Nat.reduceLT, Nat.reduceLeDiff, Nat.reduceEqDiff, true_implies, false_implies, implies_true, Option.some.injEq, forall_eq', forall_eq, reduceCtorEq, brT, brF, br_s, i_10, i_01, ib_0_2, ib_1_2, tn_0, tn_1, Int32.le_refl, eq_self, rv_bN, rv_iM, RCX 0, RCG 2, RCT 4, RCT 15, RCT 25, RCS 35, RCS 49, RCH 63, RCP 67, RCB 72, RCR 77, RCM 81, RLY, lit_at hw, h50, h4, c1, h3, h2, cs, c2, g_38 hw hG' hv' hd2, ez, g_36 hw h2 h50 hd1]
        exact hQ
      · have ez : iB (kepP t g = true) = 0 := iB_f c
        have pre : ∀ {d : Nat} {Q : Option (Option Value) → Hp → Prop}, 3 ≤ d → Wp 33 83 [.ref 2, .int (ncI t (g 0) (g 1 - g 0)), .int (0 : Int32)] [] (mW w σ) Q d → Wp 33 0 [.ref 2, jk, jk] [] (mW w σ) Q d := fun {d Q} hd hQ => by
          have hd1 : 1 ≤ d := by omega
          have hd2 : 2 ≤ d := by omega
          have hd3 : 3 ≤ d := by omega
          refine b33_0 ?_
          simp only [↓br_pos, ↓br_neg, ↓rF_I, ↓rF_L, ↓rF_R, ↓rF_N, rO_m, rB_m, ↓rI_m, wI_m, ↓rB2_m, ↓rB3_m, wB2_m, wB3_m, ↓rL_m, wL_m, ↓rQ_m, wQ_m, ↓lI_m, pI_m, pL_m, pR_m, sI_m, sBy_m, sBo_m, sL_m, sQ_m, fst_m, true_and, and_true, tg_some, ln_some, uI_1, uI_2, uL_1, uL_2, uL_3, uQ_1, uQ_2, uQ_3, rv_i, rv_l, rv_n, rv_b0, rv_b1, RMR, ne_eq, reduceCtorEq, not_false_eq_true, Option.getD_some, if_true, if_false, and_self, false_and, and_false, Nat.add_left_cancel_iff, Nat.add_eq_left, Nat.left_eq_add, Nat.one_ne_zero, Nat.reduceAdd, Nat.reduceLT, Nat.reduceLeDiff, Nat.reduceEqDiff, true_implies, false_implies, implies_true, Option.some.injEq, forall_eq', forall_eq, reduceCtorEq, brT, brF, br_s, i_10, i_01, ib_0_2, ib_1_2, tn_0, tn_1, Int32.le_refl, eq_self, rv_bN, rv_iM, RCX 0, RCG 2, RCT 4, RCT 15, RCT 25, RCS 35, RCS 49, RCH 63, RCP 67, RCB 72, RCR 77, RCM 81, RLY, lit_at hw, h50, h4, c1, h3, h2, cs, c2, g_38 hw hG' hv' hd2, ez]
          exact lp_33a hw hG' hv' hQ (g 1 - g 0) 0 (Nat.zero_add _)
        have ncond : ¬ (g 2 ≠ 1 ∨ 6 < g 1 - g 0 ∨ kepP t g = true) := fun q => q.elim (fun z => z a) (fun z => z.elim b c)
        cases e : dupP nm (g 5) (ncI t (g 0) (g 1 - g 0)) with
        | true =>
          have eF : nameF t g nm = 8 * g 0 + 2 := by unfold nameF; rw [if_neg ncond, if_pos e]
          have nF : ¬ nameF t g nm = 0 := by omega
          refine ⟨uI σ 2 5 (8 * Int32.ofNat (g 0) + 2), fI, by rw [uI_1, if_pos ⟨rfl, rfl⟩, eF]; exact f8_of, ⟨_, tG_5 hG' (f8_of (a := 2)), vG_5 hv'⟩, fun q => absurd q nF, fun hD => cV_of (m := 3) (fun d hd Q hQ => ?_) rfl hD⟩
          refine pre hd ?_
          have hx := e
          unfold dupP at hx
          rw [List.any_eq_true] at hx
          obtain ⟨i, hi, hx⟩ := hx
          exact lp_33c (s := 0) hw hG' h5 h0 hn (by omega) hQ (g 5) 0 (Nat.zero_add _) ⟨i, Nat.zero_le _, List.mem_range.mp hi, of_decide_eq_true hx⟩
        | false =>
          have eF : nameF t g nm = 0 := by unfold nameF; rw [if_neg ncond, if_neg (by rw [e]; exact Bool.noConfusion)]
          have hG2 : tG (uI (uI σ 14 (g 5) (ncI t (g 0) (g 1 - g 0))) 2 9 (Int32.ofNat (g 5 + 1))) t n (rSet g 5 (g 5 + 1)) := by
            refine ⟨⟨hB.1, fun i hi => ?_⟩, ?_, ?_, ?_, ?_, ?_, ?_, ?_⟩
            · rw [uI_1, if_neg (by omega), uI_1, if_neg (by omega)]; exact hB.2 i hi
            · rw [uI_1, if_neg (by omega), uI_1, if_neg (by omega)]; exact h1
            · rw [uI_1, if_neg (by omega), uI_1, if_neg (by omega), rS_ne (by omega)]; exact h2
            · rw [uI_1, if_neg (by omega), uI_1, if_neg (by omega), rS_ne (by omega)]; exact h3
            · rw [uI_1, if_neg (by omega), uI_1, if_neg (by omega), rS_ne (by omega)]; exact h4
            · rw [uI_1, if_neg (by omega), uI_1, if_neg (by omega), rS_ne (by omega)]; exact h55
            · rw [uI_1, if_neg (by omega), uI_1, if_neg (by omega), rS_ne (by omega)]; exact h6
            · rw [uI_1, if_pos ⟨rfl, rfl⟩, rS_eq]
          have hv2 : vG n (rSet g 5 (g 5 + 1)) := ⟨by rw [rS_ne (by omega), rS_ne (by omega)]; exact v1, by rw [rS_ne (by omega)]; exact v2, v3, by rw [rS_ne (by omega)]; exact v4⟩
          obtain ⟨σ2, f2, t2, e2⟩ := g_39 hw ht hG2 hv2
          have eb : inB (Int32.ofNat (g 5)) 23 = true := on_inB (by omega) (by omega)
          have en := on_nat (i := g 5) (by omega)
          have l23 : (Int32.ofNat 23 ≤ Int32.ofNat (g 5)) ↔ False := iff_false_intro (fun q => absurd ((on_le (by omega) (by omega)).mp q) (by omega))
          refine ⟨σ2, ⟨fun a h2 h14 => by rw [f2.1 a (by omega), (uI_ne h2).1, (uI_ne h14).1], by rw [f2.2]; rfl⟩, by rw [eF, t2.2.2.2.2.2.1, adv_g (by omega), rS_ne (by omega), h0], ⟨_, t2, vG_adv hv2⟩, fun _ => ⟨t2, fun i hi => ?_⟩, fun hD => cV_of (m := 3) (fun d hd Q hQ => ?_) rfl hD⟩
          · rw [f2.1 14 (by omega), uI_1, if_neg (by omega), uI_1]
            unfold nmS
            by_cases y : i = g 5
            · rw [if_pos ⟨rfl, y⟩, if_pos y]
            · rw [if_neg (fun q => y q.2), if_neg y]; exact hn i (by omega)
          · refine pre hd (lp_33b hw hG' h5 hn e ?_ (g 5) 0 (Nat.zero_add _))
            refine b33_83 ?_
            simp only [↓br_pos, ↓br_neg, ↓rF_I, ↓rF_L, ↓rF_R, ↓rF_N, rO_m, rB_m, ↓rI_m, wI_m, ↓rB2_m, ↓rB3_m, wB2_m, wB3_m, ↓rL_m, wL_m, ↓rQ_m, wQ_m, ↓lI_m, pI_m, pL_m, pR_m, sI_m, sBy_m, sBo_m, sL_m, sQ_m, fst_m, true_and, and_true, tg_some, ln_some, uI_1, uI_2, uL_1, uL_2, uL_3, uQ_1, uQ_2, uQ_3, rv_i, rv_l, rv_n, rv_b0, rv_b1, RMR, ne_eq, reduceCtorEq, not_false_eq_true, Option.getD_some, if_true, if_false, and_self, false_and, and_false, Nat.add_left_cancel_iff, Nat.add_eq_left, Nat.left_eq_add, Nat.one_ne_zero, Nat.reduceAdd, Nat.reduceLT, Nat.reduceLeDiff, Nat.reduceEqDiff, true_implies, false_implies, implies_true, Option.some.injEq, forall_eq', forall_eq, reduceCtorEq, brT, brF, br_s, i_10, i_01, ib_0_2, ib_1_2, tn_0, tn_1, Int32.le_refl, eq_self, rv_bN, rv_iM, RCX 0, RCG 2, RCT 4, RCT 15, RCT 25, RCS 35, RCS 49, RCH 63, RCP 67, RCB 72, RCR 77, RCM 81, RLY, lit_at hw, h9, Int32.le_refl, l23, eb, en, on_succ, e2 hd]
            exact hQ
  · have c1 : (Int32.ofNat (g 2) = (1 : Int32)) ↔ False := iff_false_intro (fun q => a ((of_inj (b := 1) (by omega) (by omega)).mp q))
    have eF : nameF t g nm = 8 * g 0 + 1 := by unfold nameF; rw [if_pos (Or.inl a)]
    have nF : ¬ nameF t g nm = 0 := by omega
    refine ⟨uI σ 2 5 (8 * Int32.ofNat (g 0) + 1), fI, by rw [uI_1, if_pos ⟨rfl, rfl⟩, eF]; exact f8_of, ⟨_, tG_5 hG' (f8_of (a := 1)), vG_5 hv'⟩, fun q => absurd q nF, fun hD => cV_of (m := 3) (fun d hd Q hQ => ?_) rfl hD⟩
    have hd1 : 1 ≤ d := by omega
    have hd2 : 2 ≤ d := by omega
    have hd3 : 3 ≤ d := by omega
    refine b33_0 ?_
    simp only [↓br_pos, ↓br_neg, ↓rF_I, ↓rF_L, ↓rF_R, ↓rF_N, rO_m, rB_m, ↓rI_m, wI_m, ↓rB2_m, ↓rB3_m, wB2_m, wB3_m, ↓rL_m, wL_m, ↓rQ_m, wQ_m, ↓lI_m, pI_m, pL_m, pR_m, sI_m, sBy_m, sBo_m, sL_m, sQ_m, fst_m, true_and, and_true, tg_some, ln_some, uI_1, uI_2, uL_1, uL_2, uL_3, uQ_1, uQ_2, uQ_3, rv_i, rv_l, rv_n, rv_b0, rv_b1, RMR, ne_eq, reduceCtorEq, not_false_eq_true, Option.getD_some, if_true, if_false, and_self, false_and, and_false, Nat.add_left_cancel_iff, Nat.add_eq_left, Nat.left_eq_add, Nat.one_ne_zero, Nat.reduceAdd, Nat.reduceLT, Nat.reduceLeDiff, Nat.reduceEqDiff, true_implies, false_implies, implies_true, Option.some.injEq, forall_eq', forall_eq, reduceCtorEq, brT, brF, br_s, i_10, i_01, ib_0_2, ib_1_2, tn_0, tn_1, Int32.le_refl, eq_self, rv_bN, rv_iM, RCX 0, RCG 2, RCT 4, RCT 15, RCT 25, RCS 35, RCS 49, RCH 63, RCP 67, RCB 72, RCR 77, RCM 81, RLY, lit_at hw, h50, h4, c1, g_36 hw h2 h50 hd1]
    exact hQ
