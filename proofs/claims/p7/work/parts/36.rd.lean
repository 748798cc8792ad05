/-! the class's Reader: words, numbers, signs -/
def isWs (b : Nat) : Bool := decide (b = 32 ∨ b = 10)
def isLt (b : Nat) : Bool := decide (97 ≤ b ∧ b ≤ 122)
def isDg (b : Nat) : Bool := decide (48 ≤ b ∧ b ≤ 57)
/-- how far from i on all bytes are such -/
def spn (P : Nat → Bool) (t : Nat → Nat) (n : Nat) : Nat → Nat → Nat
  | 0, i => i
  | k + 1, i => if i < n ∧ P (t i) = true then spn P t n k (i + 1) else i
theorem spn_s {P : Nat → Bool} {t : Nat → Nat} {n k i : Nat} : spn P t n (k + 1) i = if i < n ∧ P (t i) = true then spn P t n k (i + 1) else i := rfl
theorem spn_ge {P : Nat → Bool} {t : Nat → Nat} {n : Nat} : ∀ k i, i ≤ spn P t n k i := by
  intro k
  induction k with
  | zero => intro i; exact Nat.le_refl _
  | succ k ih =>
    intro i
    rw [spn_s]; split
    · have := ih (i + 1); omega
    · exact Nat.le_refl _
theorem spn_le {P : Nat → Bool} {t : Nat → Nat} {n : Nat} : ∀ k i, i ≤ n → spn P t n k i ≤ n := by
  intro k
  induction k with
  | zero => intro i h; exact h
  | succ k ih =>
    intro i h
    rw [spn_s]; split
    · rename_i z; exact ih (i + 1) (by omega)
    · exact h
/-- what is next from i on: where it starts, ends, what it is -/
def tkS (t : Nat → Nat) (n i : Nat) : Nat := spn isWs t n (n - i) i
def tkE (t : Nat → Nat) (n s : Nat) : Nat := if n ≤ s then s else if isLt (t s) = true then spn isLt t n (n - s) s else if isDg (t s) = true then spn isDg t n (n - s) s else s + 1
def tkK (t : Nat → Nat) (n s : Nat) : Nat := if n ≤ s then 0 else if isLt (t s) = true then 1 else if isDg (t s) = true then 2 else if t s = 59 then 3 else 4
/-- the tape under the Reader -/
def tBy (σ : mS) (t : Nat → Nat) : Prop := σ.2.2 2 0 = some 1 ∧ ∀ i, i < 600 → σ.1 1 i = Int32.ofNat (t i)
theorem tBy_R {σ σ' : mS} {t : Nat → Nat} (h : tBy σ t) (hf : frR 2 3 σ σ') : tBy σ' t := ⟨by rw [hf.2]; exact h.1, fun i hi => by rw [hf.1 1 (by omega)]; exact h.2 i hi⟩
theorem g_40 {w : mT} {σ : mS} {t : Nat → Nat} {i D : Nat} {K : Int32 → Hp → Prop} (hw : lit w) (hB : tBy σ t) (ht : ∀ i, t i < 256) (hi : i < 600) (hD : 1 ≤ D) : wpI D 40 [.ref 2, .int (Int32.ofNat i)] (mW w σ) K ↔ K (iB (isLt (t i) = true)) (mW w σ) := by
  refine cI_of (m := 0) (fun d hd Q hQ => ?_) rfl hD
  have e0 := hB.1
  have e1 := hB.2 i hi
  have h := ht i
  have eb : inB (Int32.ofNat i) 600 = true := on_inB hi (by omega)
  have en := on_nat (i := i) (by omega)
  have x1 := on_lt (i := t i) (j := 97) (by omega) (by omega)
  have x2 := on_lt (i := 122) (j := t i) (by omega) (by omega)
  refine b40_0 ?_
  by_cases a : t i < 97
  · rw [iB_f (by unfold isLt; rw [decide_eq_true_eq]; omega)] at hQ
    have c1 : (Int32.ofNat (t i) < (97 : Int32)) ↔ True := iff_true_intro (x1.mpr a)
    simp only [↓br_pos, ↓br_neg, ↓rF_I, ↓rF_L, ↓rF_R, ↓rF_N, rO_m, rB_m, ↓rI_m, wI_m, ↓rB2_m, ↓rB3_m, wB2_m, wB3_m, ↓rL_m, wL_m, ↓rQ_m, wQ_m, ↓lI_m, pI_m, pL_m, pR_m, sI_m, sBy_m, sBo_m, sL_m, sQ_m, fst_m, true_and, and_true, tg_some, ln_some, uI_1, uI_2, uL_1, uL_2, uL_3, uQ_1, uQ_2, uQ_3, rv_i, rv_l, rv_n, rv_b0, rv_b1, RMR, ne_eq, reduceCtorEq, not_false_eq_true, Option.getD_some, if_true, if_false, and_self, false_and, and_false, Nat.add_left_cancel_iff, Nat.add_eq_left, Nat.left_eq_add, Nat.one_ne_zero, Nat.reduceAdd, Nat.reduceLT, Nat.reduceLeDiff, Nat.reduceEqDiff, true_implies, false_implies, implies_true, Option.some.injEq, forall_eq', forall_eq, reduceCtorEq, brT, brF, br_s, i_10, i_01, ib_0_2, ib_1_2, tn_0, tn_1, Int32.le_refl, eq_self, rv_bN, rv_iM, RCX 0, RCG 2, RCT 4, RCT 15, RCT 25, RCS 35, RCS 49, RCH 63, RCP 67, RCB 72, RCR 77, RCM 81, RLY, lit_at hw, e0, e1, eb, en, c1]
    exact hQ
  · have c1 : (Int32.ofNat (t i) < (97 : Int32)) ↔ False := iff_false_intro (fun q => a (x1.mp q))
    by_cases b : 122 < t i
    · rw [iB_f (by unfold isLt; rw [decide_eq_true_eq]; omega)] at hQ
      have c2 : ((122 : Int32) < Int32.ofNat (t i)) ↔ True := iff_true_intro (x2.mpr b)
      simp only [↓br_pos, ↓br_neg, ↓rF_I, ↓rF_L, ↓rF_R, ↓rF_N, rO_m, rB_m, ↓rI_m, wI_m, ↓rB2_m, ↓rB3_m, wB2_m, wB3_m, ↓rL_m, wL_m, ↓rQ_m, wQ_m, ↓lI_m, pI_m, pL_m, pR_m, sI_m, sBy_m, sBo_m, sL_m, sQ_m, fst_m, true_and, and_true, tg_some, ln_some, uI_1, uI_2, uL_1, uL_2, uL_3, uQ_1, uQ_2, uQ_3, rv_i, rv_l, rv_n, rv_b0, rv_b1, RMR, ne_eq, reduceCtorEq, not_false_eq_true, Option.getD_some, if_true, if_false, and_self, false_and, and_false, Nat.add_left_cancel_iff, Nat.add_eq_left, Nat.left_eq_add, Nat.one_ne_zero, Nat.reduceAdd, Nat.reduceLT, Nat.reduceLeDiff, Nat.reduceEqDiff, true_implies, false_implies, implies_true, Option.some.injEq, forall_eq', forall_eq, reduceCtorEq, brT, brF, br_s, i_10, i_01, ib_0_2, ib_1_2, tn_0, tn_1, Int32.le_refl, eq_self, rv_bN, rv_iM, RCX 0, RCG 2, RCT 4, RCT 15, RCT 25, RCS 35, RCS 49, RCH 63, RCP 67, RCB 72, RCR 77, RCM 81, RLY, lit_at hw, e0, e1, eb, en, c1, c2]
      exact hQ
    · rw [iB_t (by unfold isLt; rw [decide_eq_true_eq]; omega)] at hQ
      have c2 : ((122 : Int32) < Int32.ofNat (t i)) ↔ False := iff_false_intro (fun q => b (x2.mp q))
      simp only [↓br_pos, ↓br_neg, ↓rF_I, ↓rF_L, ↓rF_R, ↓rF_N, rO_m, rB_m, ↓rI_m, wI_m, ↓rB2_m, ↓rB3_m, wB2_m, wB3_m, ↓rL_m, wL_m, ↓rQ_m, wQ_m, ↓lI_m, pI_m, pL_m, pR_m, sI_m, sBy_m, sBo_m, sL_m, sQ_m, fst_m, true_and, and_true, tg_some, ln_some, uI_1, uI_2, uL_1, uL_2, uL_3, uQ_1, uQ_2, uQ_3, rv_i, rv_l, rv_n, rv_b0, rv_b1, RMR, ne_eq, reduceCtorEq, not_false_eq_true, Option.getD_some, if_true, if_false, and_self, false_and, and_false, Nat.add_left_cancel_iff, Nat.add_eq_left, Nat.left_eq_add, Nat.one_ne_zero, Nat.reduceAdd, Nat.reduceLT, Nat.reduceLeDiff, Nat.reduceEqDiff, true_implies, false_implies, implies_true, Option.some.injEq, forall_eq', forall_eq, reduceCtorEq, brT, brF, br_s, i_10, i_01, ib_0_2, ib_1_2, tn_0, tn_1, Int32.le_refl, eq_self, rv_bN, rv_iM, RCX 0, RCG 2, RCT 4, RCT 15, RCT 25, RCS 35, RCS 49, RCH 63, RCP 67, RCB 72, RCR 77, RCM 81, RLY, lit_at hw, e0, e1, eb, en, c1, c2]
      exact hQ
theorem g_41 {w : mT} {σ : mS} {t : Nat → Nat} {i D : Nat} {K : Int32 → Hp → Prop} (hw : lit w) (hB : tBy σ t) (ht : ∀ i, t i < 256) (hi : i < 600) (hD : 1 ≤ D) : wpI D 41 [.ref 2, .int (Int32.ofNat i)] (mW w σ) K ↔ K (iB (isDg (t i) = true)) (mW w σ) := by
  refine cI_of (m := 0) (fun d hd Q hQ => ?_) rfl hD
  have e0 := hB.1
  have e1 := hB.2 i hi
  have h := ht i
  have eb : inB (Int32.ofNat i) 600 = true := on_inB hi (by omega)
  have en := on_nat (i := i) (by omega)
  have x1 := on_lt (i := t i) (j := 48) (by omega) (by omega)
  have x2 := on_lt (i := 57) (j := t i) (by omega) (by omega)
  refine b41_0 ?_
  by_cases a : t i < 48
  · rw [iB_f (by unfold isDg; rw [decide_eq_true_eq]; omega)] at hQ
    have c1 : (Int32.ofNat (t i) < (48 : Int32)) ↔ True := iff_true_intro (x1.mpr a)
    simp only [↓br_pos, ↓br_neg, ↓rF_I, ↓rF_L, ↓rF_R, ↓rF_N, rO_m, rB_m, ↓rI_m, wI_m, ↓rB2_m, ↓rB3_m, wB2_m, wB3_m, ↓rL_m, wL_m, ↓rQ_m, wQ_m, ↓lI_m, pI_m, pL_m, pR_m, sI_m, sBy_m, sBo_m, sL_m, sQ_m, fst_m, true_and, and_true, tg_some, ln_some, uI_1, uI_2, uL_1, uL_2, uL_3, uQ_1, uQ_2, uQ_3, rv_i, rv_l, rv_n, rv_b0, rv_b1, RMR, ne_eq, reduceCtorEq, not_false_eq_true, Option.getD_some, if_true, if_false, and_self, false_and, and_false, Nat.add_left_cancel_iff, Nat.add_eq_left, Nat.left_eq_add, Nat.one_ne_zero, Nat.reduceAdd, Nat.reduceLT, Nat.reduceLeDiff, Nat.reduceEqDiff, true_implies, false_implies, implies_true, Option.some.injEq, forall_eq', forall_eq, reduceCtorEq, brT, brF, br_s, i_10, i_01, ib_0_2, ib_1_2, tn_0, tn_1, Int32.le_refl, eq_self, rv_bN, rv_iM, RCX 0, RCG 2, RCT 4, RCT 15, RCT 25, RCS 35, RCS 49, RCH 63, RCP 67, RCB 72, RCR 77, RCM 81, RLY, lit_at hw, e0, e1, eb, en, c1]
    exact hQ
  · have c1 : (Int32.ofNat (t i) < (48 : Int32)) ↔ False := iff_false_intro (fun q => a (x1.mp q))
    by_cases b : 57 < t i
    · rw [iB_f (by unfold isDg; rw [decide_eq_true_eq]; omega)] at hQ
      have c2 : ((57 : Int32) < Int32.ofNat (t i)) ↔ True := iff_true_intro (x2.mpr b)
      simp only [↓br_pos, ↓br_neg, ↓rF_I, ↓rF_L, ↓rF_R, ↓rF_N, rO_m, rB_m, ↓rI_m, wI_m, ↓rB2_m, ↓rB3_m, wB2_m, wB3_m, ↓rL_m, wL_m, ↓rQ_m, wQ_m, ↓lI_m, pI_m, pL_m, pR_m, sI_m, sBy_m, sBo_m, sL_m, sQ_m, fst_m, true_and, and_true, tg_some, ln_some, uI_1, uI_2, uL_1, uL_2, uL_3, uQ_1, uQ_2, uQ_3, rv_i, rv_l, rv_n, rv_b0, rv_b1, RMR, ne_eq, reduceCtorEq, not_false_eq_true, Option.getD_some, if_true, if_false, and_self, false_and, and_false, Nat.add_left_cancel_iff, Nat.add_eq_left, Nat.left_eq_add, Nat.one_ne_zero, Nat.reduceAdd, Nat.reduceLT, Nat.reduceLeDiff, Nat.reduceEqDiff, true_implies, false_implies, implies_true, Option.some.injEq, forall_eq', forall_eq, reduceCtorEq, brT, brF, br_s, i_10, i_01, ib_0_2, ib_1_2, tn_0, tn_1, Int32.le_refl, eq_self, rv_bN, rv_iM, RCX 0, RCG 2, RCT 4, RCT 15, RCT 25, RCS 35, RCS 49, RCH 63, RCP 67, RCB 72, RCR 77, RCM 81, RLY, lit_at hw, e0, e1, eb, en, c1, c2]
      exact hQ
    · rw [iB_t (by unfold isDg; rw [decide_eq_true_eq]; omega)] at hQ
      have c2 : ((57 : Int32) < Int32.ofNat (t i)) ↔ False := iff_false_intro (fun q => b (x2.mp q))
      simp only [↓br_pos, ↓br_neg, ↓rF_I, ↓rF_L, ↓rF_R, ↓rF_N, rO_m, rB_m, ↓rI_m, wI_m, ↓rB2_m, ↓rB3_m, wB2_m, wB3_m, ↓rL_m, wL_m, ↓rQ_m, wQ_m, ↓lI_m, pI_m, pL_m, pR_m, sI_m, sBy_m, sBo_m, sL_m, sQ_m, fst_m, true_and, and_true, tg_some, ln_some, uI_1, uI_2, uL_1, uL_2, uL_3, uQ_1, uQ_2, uQ_3, rv_i, rv_l, rv_n, rv_b0, rv_b1, RMR, ne_eq, reduceCtorEq, not_false_eq_true, Option.getD_some, if_true, if_false, and_self, false_and, and_false, Nat.add_left_cancel_iff, Nat.add_eq_left, Nat.left_eq_add, Nat.one_ne_zero, Nat.reduceAdd, Nat.reduceLT, Nat.reduceLeDiff, Nat.reduceEqDiff, true_implies, false_implies, implies_true, Option.some.injEq, forall_eq', forall_eq, reduceCtorEq, brT, brF, br_s, i_10, i_01, ib_0_2, ib_1_2, tn_0, tn_1, Int32.le_refl, eq_self, rv_bN, rv_iM, RCX 0, RCG 2, RCT 4, RCT 15, RCT 25, RCS 35, RCS 49, RCH 63, RCP 67, RCB 72, RCR 77, RCM 81, RLY, lit_at hw, e0, e1, eb, en, c1, c2]
      exact hQ
theorem lp_103 {w : mT} {t : Nat → Nat} {n : Nat} (hw : lit w) (ht : ∀ i, t i < 256) (hn : n ≤ 600) : ∀ (k i : Nat) (σ : mS), i + k = n → tBy σ t → σ.1 2 3 = Int32.ofNat i → σ.1 2 1 = Int32.ofNat n → ∃ σ', frR 2 3 σ σ' ∧ σ'.1 2 3 = Int32.ofNat (spn isLt t n k i) ∧ (∀ j, j ≠ 3 → σ'.1 2 j = σ.1 2 j) ∧ ∀ {Q : Option (Option Value) → Hp → Prop} {d : Nat}, 1 ≤ d → Q (some none) (mW w σ') → Wp 39 103 [.ref 2] [] (mW w σ) Q d := by
  intro k
  induction k with
  | zero =>
    intro i σ hi hB h3 h1
    have hi' : i = n := by omega
    subst hi'
    refine ⟨σ, frR_rf, h3, fun _ _ => rfl, fun hd hQ => ?_⟩
    refine b39_103 ?_
    simp only [↓br_pos, ↓br_neg, ↓rF_I, ↓rF_L, ↓rF_R, ↓rF_N, rO_m, rB_m, ↓rI_m, wI_m, ↓rB2_m, ↓rB3_m, wB2_m, wB3_m, ↓rL_m, wL_m, ↓rQ_m, wQ_m, ↓lI_m, pI_m, pL_m, pR_m, sI_m, sBy_m, sBo_m, sL_m, sQ_m, fst_m, true_and, and_true, tg_some, ln_some, uI_1, uI_2, uL_1, uL_2, uL_3, uQ_1, uQ_2, uQ_3, rv_i, rv_l, rv_n, rv_b0, rv_b1, RMR, ne_eq, reduceCtorEq, not_false_eq_true, Option.getD_some, if_true, if_false, and_self, false_and, and_false, Nat.add_left_cancel_iff, Nat.add_eq_left, Nat.left_eq_add, Nat.one_ne_zero, Nat.reduceAdd, Nat.reduceLT, Nat.reduceLeDiff, Nat.reduceEqDiff, true_implies, false_implies, implies_true, Option.some.injEq, forall_eq', forall_eq, reduceCtorEq, brT, brF, br_s, i_10, i_01, ib_0_2, ib_1_2, tn_0, tn_1, Int32.le_refl, eq_self, rv_bN, rv_iM, RCX 0, RCG 2, RCT 4, RCT 15, RCT 25, RCS 35, RCS 49, RCH 63, RCP 67, RCB 72, RCR 77, RCM 81, RLY, lit_at hw, h3, h1, Int32.le_refl]
    exact hQ
  | succ k ih =>
    intro i σ hi hB h3 h1
    have l1 : (Int32.ofNat n ≤ Int32.ofNat i) ↔ False := iff_false_intro (fun q => absurd ((on_le (by omega) (by omega)).mp q) (by omega))
    by_cases z : isLt (t i) = true
    · have ez : iB (isLt (t i) = true) = 1 := iB_t z
      have fr1 : frR 2 3 σ (uI σ 2 3 (Int32.ofNat (i + 1))) := frR_I (by omega)
      obtain ⟨σ', f', e', o', k'⟩ := ih (i + 1) (uI σ 2 3 (Int32.ofNat (i + 1))) (by omega) (tBy_R hB fr1) (by rw [uI_1, if_pos ⟨rfl, rfl⟩]) (by rw [uI_1, if_neg (by omega)]; exact h1)
      refine ⟨σ', frR_tr fr1 f', by rw [spn_s, if_pos ⟨by omega, z⟩]; exact e', fun j hj => by rw [o' j hj, uI_1, if_neg (fun q => hj q.2)], fun hd hQ => ?_⟩
      refine b39_103 ?_
      simp only [↓br_pos, ↓br_neg, ↓rF_I, ↓rF_L, ↓rF_R, ↓rF_N, rO_m, rB_m, ↓rI_m, wI_m, ↓rB2_m, ↓rB3_m, wB2_m, wB3_m, ↓rL_m, wL_m, ↓rQ_m, wQ_m, ↓lI_m, pI_m, pL_m, pR_m, sI_m, sBy_m, sBo_m, sL_m, sQ_m, fst_m, true_and, and_true, tg_some, ln_some, uI_1, uI_2, uL_1, uL_2, uL_3, uQ_1, uQ_2, uQ_3, rv_i, rv_l, rv_n, rv_b0, rv_b1, RMR, ne_eq, reduceCtorEq, not_false_eq_true, Option.getD_some, if_true, if_false, and_self, false_and, and_false, Nat.add_left_cancel_iff, Nat.add_eq_left, Nat.left_eq_add, Nat.one_ne_zero, Nat.reduceAdd, Nat.reduceLT, Nat.reduceLeDiff, Nat.reduceEqDiff, true_implies, false_implies, implies_true, Option.some.injEq, forall_eq', forall_eq, reduceCtorEq, brT, brF, br_s, i_10, i_01, ib_0_2, ib_1_2, tn_0, tn_1, Int32.le_refl, eq_self, rv_bN, rv_iM, RCX 0, RCG 2, RCT 4, RCT 15, RCT 25, RCS 35, RCS 49, RCH 63, RCP 67, RCB 72, RCR 77, RCM 81, RLY, lit_at hw, h3, h1, l1, g_40 hw hB ht (by omega : i < 600) hd, ez, on_succ]
      exact k' hd hQ
    · have ez : iB (isLt (t i) = true) = 0 := iB_f z
      refine ⟨σ, frR_rf, by rw [spn_s, if_neg (fun q => z q.2)]; exact h3, fun _ _ => rfl, fun hd hQ => ?_⟩
      refine b39_103 ?_
      simp only [↓br_pos, ↓br_neg, ↓rF_I, ↓rF_L, ↓rF_R, ↓rF_N, rO_m, rB_m, ↓rI_m, wI_m, ↓rB2_m, ↓rB3_m, wB2_m, wB3_m, ↓rL_m, wL_m, ↓rQ_m, wQ_m, ↓lI_m, pI_m, pL_m, pR_m, sI_m, sBy_m, sBo_m, sL_m, sQ_m, fst_m, true_and, and_true, tg_some, ln_some, uI_1, uI_2, uL_1, uL_2, uL_3, uQ_1, uQ_2, uQ_3, rv_i, rv_l, rv_n, rv_b0, rv_b1, RMR, ne_eq, reduceCtorEq, not_false_eq_true, Option.getD_some, if_true, if_false, and_self, false_and, and_false, Nat.add_left_cancel_iff, Nat.add_eq_left, Nat.left_eq_add, Nat.one_ne_zero, Nat.reduceAdd, Nat.reduceLT, Nat.reduceLeDiff, Nat.reduceEqDiff, true_implies, false_implies, implies_true, Option.some.injEq, forall_eq', forall_eq, reduceCtorEq, brT, brF, br_s, i_10, i_01, ib_0_2, ib_1_2, tn_0, tn_1, Int32.le_refl, eq_self, rv_bN, rv_iM, RCX 0, RCG 2, RCT 4, RCT 15, RCT 25, RCS 35, RCS 49, RCH 63, RCP 67, RCB 72, RCR 77, RCM 81, RLY, lit_at hw, h3, h1, l1, g_40 hw hB ht (by omega : i < 600) hd, ez]
      exact hQ
theorem lp_154 {w : mT} {t : Nat → Nat} {n : Nat} (hw : lit w) (ht : ∀ i, t i < 256) (hn : n ≤ 600) : ∀ (k i : Nat) (σ : mS), i + k = n → tBy σ t → σ.1 2 3 = Int32.ofNat i → σ.1 2 1 = Int32.ofNat n → ∃ σ', frR 2 3 σ σ' ∧ σ'.1 2 3 = Int32.ofNat (spn isDg t n k i) ∧ (∀ j, j ≠ 3 → σ'.1 2 j = σ.1 2 j) ∧ ∀ {Q : Option (Option Value) → Hp → Prop} {d : Nat}, 1 ≤ d → Q (some none) (mW w σ') → Wp 39 154 [.ref 2] [] (mW w σ) Q d := by
  intro k
  induction k with
  | zero =>
    intro i σ hi hB h3 h1
    have hi' : i = n := by omega
    subst hi'
    refine ⟨σ, frR_rf, h3, fun _ _ => rfl, fun hd hQ => ?_⟩
    refine b39_154 ?_
    simp only [↓br_pos, ↓br_neg, ↓rF_I, ↓rF_L, ↓rF_R, ↓rF_N, rO_m, rB_m, ↓rI_m, wI_m, ↓rB2_m, ↓rB3_m, wB2_m, wB3_m, ↓rL_m, wL_m, ↓rQ_m, wQ_m, ↓lI_m, pI_m, pL_m, pR_m, sI_m, sBy_m, sBo_m, sL_m, sQ_m, fst_m, true_and, and_true, tg_some, ln_some, uI_1, uI_2, uL_1, uL_2, uL_3, uQ_1, uQ_2, uQ_3, rv_i, rv_l, rv_n, rv_b0, rv_b1, RMR, ne_eq, reduceCtorEq, not_false_eq_true, Option.getD_some, if_true, if_false, and_self, false_and, and_false, Nat.add_left_cancel_iff, Nat.add_eq_left, Nat.left_eq_add, Nat.one_ne_zero, Nat.reduceAdd, Nat.reduceLT, Nat.reduceLeDiff, Nat.reduceEqDiff, true_implies, false_implies, implies_true, Option.some.injEq, forall_eq', forall_eq, reduceCtorEq, brT, brF, br_s, i_10, i_01, ib_0_2, ib_1_2, tn_0, tn_1, Int32.le_refl, eq_self, rv_bN, rv_iM, RCX 0, RCG 2, RCT 4, RCT 15, RCT 25, RCS 35, RCS 49, RCH 63, RCP 67, RCB 72, RCR 77, RCM 81, RLY, lit_at hw, h3, h1, Int32.le_refl]
    exact hQ
  | succ k ih =>
    intro i σ hi hB h3 h1
    have l1 : (Int32.ofNat n ≤ Int32.ofNat i) ↔ False := iff_false_intro (fun q => absurd ((on_le (by omega) (by omega)).mp q) (by omega))
    by_cases z : isDg (t i) = true
    · have ez : iB (isDg (t i) = true) = 1 := iB_t z
      have fr1 : frR 2 3 σ (uI σ 2 3 (Int32.ofNat (i + 1))) := frR_I (by omega)
      obtain ⟨σ', f', e', o', k'⟩ := ih (i + 1) (uI σ 2 3 (Int32.ofNat (i + 1))) (by omega) (tBy_R hB fr1) (by rw [uI_1, if_pos ⟨rfl, rfl⟩]) (by rw [uI_1, if_neg (by omega)]; exact h1)
      refine ⟨σ', frR_tr fr1 f', by rw [spn_s, if_pos ⟨by omega, z⟩]; exact e', fun j hj => by rw [o' j hj, uI_1, if_neg (fun q => hj q.2)], fun hd hQ => ?_⟩
      refine b39_154 ?_
      simp only [↓br_pos, ↓br_neg, ↓rF_I, ↓rF_L, ↓rF_R, ↓rF_N, rO_m, rB_m, ↓rI_m, wI_m, ↓rB2_m, ↓rB3_m, wB2_m, wB3_m, ↓rL_m, wL_m, ↓rQ_m, wQ_m, ↓lI_m, pI_m, pL_m, pR_m, sI_m, sBy_m, sBo_m, sL_m, sQ_m, fst_m, true_and, and_true, tg_some, ln_some, uI_1, uI_2, uL_1, uL_2, uL_3, uQ_1, uQ_2, uQ_3, rv_i, rv_l, rv_n, rv_b0, rv_b1, RMR, ne_eq, reduceCtorEq, not_false_eq_true, Option.getD_some, if_true, if_false, and_self, false_and, and_false, Nat.add_left_cancel_iff, Nat.add_eq_left, Nat.left_eq_add, Nat.one_ne_zero, Nat.reduceAdd, Nat.reduceLT, Nat.reduceLeDiff, Nat.reduceEqDiff, true_implies, false_implies, implies_true, Option.some.injEq, forall_eq', forall_eq, reduceCtorEq, brT, brF, br_s, i_10, i_01, ib_0_2, ib_1_2, tn_0, tn_1, Int32.le_refl, eq_self, rv_bN, rv_iM, RCX 0, RCG 2, RCT 4, RCT 15, RCT 25, RCS 35, RCS 49, RCH 63, RCP 67, RCB 72, RCR 77, RCM 81, RLY, lit_at hw, h3, h1, l1, g_41 hw hB ht (by omega : i < 600) hd, ez, on_succ]
      exact k' hd hQ
    · have ez : iB (isDg (t i) = true) = 0 := iB_f z
      refine ⟨σ, frR_rf, by rw [spn_s, if_neg (fun q => z q.2)]; exact h3, fun _ _ => rfl, fun hd hQ => ?_⟩
      refine b39_154 ?_
      simp only [↓br_pos, ↓br_neg, ↓rF_I, ↓rF_L, ↓rF_R, ↓rF_N, rO_m, rB_m, ↓rI_m, wI_m, ↓rB2_m, ↓rB3_m, wB2_m, wB3_m, ↓rL_m, wL_m, ↓rQ_m, wQ_m, ↓lI_m, pI_m, pL_m, pR_m, sI_m, sBy_m, sBo_m, sL_m, sQ_m, fst_m, true_and, and_true, tg_some, ln_some, uI_1, uI_2, uL_1, uL_2, uL_3, uQ_1, uQ_2, uQ_3, rv_i, rv_l, rv_n, rv_b0, rv_b1, RMR, ne_eq, reduceCtorEq, not_false_eq_true, Option.getD_some, if_true, if_false, and_self, false_and, and_false, Nat.add_left_cancel_iff, Nat.add_eq_left, Nat.left_eq_add, Nat.one_ne_zero, Nat.reduceAdd, Nat.reduceLT, Nat.reduceLeDiff, Nat.reduceEqDiff, true_implies, false_implies, implies_true, Option.some.injEq, forall_eq', forall_eq, reduceCtorEq, brT, brF, br_s, i_10, i_01, ib_0_2, ib_1_2, tn_0, tn_1, Int32.le_refl, eq_self, rv_bN, rv_iM, RCX 0, RCG 2, RCT 4, RCT 15, RCT 25, RCS 35, RCS 49, RCH 63, RCP 67, RCB 72, RCR 77, RCM 81, RLY, lit_at hw, h3, h1, l1, g_41 hw hB ht (by omega : i < 600) hd, ez]
      exact hQ
/-- the next word, number or sign -/
theorem lp_39 {w : mT} {t : Nat → Nat} {n : Nat} (hw : lit w) (ht : ∀ i, t i < 256) (hn : n ≤ 600) : ∀ (k i : Nat) (σ : mS), i + k = n → tBy σ t → σ.1 2 2 = Int32.ofNat i → σ.1 2 1 = Int32.ofNat n → ∃ σ', frR 2 3 σ σ' ∧ σ'.1 2 2 = Int32.ofNat (spn isWs t n k i) ∧ σ'.1 2 3 = Int32.ofNat (tkE t n (spn isWs t n k i)) ∧ σ'.1 2 4 = Int32.ofNat (tkK t n (spn isWs t n k i)) ∧ (∀ j, j ≠ 2 → j ≠ 3 → j ≠ 4 → σ'.1 2 j = σ.1 2 j) ∧ ∀ {Q : Option (Option Value) → Hp → Prop} {d : Nat}, 2 ≤ d → Q (some none) (mW w σ') → Wp 39 8 [.ref 2] [] (mW w σ) Q d := by
  intro k
  induction k with
  | zero =>
    intro i σ hi hB h2 h1
    have hi' : i = n := by omega
    subst hi'
    have es : spn isWs t i 0 i = i := rfl
    rw [es]
    have ek : tkK t i i = 0 := if_pos (Nat.le_refl _)
    have ee : tkE t i i = i := if_pos (Nat.le_refl _)
    have l2 : (Int32.ofNat i < Int32.ofNat i) ↔ False := iff_false_intro (fun q => absurd ((on_lt (by omega) (by omega)).mp q) (by omega))
    refine ⟨uI (uI σ 2 3 (Int32.ofNat i)) 2 4 0, frR_tr (frR_I (by omega)) (frR_I (by omega)), by rw [uI_1, if_neg (by omega), uI_1, if_neg (by omega)]; exact h2, by rw [ee, uI_1, if_neg (by omega), uI_1, if_pos ⟨rfl, rfl⟩], by rw [ek, uI_1, if_pos ⟨rfl, rfl⟩]; rfl, fun j j2 j3 j4 => by rw [uI_1, if_neg (fun q => j4 q.2), uI_1, if_neg (fun q => j3 q.2)], fun hd hQ => ?_⟩
    refine b39_8 ?_
    simp only [↓br_pos, ↓br_neg, ↓rF_I, ↓rF_L, ↓rF_R, ↓rF_N, rO_m, rB_m, ↓rI_m, wI_m, ↓rB2_m, ↓rB3_m, wB2_m, wB3_m, ↓rL_m, wL_m, ↓rQ_m, wQ_m, ↓lI_m, pI_m, pL_m, pR_m, sI_m, sBy_m, sBo_m, sL_m, sQ_m, fst_m, true_and, and_true, tg_some, ln_some, uI_1, uI_2, uL_1, uL_2, uL_3, uQ_1, uQ_2, uQ_3, rv_i, rv_l, rv_n, rv_b0, rv_b1, RMR, ne_eq, reduceCtorEq, not_false_eq_true, Option.getD_some, if_true, if_false, and_self, false_and, and_false, Nat.add_left_cancel_iff, Nat.add_eq_left, Nat.left_eq_add, Nat.one_ne_zero, Nat.reduceAdd, Nat.reduceLT, Nat.reduceLeDiff, Nat.reduceEqDiff, true_implies, false_implies, implies_true, Option.some.injEq, forall_eq', forall_eq, reduceCtorEq, brT, brF, br_s, i_10, i_01, ib_0_2, ib_1_2, tn_0, tn_1, Int32.le_refl, eq_self, rv_bN, rv_iM, RCX 0, RCG 2, RCT 4, RCT 15, RCT 25, RCS 35, RCS 49, RCH 63, RCP 67, RCB 72, RCR 77, RCM 81, RLY, lit_at hw, h2, h1, Int32.le_refl, l2]
    exact hQ
  | succ k ih =>
    intro i σ hi hB h2 h1
    have l1 : (Int32.ofNat n ≤ Int32.ofNat i) ↔ False := iff_false_intro (fun q => absurd ((on_le (by omega) (by omega)).mp q) (by omega))
    have l2 : (Int32.ofNat i < Int32.ofNat n) ↔ True := iff_true_intro ((on_lt (by omega) (by omega)).mpr (by omega))
    have e0 := hB.1
    have e1 := hB.2 i (by omega)
    have hti := ht i
    have eb : inB (Int32.ofNat i) 600 = true := on_inB (by omega) (by omega)
    have en := on_nat (i := i) (by omega)
    have x1 := of_inj (a := t i) (b := 32) (by omega) (by omega)
    have x2 := of_inj (a := t i) (b := 10) (by omega) (by omega)
    have x3 := of_inj (a := t i) (b := 59) (by omega) (by omega)
    by_cases z : isWs (t i) = true
    · have fr1 : frR 2 3 σ (uI σ 2 2 (Int32.ofNat (i + 1))) := frR_I (by omega)
      obtain ⟨σ', f', a', b', c', o', k'⟩ := ih (i + 1) (uI σ 2 2 (Int32.ofNat (i + 1))) (by omega) (tBy_R hB fr1) (by rw [uI_1, if_pos ⟨rfl, rfl⟩]) (by rw [uI_1, if_neg (by omega)]; exact h1)
      have es : spn isWs t n (k + 1) i = spn isWs t n k (i + 1) := by rw [spn_s, if_pos ⟨by omega, z⟩]
      rw [es]
      refine ⟨σ', frR_tr fr1 f', a', b', c', fun j j2 j3 j4 => by rw [o' j j2 j3 j4, uI_1, if_neg (fun q => j2 q.2)], fun hd hQ => ?_⟩
      have hz := of_decide_eq_true z
      refine b39_8 ?_
      by_cases y : t i = 32
      · have c1 : (Int32.ofNat (t i) = (32 : Int32)) ↔ True := iff_true_intro (x1.mpr y)
        simp only [↓br_pos, ↓br_neg, ↓rF_I, ↓rF_L, ↓rF_R, ↓rF_N, rO_m, rB_m, ↓rI_m, wI_m, ↓rB2_m, ↓rB3_m, wB2_m, wB3_m, ↓rL_m, wL_m, ↓rQ_m, wQ_m, ↓lI_m, pI_m, pL_m, pR_m, sI_m, sBy_m, sBo_m, sL_m, sQ_m, fst_m, true_and, and_true, tg_some, ln_some, uI_1, uI_2, uL_1, uL_2, uL_3, uQ_1, uQ_2, uQ_3, rv_i, rv_l, rv_n, rv_b0, rv_b1, RMR, ne_eq, reduceCtorEq, not_false_eq_true, Option.getD_some, if_true, if_false, and_self, false_and, and_false, Nat.add_left_cancel_iff, Nat.add_eq_left, Nat.left_eq_add, Nat.one_ne_zero, Nat.reduceAdd, Nat.reduceLT, Nat.reduceLeDiff, Nat.reduceEqDiff, true_implies, false_implies, implies_true, Option.some.injEq, forall_eq', forall_eq, reduceCtorEq, brT, brF, br_s, i_10, i_01, ib_0_2, ib_1_2, tn_0, tn_1, Int32.le_refl, eq_self, rv_bN, rv_iM, RCX 0, RCG 2, RCT 4, RCT 15, RCT 25, RCS 35, RCS 49, RCH 63, RCP 67, RCB 72, RCR 77, RCM 81, RLY, lit_at hw, h2, h1, l1, e0, e1, eb, en, c1, on_succ]
        exact k' hd hQ
      · have c1 : (Int32.ofNat (t i) = (32 : Int32)) ↔ False := iff_false_intro (fun q => y (x1.mp q))
        have c2 : (Int32.ofNat (t i) = (10 : Int32)) ↔ True := iff_true_intro (x2.mpr (by omega))
        simp only [↓br_pos, ↓br_neg, ↓rF_I, ↓rF_L, ↓rF_R, ↓rF_N, rO_m, rB_m, ↓rI_m, wI_m, ↓rB2_m, ↓rB3_m, wB2_m, wB3_m, ↓rL_m, wL_m, ↓rQ_m, wQ_m, ↓lI_m, pI_m, pL_m, pR_m, sI_m, sBy_m, sBo_m, sL_m, sQ_m, fst_m, true_and, and_true, tg_some, ln_some, uI_1, uI_2, uL_1, uL_2, uL_3, uQ_1, uQ_2, uQ_3, rv_i, rv_l, rv_n, rv_b0, rv_b1, RMR, ne_eq, reduceCtorEq, not_false_eq_true, Option.getD_some, if_true, if_false, and_self, false_and, and_false, Nat.add_left_cancel_iff, Nat.add_eq_left, Nat.left_eq_add, Nat.one_ne_zero, Nat.reduceAdd, Nat.reduceLT, Nat.reduceLeDiff, Nat.reduceEqDiff, true_implies, false_implies, implies_true, Option.some.injEq, forall_eq', forall_eq, reduceCtorEq, brT, brF, br_s, i_10, i_01, ib_0_2, ib_1_2, tn_0, tn_1, Int32.le_refl, eq_self, rv_bN, rv_iM, RCX 0, RCG 2, RCT 4, RCT 15, RCT 25, RCS 35, RCS 49, RCH 63, RCP 67, RCB 72, RCR 77, RCM 81, RLY, lit_at hw, h2, h1, l1, e0, e1, eb, en, c1, c2, on_succ]
        exact k' hd hQ
    · have es : spn isWs t n (k + 1) i = i := by rw [spn_s, if_neg (fun q => z q.2)]
      rw [es]
      have nz : ¬ (t i = 32 ∨ t i = 10) := fun q => z (decide_eq_true q)
      have c1 : (Int32.ofNat (t i) = (32 : Int32)) ↔ False := iff_false_intro (fun q => nz (Or.inl (x1.mp q)))
      have c2 : (Int32.ofNat (t i) = (10 : Int32)) ↔ False := iff_false_intro (fun q => nz (Or.inr (x2.mp q)))
      have fr1 : frR 2 3 σ (uI σ 2 3 (Int32.ofNat i)) := frR_I (by omega)
      have hB1 := tBy_R hB fr1
      have nin : ¬ n ≤ i := by omega
      by_cases y : isLt (t i) = true
      · have ek : tkK t n i = 1 := by unfold tkK; rw [if_neg nin, if_pos y]
        have ee : tkE t n i = spn isLt t n (n - i) i := by unfold tkE; rw [if_neg nin, if_pos y]
        have ez : iB (isLt (t i) = true) = 1 := iB_t y
        have fr2 : frR 2 3 (uI σ 2 3 (Int32.ofNat i)) (uI (uI σ 2 3 (Int32.ofNat i)) 2 4 1) := frR_I (by omega)
        obtain ⟨σ', f', e', o', k'⟩ := lp_103 hw ht hn (n - i) i (uI (uI σ 2 3 (Int32.ofNat i)) 2 4 1) (by omega) (tBy_R hB1 fr2) (by rw [uI_1, if_neg (by omega), uI_1, if_pos ⟨rfl, rfl⟩]) (by rw [uI_1, if_neg (by omega), uI_1, if_neg (by omega)]; exact h1)
        refine ⟨σ', frR_tr fr1 (frR_tr fr2 f'), by rw [o' 2 (by omega), uI_1, if_neg (by omega), uI_1, if_neg (by omega)]; exact h2, by rw [ee]; exact e', by rw [ek, o' 4 (by omega), uI_1, if_pos ⟨rfl, rfl⟩]; rfl, fun j j2 j3 j4 => by rw [o' j j3, uI_1, if_neg (fun q => j4 q.2), uI_1, if_neg (fun q => j3 q.2)], fun hd hQ => ?_⟩
        have hd1 := Nat.le_of_succ_le hd
        refine b39_8 ?_
        simp only [↓br_pos, ↓br_neg, ↓rF_I, ↓rF_L, ↓rF_R, ↓rF_N, rO_m, rB_m, ↓rI_m, wI_m, ↓rB2_m, ↓rB3_m, wB2_m, wB3_m, ↓rL_m, wL_m, ↓rQ_m, wQ_m, ↓lI_m, pI_m, pL_m, pR_m, sI_m, sBy_m, sBo_m, sL_m, sQ_m, fst_m, true_and, and_true, tg_some, ln_some, uI_1, uI_2, uL_1, uL_2, uL_3, uQ_1, uQ_2, uQ_3, rv_i, rv_l, rv_n, rv_b0, rv_b1, RMR, ne_eq, reduceCtorEq, not_false_eq_true, Option.getD_some, if_true, if_false, and_self, false_and, and_false, Nat.add_left_cancel_iff, Nat.add_eq_left, Nat.left_eq_add, Nat.one_ne_zero, Nat.reduceAdd, Nat.reduceLT, Nat.reduceLeDiff, Nat.reduceEqDiff, true_implies, false_implies, implies_true, Option.some.injEq, forall_eq', forall_eq, reduceCtorEq, brT, brF, br_s, i_10, i_01, ib_0_2, ib_1_2, tn_0, tn_1, Int32.le_refl, eq_self, rv_bN, rv_iM, RCX 0, RCG 2, RCT 4, RCT 15, RCT 25, RCS 35, RCS 49, RCH 63, RCP 67, RCB 72, RCR 77, RCM 81, RLY, lit_at hw, h2, h1, l1, l2, e0, e1, eb, en, c1, c2, g_40 hw hB1 ht (by omega : i < 600) hd1, ez]
        exact k' hd1 hQ
      · have ez : iB (isLt (t i) = true) = 0 := iB_f y
        by_cases v : isDg (t i) = true
        · have ek : tkK t n i = 2 := by unfold tkK; rw [if_neg nin, if_neg y, if_pos v]
          have ee : tkE t n i = spn isDg t n (n - i) i := by unfold tkE; rw [if_neg nin, if_neg y, if_pos v]
          have ev : iB (isDg (t i) = true) = 1 := iB_t v
          have fr2 : frR 2 3 (uI σ 2 3 (Int32.ofNat i)) (uI (uI σ 2 3 (Int32.ofNat i)) 2 4 2) := frR_I (by omega)
          obtain ⟨σ', f', e', o', k'⟩ := lp_154 hw ht hn (n - i) i (uI (uI σ 2 3 (Int32.ofNat i)) 2 4 2) (by omega) (tBy_R hB1 fr2) (by rw [uI_1, if_neg (by omega), uI_1, if_pos ⟨rfl, rfl⟩]) (by rw [uI_1, if_neg (by omega), uI_1, if_neg (by omega)]; exact h1)
          refine ⟨σ', frR_tr fr1 (frR_tr fr2 f'), by rw [o' 2 (by omega), uI_1, if_neg (by omega), uI_1, if_neg (by omega)]; exact h2, by rw [ee]; exact e', by rw [ek, o' 4 (by omega), uI_1, if_pos ⟨rfl, rfl⟩]; rfl, fun j j2 j3 j4 => by rw [o' j j3, uI_1, if_neg (fun q => j4 q.2), uI_1, if_neg (fun q => j3 q.2)], fun hd hQ => ?_⟩
          have hd1 := Nat.le_of_succ_le hd
          refine b39_8 ?_
          simp only [↓br_pos, ↓br_neg, ↓rF_I, ↓rF_L, ↓rF_R, ↓rF_N, rO_m, rB_m, ↓rI_m, wI_m, ↓rB2_m, ↓rB3_m, wB2_m, wB3_m, ↓rL_m, wL_m, ↓rQ_m, wQ_m, ↓lI_m, pI_m, pL_m, pR_m, sI_m, sBy_m, sBo_m, sL_m, sQ_m, fst_m, true_and, and_true, tg_some, ln_some, uI_1, uI_2, uL_1, uL_2, uL_3, uQ_1, uQ_2, uQ_3, rv_i, rv_l, rv_n, rv_b0, rv_b1, RMR, ne_eq, reduceCtorEq, not_false_eq_true, Option.getD_some, if_true, if_false, and_self, false_and, and_false, Nat.add_left_cancel_iff, Nat.add_eq_left, Nat.left_eq_add, Nat.one_ne_zero, Nat.reduceAdd, Nat.reduceLT, Nat.reduceLeDiff, Nat.reduceEqDiff, true_implies, false_implies, implies_true, Option.some.injEq, forall_eq', forall_eq, reduceCtorEq, brT, brF, br_s, i_10, i_01, ib_0_2, ib_1_2, tn_0, tn_1, Int32.le_refl, eq_self, rv_bN, rv_iM, RCX 0, RCG 2, RCT 4, RCT 15, RCT 25, RCS 35, RCS 49, RCH 63, RCP 67, RCB 72, RCR 77, RCM 81, RLY, lit_at hw, h2, h1, l1, l2, e0, e1, eb, en, c1, c2, g_40 hw hB1 ht (by omega : i < 600) hd1, g_41 hw hB1 ht (by omega : i < 600) hd1, ez, ev]
          exact k' hd1 hQ
        · have ev : iB (isDg (t i) = true) = 0 := iB_f v
          have ee : tkE t n i = i + 1 := by unfold tkE; rw [if_neg nin, if_neg y, if_neg v]
          by_cases u : t i = 59
          · have ek : tkK t n i = 3 := by unfold tkK; rw [if_neg nin, if_neg y, if_neg v, if_pos u]
            have c3 : (Int32.ofNat (t i) = (59 : Int32)) ↔ True := iff_true_intro (x3.mpr u)
            refine ⟨uI (uI (uI σ 2 3 (Int32.ofNat i)) 2 4 3) 2 3 (Int32.ofNat (i + 1)), frR_tr fr1 (frR_tr (frR_I (by omega)) (frR_I (by omega))), by rw [uI_1, if_neg (by omega), uI_1, if_neg (by omega), uI_1, if_neg (by omega)]; exact h2, by rw [ee, uI_1, if_pos ⟨rfl, rfl⟩], by rw [ek, uI_1, if_neg (by omega), uI_1, if_pos ⟨rfl, rfl⟩]; rfl, fun j j2 j3 j4 => by rw [uI_1, if_neg (fun q => j3 q.2), uI_1, if_neg (fun q => j4 q.2), uI_1, if_neg (fun q => j3 q.2)], fun hd hQ => ?_⟩
            have hd1 := Nat.le_of_succ_le hd
            refine b39_8 ?_
            simp only [↓br_pos, ↓br_neg, ↓rF_I, ↓rF_L, ↓rF_R, ↓rF_N, rO_m, rB_m, ↓rI_m, wI_m, ↓rB2_m, ↓rB3_m, wB2_m, wB3_m, ↓rL_m, wL_m, ↓rQ_m, wQ_m, ↓lI_m, pI_m, pL_m, pR_m, sI_m, sBy_m, sBo_m, sL_m, sQ_m, fst_m, true_and, and_true, tg_some, ln_some, uI_1, uI_2, uL_1, uL_2, uL_3, uQ_1, uQ_2, uQ_3, rv_i, rv_l, rv_n, rv_b0, rv_b1, RMR, ne_eq, reduceCtorEq, not_false_eq_true, Option.getD_some, if_true, if_false, and_self, false_and, and_false, Nat.add_left_cancel_iff, Nat.add_eq_left, Nat.left_eq_add, Nat.one_ne_zero, Nat.reduceAdd, Nat.reduceLT, Nat.reduceLeDiff, Nat.reduceEqDiff, true_implies, false_implies, implies_true, Option.some.injEq, forall_eq', forall_eq, reduceCtorEq, brT, brF, br_s, i_10, i_01, ib_0_2, ib_1_2, tn_0, tn_1, Int32.le_refl, eq_self, rv_bN, rv_iM, RCX 0, RCG 2, RCT 4, RCT 15, RCT 25, RCS 35, RCS 49, RCH 63, RCP 67, RCB 72, RCR 77, RCM 81, RLY, lit_at hw, h2, h1, l1, l2, e0, e1, eb, en, c1, c2, c3, g_40 hw hB1 ht (by omega : i < 600) hd1, g_41 hw hB1 ht (by omega : i < 600) hd1, ez, ev, on_succ]
            exact hQ
          · have ek : tkK t n i = 4 := by unfold tkK; rw [if_neg nin, if_neg y, if_neg v, if_neg u]
            have c3 : (Int32.ofNat (t i) = (59 : Int32)) ↔ False := iff_false_intro (fun q => u (x3.mp q))
            refine ⟨uI (uI (uI σ 2 3 (Int32.ofNat i)) 2 4 4) 2 3 (Int32.ofNat (i + 1)), frR_tr fr1 (frR_tr (frR_I (by omega)) (frR_I (by omega))), by rw [uI_1, if_neg (by omega), uI_1, if_neg (by omega), uI_1, if_neg (by omega)]; exact h2, by rw [ee, uI_1, if_pos ⟨rfl, rfl⟩], by rw [ek, uI_1, if_neg (by omega), uI_1, if_pos ⟨rfl, rfl⟩]; rfl, fun j j2 j3 j4 => by rw [uI_1, if_neg (fun q => j3 q.2), uI_1, if_neg (fun q => j4 q.2), uI_1, if_neg (fun q => j3 q.2)], fun hd hQ => ?_⟩
            have hd1 := Nat.le_of_succ_le hd
            refine b39_8 ?_
            simp only [↓br_pos, ↓br_neg, ↓rF_I, ↓rF_L, ↓rF_R, ↓rF_N, rO_m, rB_m, ↓rI_m, wI_m, ↓rB2_m, ↓rB3_m, wB2_m, wB3_m, ↓rL_m, wL_m, ↓rQ_m, wQ_m, ↓lI_m, pI_m, pL_m, pR_m, sI_m, sBy_m, sBo_m, sL_m, sQ_m, fst_m, true_and, and_true, tg_some, ln_some, uI_1, uI_2, uL_1, uL_2, uL_3, uQ_1, uQ_2, uQ_3, rv_i, rv_l, rv_n, rv_b0, rv_b1, RMR, ne_eq, reduceCtorEq, not_false_eq_true, Option.getD_some, if_true, if_false, and_self, false_and, and_false, Nat.add_left_cancel_iff, Nat.add_eq_left, Nat.left_eq_add, Nat.one_ne_zero, Nat.reduceAdd, Nat.reduceLT, Nat.reduceLeDiff, Nat.reduceEqDiff, true_implies, false_implies, implies_true, Option.some.injEq, forall_eq', forall_eq, reduceCtorEq, brT, brF, br_s, i_10, i_01, ib_0_2, ib_1_2, tn_0, tn_1, Int32.le_refl, eq_self, rv_bN, rv_iM, RCX 0, RCG 2, RCT 4, RCT 15, RCT 25, RCS 35, RCS 49, RCH 63, RCP 67, RCB 72, RCR 77, RCM 81, RLY, lit_at hw, h2, h1, l1, l2, e0, e1, eb, en, c1, c2, c3, g_40 hw hB1 ht (by omega : i < 600) hd1, g_41 hw hB1 ht (by omega : i < 600) hd1, ez, ev, on_succ]
            exact hQ
