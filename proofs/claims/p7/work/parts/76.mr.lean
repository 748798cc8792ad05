/-! the model's Reader: what is next -/
def mBy (σ : mS) (t : Nat → Nat) (n : Nat) : Prop := (∀ i, i < 600 → (σ.1 82 i) &&& 255 = Int32.ofNat (t i)) ∧ σ.1 81 3 = Int32.ofNat n
def fG (σ σ' : mS) : Prop := (∀ a, a ≠ 81 → σ'.1 a = σ.1 a) ∧ (∀ j, j < 4 ∨ 8 < j → σ'.1 81 j = σ.1 81 j) ∧ σ'.2 = σ.2
theorem fG_rf {σ : mS} : fG σ σ := ⟨fun _ _ => rfl, fun _ _ => rfl, rfl⟩
theorem fG_tr {σ σ' σ'' : mS} (h : fG σ σ') (h' : fG σ' σ'') : fG σ σ'' := ⟨fun a q => (h'.1 a q).trans (h.1 a q), fun j q => (h'.2.1 j q).trans (h.2.1 j q), h'.2.2.trans h.2.2⟩
theorem fG_I {σ : mS} {j : Nat} {x : Int32} (h : 4 ≤ j ∧ j ≤ 8) : fG σ (uI σ 81 j x) := ⟨fun a q => (uI_ne q).1, fun i hi => by rw [uI_1, if_neg (by omega)], rfl⟩
theorem mBy_G {σ σ' : mS} {t : Nat → Nat} {n : Nat} (h : mBy σ t n) (f : fG σ σ') : mBy σ' t n := ⟨fun i hi => by rw [f.1 82 (by omega)]; exact h.1 i hi, by rw [f.2.1 3 (by omega)]; exact h.2⟩
def bvA (t : Nat → Nat) (n i : Nat) : Int32 := if i < n then Int32.ofNat (t i) else -1
theorem g_132 {w : mT} {σ : mS} {t : Nat → Nat} {n i : Nat} {D : Nat} {K : Int32 → Hp → Prop} (hw : lit w) (hB : mBy σ t n) (hn : n ≤ 600) (hi : i ≤ 600) (hD : 1 ≤ D) : wpI D 132 [.ref 81, .int (Int32.ofNat i)] (mW w σ) K ↔ K (bvA t n i) (mW w σ) := by
  refine cI_of (m := 0) (fun d hd Q hQ => ?_) rfl hD
  unfold bvA at hQ
  refine b132_0 ?_
  by_cases c : i < n
  · rw [if_pos c] at hQ
    have c1 : (Int32.ofNat n ≤ Int32.ofNat i) ↔ False := iff_false_intro (fun q => absurd ((on_le (by omega) (by omega)).mp q) (by omega))
    simp only [↓br_pos, ↓br_neg, ↓rF_I, ↓rF_L, ↓rF_R, ↓rF_N, rO_m, rB_m, ↓rI_m, wI_m, ↓rB2_m, ↓rB3_m, wB2_m, wB3_m, ↓rL_m, wL_m, ↓rQ_m, wQ_m, ↓lI_m, pI_m, pL_m, pR_m, sI_m, sBy_m, sBo_m, sL_m, sQ_m, fst_m, true_and, and_true, tg_some, ln_some, uI_1, uI_2, uL_1, uL_2, uL_3, uQ_1, uQ_2, uQ_3, rv_i, rv_l, rv_n, rv_b0, rv_b1, RMR, ne_eq, reduceCtorEq, not_false_eq_true, Option.getD_some, if_true, if_false, and_self, false_and, and_false, Nat.add_left_cancel_iff, Nat.add_eq_left, Nat.left_eq_add, Nat.one_ne_zero, Nat.reduceAdd, Nat.reduceLT, Nat.reduceLeDiff, Nat.reduceEqDiff, true_implies, false_implies, implies_true, Option.some.injEq, forall_eq', forall_eq, reduceCtorEq, brT, brF, br_s, i_10, i_01, ib_0_2, ib_1_2, tn_0, tn_1, Int32.le_refl, eq_self, rv_bN, rv_iM, RCM 81, RLY, lit_at hw, hB.2, c1, ix (by omega : i < 600) (by omega), hB.1 i (by omega)]
    exact hQ
  · rw [if_neg c] at hQ
    have c1 : (Int32.ofNat n ≤ Int32.ofNat i) ↔ True := iff_true_intro ((on_le (by omega) (by omega)).mpr (by omega))
    simp only [↓br_pos, ↓br_neg, ↓rF_I, ↓rF_L, ↓rF_R, ↓rF_N, rO_m, rB_m, ↓rI_m, wI_m, ↓rB2_m, ↓rB3_m, wB2_m, wB3_m, ↓rL_m, wL_m, ↓rQ_m, wQ_m, ↓lI_m, pI_m, pL_m, pR_m, sI_m, sBy_m, sBo_m, sL_m, sQ_m, fst_m, true_and, and_true, tg_some, ln_some, uI_1, uI_2, uL_1, uL_2, uL_3, uQ_1, uQ_2, uQ_3, rv_i, rv_l, rv_n, rv_b0, rv_b1, RMR, ne_eq, reduceCtorEq, not_false_eq_true, Option.getD_some, if_true, if_false, and_self, false_and, and_false, Nat.add_left_cancel_iff, Nat.add_eq_left, Nat.left_eq_add, Nat.one_ne_zero, Nat.reduceAdd, Nat.reduceLT, Nat.reduceLeDiff, Nat.reduceEqDiff, true_implies, false_implies, implies_true, Option.some.injEq, forall_eq', forall_eq, reduceCtorEq, brT, brF, br_s, i_10, i_01, ib_0_2, ib_1_2, tn_0, tn_1, Int32.le_refl, eq_self, rv_bN, rv_iM, RCM 81, RLY, lit_at hw, hB.2, c1]
    exact hQ
theorem vin_lt {t : Nat → Nat} {n i : Nat} (ht : t i < 256) : vin (Int32.toInt64 (bvA t n i)) (97 : Int64) (122 : Int64) = iB (i < n ∧ isLt (t i) = true) := by
  rw [vin_eq, Int32.toInt_toInt64, show (97 : Int64).toInt = 97 by decide, show (122 : Int64).toInt = 122 by decide]
  unfold bvA
  by_cases c : i < n
  · rw [if_pos c, on_int (by omega)]
    exact iB_c (by unfold isLt; rw [decide_eq_true_iff]; omega)
  · rw [if_neg c]
    exact iB_c ⟨fun q => by have := q.1; rw [show (-1 : Int32).toInt = -1 by decide] at this; omega, fun q => absurd q.1 c⟩
theorem vin_dg {t : Nat → Nat} {n i : Nat} (ht : t i < 256) : vin (Int32.toInt64 (bvA t n i)) (48 : Int64) (57 : Int64) = iB (i < n ∧ isDg (t i) = true) := by
  rw [vin_eq, Int32.toInt_toInt64, show (48 : Int64).toInt = 48 by decide, show (57 : Int64).toInt = 57 by decide]
  unfold bvA
  by_cases c : i < n
  · rw [if_pos c, on_int (by omega)]
    exact iB_c (by unfold isDg; rw [decide_eq_true_iff]; omega)
  · rw [if_neg c]
    exact iB_c ⟨fun q => by have := q.1; rw [show (-1 : Int32).toInt = -1 by decide] at this; omega, fun q => absurd q.1 c⟩
def vM (t : Nat → Nat) (s l : Nat) : Int32 := if l ≤ 4 then nuI t s l else -1
theorem vM_v {t : Nat → Nat} {g : Rw} : vM t (g 0) (g 1 - g 0) = numV t g := by
  unfold vM numV
  by_cases c : g 1 - g 0 ≤ 4
  · rw [if_pos c, if_neg (by omega)]
  · rw [if_neg c, if_pos (by omega)]
theorem spn_0 {P : Nat → Bool} {t : Nat → Nat} {n i : Nat} : spn P t n 0 i = i := rfl
theorem lp_133l {w : mT} {t : Nat → Nat} {n s : Nat} {c : Int32} (hw : lit w) (ht : ∀ i, t i < 256) (hn : n ≤ 600) : ∀ (k j : Nat) (σ : mS), j + k = n → s ≤ j → mBy σ t n → σ.1 81 4 = Int32.ofNat s → σ.1 81 5 = Int32.ofNat j → σ.1 81 8 = wM t s (j - s) → ltG t s (j - s) → ∃ σ', fG σ σ' ∧ σ'.1 81 4 = Int32.ofNat s ∧ σ'.1 81 5 = Int32.ofNat (spn isLt t n k j) ∧ σ'.1 81 6 = Int32.ofNat 1 ∧ σ'.1 81 8 = wM t s (spn isLt t n k j - s) ∧ ltG t s (spn isLt t n k j - s) ∧ ∀ {Q : Option (Option Value) → Hp → Prop} {d : Nat}, 1 ≤ d → Q (some none) (mW w σ') → Wp 133 92 [.ref 81, .int c] [] (mW w σ) Q d := by
  intro k
  induction k with
  | zero =>
    intro j σ hj hs hB h4 h5 hf hL
    rw [spn_0]
    refine ⟨uI σ 81 6 1, fG_I (by omega), by rw [uI_1, if_neg (by omega)]; exact h4, by rw [uI_1, if_neg (by omega)]; exact h5, by rw [uI_1, if_pos ⟨rfl, rfl⟩]; rfl, by rw [uI_1, if_neg (by omega)]; exact hf, hL, fun hd hQ => ?_⟩
    refine b133_92 ?_
    simp only [↓br_pos, ↓br_neg, ↓rF_I, ↓rF_L, ↓rF_R, ↓rF_N, rO_m, rB_m, ↓rI_m, wI_m, ↓rB2_m, ↓rB3_m, wB2_m, wB3_m, ↓rL_m, wL_m, ↓rQ_m, wQ_m, ↓lI_m, pI_m, pL_m, pR_m, sI_m, sBy_m, sBo_m, sL_m, sQ_m, fst_m, true_and, and_true, tg_some, ln_some, uI_1, uI_2, uL_1, uL_2, uL_3, uQ_1, uQ_2, uQ_3, rv_i, rv_l, rv_n, rv_b0, rv_b1, RMR, ne_eq, reduceCtorEq, not_false_eq_true, Option.getD_some, if_true, if_false, and_self, false_and, and_false, Nat.add_left_cancel_iff, Nat.add_eq_left, Nat.left_eq_add, Nat.one_ne_zero, Nat.reduceAdd, Nat.reduceLT, Nat.reduceLeDiff, Nat.reduceEqDiff, true_implies, false_implies, implies_true, Option.some.injEq, forall_eq', forall_eq, reduceCtorEq, brT, brF, br_s, i_10, i_01, ib_0_2, ib_1_2, tn_0, tn_1, Int32.le_refl, eq_self, rv_bN, rv_iM, RCM 81, RLY, lit_at hw, h5, g_132 hw hB hn (by omega : j ≤ 600) hd, g_129 hd, vin_lt (ht j), iB_f (fun q : j < n ∧ isLt (t j) = true => by omega), z00]
    exact hQ
  | succ k ih =>
    intro j σ hj hs hB h4 h5 hf hL
    by_cases z : isLt (t j) = true
    · have e : spn isLt t n (k + 1) j = spn isLt t n k (j + 1) := by rw [spn_s, if_pos ⟨by omega, z⟩]
      rw [e]
      have es : Int32.ofNat j - Int32.ofNat s = Int32.ofNat (j - s) := of_sub hs
      have bj : bvA t n j = Int32.ofNat (t j) := if_pos (by omega)
      have js : j + 1 - s = (j - s) + 1 := by omega
      by_cases y : 6 ≤ j - s
      · have c1 : ((6 : Int32) ≤ Int32.ofNat (j - s)) ↔ True := iff_true_intro ((on_le (i := 6) (by omega) (by omega)).mpr y)
        obtain ⟨σ', f', a4, a5, a6, a8, aL, q'⟩ := ih (j + 1) (uI (uI σ 81 8 (-1)) 81 5 (Int32.ofNat (j + 1))) (by omega) (by omega) (mBy_G hB (fG_tr (fG_I (by omega)) (fG_I (by omega)))) (by rw [uI_1, if_neg (by omega), uI_1, if_neg (by omega)]; exact h4) (by rw [uI_1, if_pos ⟨rfl, rfl⟩]) (by rw [uI_1, if_neg (by omega), uI_1, if_pos ⟨rfl, rfl⟩]; unfold wM; rw [if_neg (by omega)]) (fun i hi => by
          by_cases c : i < j - s
          · exact hL i c
          · rw [show s + i = j by omega]; exact z)
        refine ⟨σ', fG_tr (fG_tr (fG_I (by omega)) (fG_I (by omega))) f', a4, a5, a6, a8, aL, fun hd hQ => ?_⟩
        refine b133_92 ?_
        simp only [↓br_pos, ↓br_neg, ↓rF_I, ↓rF_L, ↓rF_R, ↓rF_N, rO_m, rB_m, ↓rI_m, wI_m, ↓rB2_m, ↓rB3_m, wB2_m, wB3_m, ↓rL_m, wL_m, ↓rQ_m, wQ_m, ↓lI_m, pI_m, pL_m, pR_m, sI_m, sBy_m, sBo_m, sL_m, sQ_m, fst_m, true_and, and_true, tg_some, ln_some, uI_1, uI_2, uL_1, uL_2, uL_3, uQ_1, uQ_2, uQ_3, rv_i, rv_l, rv_n, rv_b0, rv_b1, RMR, ne_eq, reduceCtorEq, not_false_eq_true, Option.getD_some, if_true, if_false, and_self, false_and, and_false, Nat.add_left_cancel_iff, Nat.add_eq_left, Nat.left_eq_add, Nat.one_ne_zero, Nat.reduceAdd, Nat.reduceLT, Nat.reduceLeDiff, Nat.reduceEqDiff, true_implies, false_implies, implies_true, Option.some.injEq, forall_eq', forall_eq, reduceCtorEq, brT, brF, br_s, i_10, i_01, ib_0_2, ib_1_2, tn_0, tn_1, Int32.le_refl, eq_self, rv_bN, rv_iM, RCM 81, RLY, lit_at hw, h5, h4, g_132 hw hB hn (by omega : j ≤ 600) hd, g_129 hd, vin_lt (ht j), iB_t (show j < n ∧ isLt (t j) = true from ⟨by omega, z⟩), z10, es, c1, on_succ]
        exact q' hd hQ
      · have c1 : ((6 : Int32) ≤ Int32.ofNat (j - s)) ↔ False := iff_false_intro (fun q => y ((on_le (i := 6) (by omega) (by omega)).mp q))
        have m0 : wM t s (j - s) = mcI t s (j - s) := by unfold wM; rw [if_pos (by omega)]
        have m1 : wM t s (j + 1 - s) = (32 : Int32) * mcI t s (j - s) + Int32.ofNat (t j) - 96 := by
          unfold wM
          rw [if_pos (by omega), js]
          have : s + (j - s) = j := by omega
          show (32 : Int32) * mcI t s (j - s) + Int32.ofNat (t (s + (j - s))) - 96 = _
          rw [this]
        rw [m0] at hf
        obtain ⟨σ', f', a4, a5, a6, a8, aL, q'⟩ := ih (j + 1) (uI (uI σ 81 8 ((32 : Int32) * mcI t s (j - s) + Int32.ofNat (t j) - 96)) 81 5 (Int32.ofNat (j + 1))) (by omega) (by omega) (mBy_G hB (fG_tr (fG_I (by omega)) (fG_I (by omega)))) (by rw [uI_1, if_neg (by omega), uI_1, if_neg (by omega)]; exact h4) (by rw [uI_1, if_pos ⟨rfl, rfl⟩]) (by rw [uI_1, if_neg (by omega), uI_1, if_pos ⟨rfl, rfl⟩, m1]) (fun i hi => by
          by_cases c : i < j - s
          · exact hL i c
          · rw [show s + i = j by omega]; exact z)
        refine ⟨σ', fG_tr (fG_tr (fG_I (by omega)) (fG_I (by omega))) f', a4, a5, a6, a8, aL, fun hd hQ => ?_⟩
        refine b133_92 ?_
        simp only [↓br_pos, ↓br_neg, ↓rF_I, ↓rF_L, ↓rF_R, ↓rF_N, rO_m, rB_m, ↓rI_m, wI_m, ↓rB2_m, ↓rB3_m, wB2_m, wB3_m, ↓rL_m, wL_m, ↓rQ_m, wQ_m, ↓lI_m, pI_m, pL_m, pR_m, sI_m, sBy_m, sBo_m, sL_m, sQ_m, fst_m, true_and, and_true, tg_some, ln_some, uI_1, uI_2, uL_1, uL_2, uL_3, uQ_1, uQ_2, uQ_3, rv_i, rv_l, rv_n, rv_b0, rv_b1, RMR, ne_eq, reduceCtorEq, not_false_eq_true, Option.getD_some, if_true, if_false, and_self, false_and, and_false, Nat.add_left_cancel_iff, Nat.add_eq_left, Nat.left_eq_add, Nat.one_ne_zero, Nat.reduceAdd, Nat.reduceLT, Nat.reduceLeDiff, Nat.reduceEqDiff, true_implies, false_implies, implies_true, Option.some.injEq, forall_eq', forall_eq, reduceCtorEq, brT, brF, br_s, i_10, i_01, ib_0_2, ib_1_2, tn_0, tn_1, Int32.le_refl, eq_self, rv_bN, rv_iM, RCM 81, RLY, lit_at hw, h5, h4, hf, g_132 hw hB hn (by omega : j ≤ 600) hd, g_129 hd, vin_lt (ht j), iB_t (show j < n ∧ isLt (t j) = true from ⟨by omega, z⟩), z10, es, c1, on_succ]
        rw [bj]
        exact q' hd hQ
    · have e : spn isLt t n (k + 1) j = j := by rw [spn_s, if_neg (fun q => z q.2)]
      rw [e]
      refine ⟨uI σ 81 6 1, fG_I (by omega), by rw [uI_1, if_neg (by omega)]; exact h4, by rw [uI_1, if_neg (by omega)]; exact h5, by rw [uI_1, if_pos ⟨rfl, rfl⟩]; rfl, by rw [uI_1, if_neg (by omega)]; exact hf, hL, fun hd hQ => ?_⟩
      refine b133_92 ?_
      simp only [↓br_pos, ↓br_neg, ↓rF_I, ↓rF_L, ↓rF_R, ↓rF_N, rO_m, rB_m, ↓rI_m, wI_m, ↓rB2_m, ↓rB3_m, wB2_m, wB3_m, ↓rL_m, wL_m, ↓rQ_m, wQ_m, ↓lI_m, pI_m, pL_m, pR_m, sI_m, sBy_m, sBo_m, sL_m, sQ_m, fst_m, true_and, and_true, tg_some, ln_some, uI_1, uI_2, uL_1, uL_2, uL_3, uQ_1, uQ_2, uQ_3, rv_i, rv_l, rv_n, rv_b0, rv_b1, RMR, ne_eq, reduceCtorEq, not_false_eq_true, Option.getD_some, if_true, if_false, and_self, false_and, and_false, Nat.add_left_cancel_iff, Nat.add_eq_left, Nat.left_eq_add, Nat.one_ne_zero, Nat.reduceAdd, Nat.reduceLT, Nat.reduceLeDiff, Nat.reduceEqDiff, true_implies, false_implies, implies_true, Option.some.injEq, forall_eq', forall_eq, reduceCtorEq, brT, brF, br_s, i_10, i_01, ib_0_2, ib_1_2, tn_0, tn_1, Int32.le_refl, eq_self, rv_bN, rv_iM, RCM 81, RLY, lit_at hw, h5, g_132 hw hB hn (by omega : j ≤ 600) hd, g_129 hd, vin_lt (ht j), iB_f (fun q : j < n ∧ isLt (t j) = true => z q.2), z00]
      exact hQ
theorem lp_133d {w : mT} {t : Nat → Nat} {n s : Nat} {c : Int32} (hw : lit w) (ht : ∀ i, t i < 256) (hn : n ≤ 600) : ∀ (k j : Nat) (σ : mS), j + k = n → s ≤ j → mBy σ t n → σ.1 81 4 = Int32.ofNat s → σ.1 81 5 = Int32.ofNat j → σ.1 81 7 = vM t s (j - s) →  ∃ σ', fG σ σ' ∧ σ'.1 81 4 = Int32.ofNat s ∧ σ'.1 81 5 = Int32.ofNat (spn isDg t n k j) ∧ σ'.1 81 6 = Int32.ofNat 2 ∧ σ'.1 81 7 = vM t s (spn isDg t n k j - s) ∧  ∀ {Q : Option (Option Value) → Hp → Prop} {d : Nat}, 1 ≤ d → Q (some none) (mW w σ') → Wp 133 189 [.ref 81, .int c] [] (mW w σ) Q d := by
  intro k
  induction k with
  | zero =>
    intro j σ hj hs hB h4 h5 hf 
    rw [spn_0]
    refine ⟨uI σ 81 6 2, fG_I (by omega), by rw [uI_1, if_neg (by omega)]; exact h4, by rw [uI_1, if_neg (by omega)]; exact h5, by rw [uI_1, if_pos ⟨rfl, rfl⟩]; rfl, by rw [uI_1, if_neg (by omega)]; exact hf, fun hd hQ => ?_⟩
    refine b133_189 ?_
    simp only [↓br_pos, ↓br_neg, ↓rF_I, ↓rF_L, ↓rF_R, ↓rF_N, rO_m, rB_m, ↓rI_m, wI_m, ↓rB2_m, ↓rB3_m, wB2_m, wB3_m, ↓rL_m, wL_m, ↓rQ_m, wQ_m, ↓lI_m, pI_m, pL_m, pR_m, sI_m, sBy_m, sBo_m, sL_m, sQ_m, fst_m, true_and, and_true, tg_some, ln_some, uI_1, uI_2, uL_1, uL_2, uL_3, uQ_1, uQ_2, uQ_3, rv_i, rv_l, rv_n, rv_b0, rv_b1, RMR, ne_eq, reduceCtorEq, not_false_eq_true, Option.getD_some, if_true, if_false, and_self, false_and, and_false, Nat.add_left_cancel_iff, Nat.add_eq_left, Nat.left_eq_add, Nat.one_ne_zero, Nat.reduceAdd, Nat.reduceLT, Nat.reduceLeDiff, Nat.reduceEqDiff, true_implies, false_implies, implies_true, Option.some.injEq, forall_eq', forall_eq, reduceCtorEq, brT, brF, br_s, i_10, i_01, ib_0_2, ib_1_2, tn_0, tn_1, Int32.le_refl, eq_self, rv_bN, rv_iM, RCM 81, RLY, lit_at hw, h5, g_132 hw hB hn (by omega : j ≤ 600) hd, g_129 hd, vin_dg (ht j), iB_f (fun q : j < n ∧ isDg (t j) = true => by omega), z00]
    exact hQ
  | succ k ih =>
    intro j σ hj hs hB h4 h5 hf 
    by_cases z : isDg (t j) = true
    · have e : spn isDg t n (k + 1) j = spn isDg t n k (j + 1) := by rw [spn_s, if_pos ⟨by omega, z⟩]
      rw [e]
      have es : Int32.ofNat j - Int32.ofNat s = Int32.ofNat (j - s) := of_sub hs
      have bj : bvA t n j = Int32.ofNat (t j) := if_pos (by omega)
      have js : j + 1 - s = (j - s) + 1 := by omega
      by_cases y : 4 ≤ j - s
      · have c1 : ((4 : Int32) ≤ Int32.ofNat (j - s)) ↔ True := iff_true_intro ((on_le (i := 4) (by omega) (by omega)).mpr y)
        obtain ⟨σ', f', a4, a5, a6, a8, q'⟩ := ih (j + 1) (uI (uI σ 81 7 (-1)) 81 5 (Int32.ofNat (j + 1))) (by omega) (by omega) (mBy_G hB (fG_tr (fG_I (by omega)) (fG_I (by omega)))) (by rw [uI_1, if_neg (by omega), uI_1, if_neg (by omega)]; exact h4) (by rw [uI_1, if_pos ⟨rfl, rfl⟩]) (by rw [uI_1, if_neg (by omega), uI_1, if_pos ⟨rfl, rfl⟩]; unfold vM; rw [if_neg (by omega)]) 
        refine ⟨σ', fG_tr (fG_tr (fG_I (by omega)) (fG_I (by omega))) f', a4, a5, a6, a8, fun hd hQ => ?_⟩
        refine b133_189 ?_
        simp only [↓br_pos, ↓br_neg, ↓rF_I, ↓rF_L, ↓rF_R, ↓rF_N, rO_m, rB_m, ↓rI_m, wI_m, ↓rB2_m, ↓rB3_m, wB2_m, wB3_m, ↓rL_m, wL_m, ↓rQ_m, wQ_m, ↓lI_m, pI_m, pL_m, pR_m, sI_m, sBy_m, sBo_m, sL_m, sQ_m, fst_m, true_and, and_true, tg_some, ln_some, uI_1, uI_2, uL_1, uL_2, uL_3, uQ_1, uQ_2, uQ_3, rv_i, rv_l, rv_n, rv_b0, rv_b1, RMR, ne_eq, reduceCtorEq, not_false_eq_true, Option.getD_some, if_true, if_false, and_self, false_and, and_false, Nat.add_left_cancel_iff, Nat.add_eq_left, Nat.left_eq_add, Nat.one_ne_zero, Nat.reduceAdd, Nat.reduceLT, Nat.reduceLeDiff, Nat.reduceEqDiff, true_implies, false_implies, implies_true, Option.some.injEq, forall_eq', forall_eq, reduceCtorEq, brT, brF, br_s, i_10, i_01, ib_0_2, ib_1_2, tn_0, tn_1, Int32.le_refl, eq_self, rv_bN, rv_iM, RCM 81, RLY, lit_at hw, h5, h4, g_132 hw hB hn (by omega : j ≤ 600) hd, g_129 hd, vin_dg (ht j), iB_t (show j < n ∧ isDg (t j) = true from ⟨by omega, z⟩), z10, es, c1, on_succ]
        exact q' hd hQ
      · have c1 : ((4 : Int32) ≤ Int32.ofNat (j - s)) ↔ False := iff_false_intro (fun q => y ((on_le (i := 4) (by omega) (by omega)).mp q))
        have m0 : vM t s (j - s) = nuI t s (j - s) := by unfold vM; rw [if_pos (by omega)]
        have m1 : vM t s (j + 1 - s) = (10 : Int32) * nuI t s (j - s) + Int32.ofNat (t j) - 48 := by
          unfold vM
          rw [if_pos (by omega), js]
          have : s + (j - s) = j := by omega
          show nuI t s (j - s) * 10 + Int32.ofNat (t (s + (j - s))) - 48 = _
          rw [this, Int32.mul_comm]
        rw [m0] at hf
        obtain ⟨σ', f', a4, a5, a6, a8, q'⟩ := ih (j + 1) (uI (uI σ 81 7 ((10 : Int32) * nuI t s (j - s) + Int32.ofNat (t j) - 48)) 81 5 (Int32.ofNat (j + 1))) (by omega) (by omega) (mBy_G hB (fG_tr (fG_I (by omega)) (fG_I (by omega)))) (by rw [uI_1, if_neg (by omega), uI_1, if_neg (by omega)]; exact h4) (by rw [uI_1, if_pos ⟨rfl, rfl⟩]) (by rw [uI_1, if_neg (by omega), uI_1, if_pos ⟨rfl, rfl⟩, m1]) 
        refine ⟨σ', fG_tr (fG_tr (fG_I (by omega)) (fG_I (by omega))) f', a4, a5, a6, a8, fun hd hQ => ?_⟩
        refine b133_189 ?_
        simp only [↓br_pos, ↓br_neg, ↓rF_I, ↓rF_L, ↓rF_R, ↓rF_N, rO_m, rB_m, ↓rI_m, wI_m, ↓rB2_m, ↓rB3_m, wB2_m, wB3_m, ↓rL_m, wL_m, ↓rQ_m, wQ_m, ↓lI_m, pI_m, pL_m, pR_m, sI_m, sBy_m, sBo_m, sL_m, sQ_m, fst_m, true_and, and_true, tg_some, ln_some, uI_1, uI_2, uL_1, uL_2, uL_3, uQ_1, uQ_2, uQ_3, rv_i, rv_l, rv_n, rv_b0, rv_b1, RMR, ne_eq, reduceCtorEq, not_false_eq_true, Option.getD_some, if_true, if_false, and_self, false_and, and_false, Nat.add_left_cancel_iff, Nat.add_eq_left, Nat.left_eq_add, Nat.one_ne_zero, Nat.reduceAdd, Nat.reduceLT, Nat.reduceLeDiff, Nat.reduceEqDiff, true_implies, false_implies, implies_true, Option.some.injEq, forall_eq', forall_eq, reduceCtorEq, brT, brF, br_s, i_10, i_01, ib_0_2, ib_1_2, tn_0, tn_1, Int32.le_refl, eq_self, rv_bN, rv_iM, RCM 81, RLY, lit_at hw, h5, h4, hf, g_132 hw hB hn (by omega : j ≤ 600) hd, g_129 hd, vin_dg (ht j), iB_t (show j < n ∧ isDg (t j) = true from ⟨by omega, z⟩), z10, es, c1, on_succ]
        rw [bj]
        exact q' hd hQ
    · have e : spn isDg t n (k + 1) j = j := by rw [spn_s, if_neg (fun q => z q.2)]
      rw [e]
      refine ⟨uI σ 81 6 2, fG_I (by omega), by rw [uI_1, if_neg (by omega)]; exact h4, by rw [uI_1, if_neg (by omega)]; exact h5, by rw [uI_1, if_pos ⟨rfl, rfl⟩]; rfl, by rw [uI_1, if_neg (by omega)]; exact hf, fun hd hQ => ?_⟩
      refine b133_189 ?_
      simp only [↓br_pos, ↓br_neg, ↓rF_I, ↓rF_L, ↓rF_R, ↓rF_N, rO_m, rB_m, ↓rI_m, wI_m, ↓rB2_m, ↓rB3_m, wB2_m, wB3_m, ↓rL_m, wL_m, ↓rQ_m, wQ_m, ↓lI_m, pI_m, pL_m, pR_m, sI_m, sBy_m, sBo_m, sL_m, sQ_m, fst_m, true_and, and_true, tg_some, ln_some, uI_1, uI_2, uL_1, uL_2, uL_3, uQ_1, uQ_2, uQ_3, rv_i, rv_l, rv_n, rv_b0, rv_b1, RMR, ne_eq, reduceCtorEq, not_false_eq_true, Option.getD_some, if_true, if_false, and_self, false_and, and_false, Nat.add_left_cancel_iff, Nat.add_eq_left, Nat.left_eq_add, Nat.one_ne_zero, Nat.reduceAdd, Nat.reduceLT, Nat.reduceLeDiff, Nat.reduceEqDiff, true_implies, false_implies, implies_true, Option.some.injEq, forall_eq', forall_eq, reduceCtorEq, brT, brF, br_s, i_10, i_01, ib_0_2, ib_1_2, tn_0, tn_1, Int32.le_refl, eq_self, rv_bN, rv_iM, RCM 81, RLY, lit_at hw, h5, g_132 hw hB hn (by omega : j ≤ 600) hd, g_129 hd, vin_dg (ht j), iB_f (fun q : j < n ∧ isDg (t j) = true => z q.2), z00]
      exact hQ
theorem lp_133 {w : mT} {t : Nat → Nat} {n : Nat} (hw : lit w) (ht : ∀ i, t i < 256) (hn : n ≤ 600) : ∀ (k i : Nat) (σ : mS), i + k = n → mBy σ t n → σ.1 81 5 = Int32.ofNat i → ∃ σ', fG σ σ' ∧ σ'.1 81 4 = Int32.ofNat (spn isWs t n k i) ∧ σ'.1 81 5 = Int32.ofNat (tkE t n (spn isWs t n k i)) ∧ σ'.1 81 6 = Int32.ofNat (tkK t n (spn isWs t n k i)) ∧ (tkK t n (spn isWs t n k i) = 2 → σ'.1 81 7 = vM t (spn isWs t n k i) (tkE t n (spn isWs t n k i) - spn isWs t n k i)) ∧ (tkK t n (spn isWs t n k i) = 1 → σ'.1 81 8 = wM t (spn isWs t n k i) (tkE t n (spn isWs t n k i) - spn isWs t n k i) ∧ ltG t (spn isWs t n k i) (tkE t n (spn isWs t n k i) - spn isWs t n k i)) ∧ ∀ {Q : Option (Option Value) → Hp → Prop} {d : Nat}, 1 ≤ d → Q (some none) (mW w σ') → Wp 133 0 [.ref 81, jk] [] (mW w σ) Q d := by
  -- what is done at a byte that is no space
  have at_ : ∀ (k i : Nat) (σ : mS), i + k = n → mBy σ t n → σ.1 81 5 = Int32.ofNat i → spn isWs t n k i = i → ¬ (i < n ∧ isWs (t i) = true) → ∃ σ', fG σ σ' ∧ σ'.1 81 4 = Int32.ofNat (spn isWs t n k i) ∧ σ'.1 81 5 = Int32.ofNat (tkE t n (spn isWs t n k i)) ∧ σ'.1 81 6 = Int32.ofNat (tkK t n (spn isWs t n k i)) ∧ (tkK t n (spn isWs t n k i) = 2 → σ'.1 81 7 = vM t (spn isWs t n k i) (tkE t n (spn isWs t n k i) - spn isWs t n k i)) ∧ (tkK t n (spn isWs t n k i) = 1 → σ'.1 81 8 = wM t (spn isWs t n k i) (tkE t n (spn isWs t n k i) - spn isWs t n k i) ∧ ltG t (spn isWs t n k i) (tkE t n (spn isWs t n k i) - spn isWs t n k i)) ∧ ∀ {Q : Option (Option Value) → Hp → Prop} {d : Nat}, 1 ≤ d → Q (some none) (mW w σ') → Wp 133 0 [.ref 81, jk] [] (mW w σ) Q d := by
    intro k i σ hi hB h5 hsp hws
    rw [hsp]
    have hti := ht i
    have f3 : fG σ (uI (uI (uI σ 81 4 (Int32.ofNat i)) 81 7 0) 81 8 0) := fG_tr (fG_I (by omega)) (fG_tr (fG_I (by omega)) (fG_I (by omega)))
    have B3 := mBy_G hB f3
    have gA := fun {d : Nat} (hd : 1 ≤ d) {K : Int32 → Hp → Prop} => g_132 (K := K) (D := d) (i := i) hw B3 hn (by omega) hd
    have a32 : (bvA t n i = (32 : Int32)) ↔ False := iff_false_intro (fun q => by
      unfold bvA at q
      by_cases c : i < n
      · rw [if_pos c] at q
        have := (of_inj (b := 32) (by omega) (by omega)).mp q
        exact hws ⟨c, decide_eq_true (Or.inl this)⟩
      · rw [if_neg c] at q; exact absurd q (by decide))
    have a10 : (bvA t n i = (10 : Int32)) ↔ False := iff_false_intro (fun q => by
      unfold bvA at q
      by_cases c : i < n
      · rw [if_pos c] at q
        have := (of_inj (b := 10) (by omega) (by omega)).mp q
        exact hws ⟨c, decide_eq_true (Or.inr this)⟩
      · rw [if_neg c] at q; exact absurd q (by decide))
    by_cases c : i < n
    · have cE : ¬ n ≤ i := by omega
      have bp : bvA t n i = Int32.ofNat (t i) := if_pos c
      have c0 : ((0 : Int32) ≤ bvA t n i) ↔ True := iff_true_intro (by rw [bp]; exact (on_le (i := 0) (by omega) (by omega)).mpr (by omega))
      by_cases y : isLt (t i) = true
      · have eK : tkK t n i = 1 := by unfold tkK; rw [if_neg cE, if_pos y]
        have eE : tkE t n i = spn isLt t n k i := by unfold tkE; rw [if_neg cE, if_pos y, show n - i = k by omega]
        obtain ⟨σ', f', p4, p5, p6, p8, pL, q'⟩ := lp_133l (s := i) (c := bvA t n i) hw ht hn k i _ hi (Nat.le_refl _) B3 (by rw [uI_1, if_neg (by omega), uI_1, if_neg (by omega), uI_1, if_pos ⟨rfl, rfl⟩]) (by rw [uI_1, if_neg (by omega), uI_1, if_neg (by omega), uI_1, if_neg (by omega)]; exact h5) (by rw [uI_1, if_pos ⟨rfl, rfl⟩, Nat.sub_self]; rfl) (fun j hj => by omega)
        refine ⟨σ', fG_tr f3 f', p4, by rw [eE]; exact p5, by rw [eK]; exact p6, fun q => by omega, fun _ => by rw [eE]; exact ⟨p8, pL⟩, fun hd hQ => ?_⟩
        refine b133_0 ?_
        simp only [↓br_pos, ↓br_neg, ↓rF_I, ↓rF_L, ↓rF_R, ↓rF_N, rO_m, rB_m, ↓rI_m, wI_m, ↓rB2_m, ↓rB3_m, wB2_m, wB3_m, ↓rL_m, wL_m, ↓rQ_m, wQ_m, ↓lI_m, pI_m, pL_m, pR_m, sI_m, sBy_m, sBo_m, sL_m, sQ_m, fst_m, true_and, and_true, tg_some, ln_some, uI_1, uI_2, uL_1, uL_2, uL_3, uQ_1, uQ_2, uQ_3, rv_i, rv_l, rv_n, rv_b0, rv_b1, RMR, ne_eq, reduceCtorEq, not_false_eq_true, Option.getD_some, if_true, if_false, and_self, false_and, and_false, Nat.add_left_cancel_iff, Nat.add_eq_left, Nat.left_eq_add, Nat.one_ne_zero, Nat.reduceAdd, Nat.reduceLT, Nat.reduceLeDiff, Nat.reduceEqDiff, true_implies, false_implies, implies_true, Option.some.injEq, forall_eq', forall_eq, reduceCtorEq, brT, brF, br_s, i_10, i_01, ib_0_2, ib_1_2, tn_0, tn_1, Int32.le_refl, eq_self, rv_bN, rv_iM, RCM 81, RLY, lit_at hw, h5, g_132 hw hB hn (by omega : i ≤ 600) hd, a32, a10, gA hd, c0, g_129 hd, vin_lt hti, iB_t (show i < n ∧ isLt (t i) = true from ⟨c, y⟩), z10]
        exact q' hd hQ
      · by_cases x : isDg (t i) = true
        · have eK : tkK t n i = 2 := by unfold tkK; rw [if_neg cE, if_neg y, if_pos x]
          have eE : tkE t n i = spn isDg t n k i := by unfold tkE; rw [if_neg cE, if_neg y, if_pos x, show n - i = k by omega]
          obtain ⟨σ', f', p4, p5, p6, p7, q'⟩ := lp_133d (s := i) (c := bvA t n i) hw ht hn k i _ hi (Nat.le_refl _) B3 (by rw [uI_1, if_neg (by omega), uI_1, if_neg (by omega), uI_1, if_pos ⟨rfl, rfl⟩]) (by rw [uI_1, if_neg (by omega), uI_1, if_neg (by omega), uI_1, if_neg (by omega)]; exact h5) (by rw [uI_1, if_neg (by omega), uI_1, if_pos ⟨rfl, rfl⟩, Nat.sub_self]; rfl)
          refine ⟨σ', fG_tr f3 f', p4, by rw [eE]; exact p5, by rw [eK]; exact p6, fun _ => by rw [eE]; exact p7, fun q => by omega, fun hd hQ => ?_⟩
          refine b133_0 ?_
          simp only [↓br_pos, ↓br_neg, ↓rF_I, ↓rF_L, ↓rF_R, ↓rF_N, rO_m, rB_m, ↓rI_m, wI_m, ↓rB2_m, ↓rB3_m, wB2_m, wB3_m, ↓rL_m, wL_m, ↓rQ_m, wQ_m, ↓lI_m, pI_m, pL_m, pR_m, sI_m, sBy_m, sBo_m, sL_m, sQ_m, fst_m, true_and, and_true, tg_some, ln_some, uI_1, uI_2, uL_1, uL_2, uL_3, uQ_1, uQ_2, uQ_3, rv_i, rv_l, rv_n, rv_b0, rv_b1, RMR, ne_eq, reduceCtorEq, not_false_eq_true, Option.getD_some, if_true, if_false, and_self, false_and, and_false, Nat.add_left_cancel_iff, Nat.add_eq_left, Nat.left_eq_add, Nat.one_ne_zero, Nat.reduceAdd, Nat.reduceLT, Nat.reduceLeDiff, Nat.reduceEqDiff, true_implies, false_implies, implies_true, Option.some.injEq, forall_eq', forall_eq, reduceCtorEq, brT, brF, br_s, i_10, i_01, ib_0_2, ib_1_2, tn_0, tn_1, Int32.le_refl, eq_self, rv_bN, rv_iM, RCM 81, RLY, lit_at hw, h5, g_132 hw hB hn (by omega : i ≤ 600) hd, a32, a10, gA hd, c0, g_129 hd, vin_lt hti, iB_f (fun q : i < n ∧ isLt (t i) = true => y q.2), z00, vin_dg hti, iB_t (show i < n ∧ isDg (t i) = true from ⟨c, x⟩), z10]
          exact q' hd hQ
        · have eE : tkE t n i = i + 1 := by unfold tkE; rw [if_neg cE, if_neg y, if_neg x]
          by_cases v : t i = 59
          · have eK : tkK t n i = 3 := by unfold tkK; rw [if_neg cE, if_neg y, if_neg x, if_pos v]
            have c59 : (bvA t n i = (59 : Int32)) ↔ True := iff_true_intro (by rw [bp, v]; rfl)
            refine ⟨uI (uI (uI (uI (uI σ 81 4 (Int32.ofNat i)) 81 7 0) 81 8 0) 81 5 (Int32.ofNat (i + 1))) 81 6 3, fG_tr f3 (fG_tr (fG_I (by omega)) (fG_I (by omega))), by rw [uI_1, if_neg (by omega), uI_1, if_neg (by omega), uI_1, if_neg (by omega), uI_1, if_neg (by omega), uI_1, if_pos ⟨rfl, rfl⟩], by rw [eE, uI_1, if_neg (by omega), uI_1, if_pos ⟨rfl, rfl⟩], by rw [eK, uI_1, if_pos ⟨rfl, rfl⟩]; rfl, fun q => by omega, fun q => by omega, fun hd hQ => ?_⟩
            refine b133_0 ?_
            simp only [↓br_pos, ↓br_neg, ↓rF_I, ↓rF_L, ↓rF_R, ↓rF_N, rO_m, rB_m, ↓rI_m, wI_m, ↓rB2_m, ↓rB3_m, wB2_m, wB3_m, ↓rL_m, wL_m, ↓rQ_m, wQ_m, ↓lI_m, pI_m, pL_m, pR_m, sI_m, sBy_m, sBo_m, sL_m, sQ_m, fst_m, true_and, and_true, tg_some, ln_some, uI_1, uI_2, uL_1, uL_2, uL_3, uQ_1, uQ_2, uQ_3, rv_i, rv_l, rv_n, rv_b0, rv_b1, RMR, ne_eq, reduceCtorEq, not_false_eq_true, Option.getD_some, if_true, if_false, and_self, false_and, and_false, Nat.add_left_cancel_iff, Nat.add_eq_left, Nat.left_eq_add, Nat.one_ne_zero, Nat.reduceAdd, Nat.reduceLT, Nat.reduceLeDiff, Nat.reduceEqDiff, true_implies, false_implies, implies_true, Option.some.injEq, forall_eq', forall_eq, reduceCtorEq, brT, brF, br_s, i_10, i_01, ib_0_2, ib_1_2, tn_0, tn_1, Int32.le_refl, eq_self, rv_bN, rv_iM, RCM 81, RLY, lit_at hw, h5, g_132 hw hB hn (by omega : i ≤ 600) hd, a32, a10, gA hd, c0, g_129 hd, vin_lt hti, iB_f (fun q : i < n ∧ isLt (t i) = true => y q.2), z00, vin_dg hti, iB_f (fun q : i < n ∧ isDg (t i) = true => x q.2), c59, on_succ]
            exact hQ
          · have eK : tkK t n i = 4 := by unfold tkK; rw [if_neg cE, if_neg y, if_neg x, if_neg v]
            have c59 : (bvA t n i = (59 : Int32)) ↔ False := iff_false_intro (fun q => by
              rw [bp] at q
              exact v ((of_inj (b := 59) (by omega) (by omega)).mp q))
            refine ⟨uI (uI (uI (uI (uI σ 81 4 (Int32.ofNat i)) 81 7 0) 81 8 0) 81 5 (Int32.ofNat (i + 1))) 81 6 4, fG_tr f3 (fG_tr (fG_I (by omega)) (fG_I (by omega))), by rw [uI_1, if_neg (by omega), uI_1, if_neg (by omega), uI_1, if_neg (by omega), uI_1, if_neg (by omega), uI_1, if_pos ⟨rfl, rfl⟩], by rw [eE, uI_1, if_neg (by omega), uI_1, if_pos ⟨rfl, rfl⟩], by rw [eK, uI_1, if_pos ⟨rfl, rfl⟩]; rfl, fun q => by omega, fun q => by omega, fun hd hQ => ?_⟩
            refine b133_0 ?_
            simp only [↓br_pos, ↓br_neg, ↓rF_I, ↓rF_L, ↓rF_R, ↓rF_N, rO_m, rB_m, ↓rI_m, wI_m, ↓rB2_m, ↓rB3_m, wB2_m, wB3_m, ↓rL_m, wL_m, ↓rQ_m, wQ_m, ↓lI_m, pI_m, pL_m, pR_m, sI_m, sBy_m, sBo_m, sL_m, sQ_m, fst_m, true_and, and_true, tg_some, ln_some, uI_1, uI_2, uL_1, uL_2, uL_3, uQ_1, uQ_2, uQ_3, rv_i, rv_l, rv_n, rv_b0, rv_b1, RMR, ne_eq, reduceCtorEq, not_false_eq_true, Option.getD_some, if_true, if_false, and_self, false_and, and_false, Nat.add_left_cancel_iff, Nat.add_eq_left, Nat.left_eq_add, Nat.one_ne_zero, Nat.reduceAdd, Nat.reduceLT, Nat.reduceLeDiff, Nat.reduceEqDiff, true_implies, false_implies, implies_true, Option.some.injEq, forall_eq', forall_eq, reduceCtorEq, brT, brF, br_s, i_10, i_01, ib_0_2, ib_1_2, tn_0, tn_1, Int32.le_refl, eq_self, rv_bN, rv_iM, RCM 81, RLY, lit_at hw, h5, g_132 hw hB hn (by omega : i ≤ 600) hd, a32, a10, gA hd, c0, g_129 hd, vin_lt hti, iB_f (fun q : i < n ∧ isLt (t i) = true => y q.2), z00, vin_dg hti, iB_f (fun q : i < n ∧ isDg (t i) = true => x q.2), c59, on_succ]
            exact hQ
    · have cE : n ≤ i := by omega
      have bp : bvA t n i = -1 := if_neg c
      have c0 : ((0 : Int32) ≤ bvA t n i) ↔ False := by rw [bp]; decide
      have eK : tkK t n i = 0 := by unfold tkK; rw [if_pos cE]
      have eE : tkE t n i = i := by unfold tkE; rw [if_pos cE]
      refine ⟨uI (uI (uI (uI σ 81 4 (Int32.ofNat i)) 81 7 0) 81 8 0) 81 6 0, fG_tr f3 (fG_I (by omega)), by rw [uI_1, if_neg (by omega), uI_1, if_neg (by omega), uI_1, if_neg (by omega), uI_1, if_pos ⟨rfl, rfl⟩], by rw [eE, uI_1, if_neg (by omega), uI_1, if_neg (by omega), uI_1, if_neg (by omega), uI_1, if_neg (by omega)]; exact h5, by rw [eK, uI_1, if_pos ⟨rfl, rfl⟩]; rfl, fun q => by omega, fun q => by omega, fun hd hQ => ?_⟩
      refine b133_0 ?_
      simp only [↓br_pos, ↓br_neg, ↓rF_I, ↓rF_L, ↓rF_R, ↓rF_N, rO_m, rB_m, ↓rI_m, wI_m, ↓rB2_m, ↓rB3_m, wB2_m, wB3_m, ↓rL_m, wL_m, ↓rQ_m, wQ_m, ↓lI_m, pI_m, pL_m, pR_m, sI_m, sBy_m, sBo_m, sL_m, sQ_m, fst_m, true_and, and_true, tg_some, ln_some, uI_1, uI_2, uL_1, uL_2, uL_3, uQ_1, uQ_2, uQ_3, rv_i, rv_l, rv_n, rv_b0, rv_b1, RMR, ne_eq, reduceCtorEq, not_false_eq_true, Option.getD_some, if_true, if_false, and_self, false_and, and_false, Nat.add_left_cancel_iff, Nat.add_eq_left, Nat.left_eq_add, Nat.one_ne_zero, Nat.reduceAdd, Nat.reduceLT, Nat.reduceLeDiff, Nat.reduceEqDiff, true_implies, false_implies, implies_true, Option.some.injEq, forall_eq', forall_eq, reduceCtorEq, brT, brF, br_s, i_10, i_01, ib_0_2, ib_1_2, tn_0, tn_1, Int32.le_refl, eq_self, rv_bN, rv_iM, RCM 81, RLY, lit_at hw, h5, g_132 hw hB hn (by omega : i ≤ 600) hd, a32, a10, gA hd, c0]
      exact hQ
  intro k
  induction k with
  | zero =>
    intro i σ hi hB h5
    exact at_ 0 i σ hi hB h5 rfl (fun q => by omega)
  | succ k ih =>
    intro i σ hi hB h5
    by_cases z : isWs (t i) = true
    · have e : spn isWs t n (k + 1) i = spn isWs t n k (i + 1) := by rw [spn_s, if_pos ⟨by omega, z⟩]
      rw [e]
      have hti := ht i
      have bp : bvA t n i = Int32.ofNat (t i) := if_pos (by omega)
      have f1 : fG σ (uI σ 81 5 (Int32.ofNat (i + 1))) := fG_I (by omega)
      obtain ⟨σ', f', p4, p5, p6, p7, p8, q'⟩ := ih (i + 1) (uI σ 81 5 (Int32.ofNat (i + 1))) (by omega) (mBy_G hB f1) (by rw [uI_1, if_pos ⟨rfl, rfl⟩])
      refine ⟨σ', fG_tr f1 f', p4, p5, p6, p7, p8, fun hd hQ => ?_⟩
      refine b133_0 ?_
      have z' := of_decide_eq_true z
      by_cases y : t i = 32
      · have a32 : (bvA t n i = (32 : Int32)) ↔ True := iff_true_intro (by rw [bp, y]; rfl)
        simp only [↓br_pos, ↓br_neg, ↓rF_I, ↓rF_L, ↓rF_R, ↓rF_N, rO_m, rB_m, ↓rI_m, wI_m, ↓rB2_m, ↓rB3_m, wB2_m, wB3_m, ↓rL_m, wL_m, ↓rQ_m, wQ_m, ↓lI_m, pI_m, pL_m, pR_m, sI_m, sBy_m, sBo_m, sL_m, sQ_m, fst_m, true_and, and_true, tg_some, ln_some, uI_1, uI_2, uL_1, uL_2, uL_3, uQ_1, uQ_2, uQ_3, rv_i, rv_l, rv_n, rv_b0, rv_b1, RMR, ne_eq, reduceCtorEq, not_false_eq_true, Option.getD_some, if_true, if_false, and_self, false_and, and_false, Nat.add_left_cancel_iff, Nat.add_eq_left, Nat.left_eq_add, Nat.one_ne_zero, Nat.reduceAdd, Nat.reduceLT, Nat.reduceLeDiff, Nat.reduceEqDiff, true_implies, false_implies, implies_true, Option.some.injEq, forall_eq', forall_eq, reduceCtorEq, brT, brF, br_s, i_10, i_01, ib_0_2, ib_1_2, tn_0, tn_1, Int32.le_refl, eq_self, rv_bN, rv_iM, RCM 81, RLY, lit_at hw, h5, g_132 hw hB hn (by omega : i ≤ 600) hd, a32, on_succ]
        exact q' hd hQ
      · have a32 : (bvA t n i = (32 : Int32)) ↔ False := iff_false_intro (fun q => by rw [bp] at q; exact y ((of_inj (b := 32) (by omega) (by omega)).mp q))
        have a10 : (bvA t n i = (10 : Int32)) ↔ True := iff_true_intro (by rw [bp, z'.resolve_left y]; rfl)
        simp only [↓br_pos, ↓br_neg, ↓rF_I, ↓rF_L, ↓rF_R, ↓rF_N, rO_m, rB_m, ↓rI_m, wI_m, ↓rB2_m, ↓rB3_m, wB2_m, wB3_m, ↓rL_m, wL_m, ↓rQ_m, wQ_m, ↓lI_m, pI_m, pL_m, pR_m, sI_m, sBy_m, sBo_m, sL_m, sQ_m, fst_m, true_and, and_true, tg_some, ln_some, uI_1, uI_2, uL_1, uL_2, uL_3, uQ_1, uQ_2, uQ_3, rv_i, rv_l, rv_n, rv_b0, rv_b1, RMR, ne_eq, reduceCtorEq, not_false_eq_true, Option.getD_some, if_true, if_false, and_self, false_and, and_false, Nat.add_left_cancel_iff, Nat.add_eq_left, Nat.left_eq_add, Nat.one_ne_zero, Nat.reduceAdd, Nat.reduceLT, Nat.reduceLeDiff, Nat.reduceEqDiff, true_implies, false_implies, implies_true, Option.some.injEq, forall_eq', forall_eq, reduceCtorEq, brT, brF, br_s, i_10, i_01, ib_0_2, ib_1_2, tn_0, tn_1, Int32.le_refl, eq_self, rv_bN, rv_iM, RCM 81, RLY, lit_at hw, h5, g_132 hw hB hn (by omega : i ≤ 600) hd, a32, a10, on_succ]
        exact q' hd hQ
    · exact at_ (k + 1) i σ hi hB h5 (by rw [spn_s, if_neg (fun q => z q.2)]) (fun q => z q.2)
/-- what the Reader holds -/
def mG (σ : mS) (t : Nat → Nat) (n : Nat) (g : Rw) : Prop := mBy σ t n ∧ σ.1 81 4 = Int32.ofNat (g 0) ∧ σ.1 81 5 = Int32.ofNat (g 1) ∧ σ.1 81 6 = Int32.ofNat (g 2) ∧ (g 2 = 2 → σ.1 81 7 = numV t g) ∧ (g 2 = 1 → σ.1 81 8 = wM t (g 0) (g 1 - g 0) ∧ ltG t (g 0) (g 1 - g 0)) ∧ σ.1 81 9 = Int32.ofNat (g 3) ∧ σ.1 81 14 = Int32.ofNat (g 4) ∧ σ.1 81 13 = Int32.ofNat (g 5)
theorem o_133 {w : mT} {σ : mS} {t : Nat → Nat} {n : Nat} {g : Rw} (hw : lit w) (ht : ∀ i, t i < 256) (hn : n ≤ 600) (hB : mBy σ t n) (h5 : σ.1 81 5 = Int32.ofNat (g 1)) (h9 : σ.1 81 9 = Int32.ofNat (g 3)) (h14 : σ.1 81 14 = Int32.ofNat (g 4)) (h13 : σ.1 81 13 = Int32.ofNat (g 5)) (hg : g 1 ≤ n) : ∃ σ', fG σ σ' ∧ mG σ' t n (adv t n g) ∧ ∀ {D : Nat} {K : Hp → Prop}, 2 ≤ D → (wpV D 133 [.ref 81] (mW w σ) K ↔ K (mW w σ')) := by
  obtain ⟨σ', f', p4, p5, p6, p7, p8, q'⟩ := lp_133 hw ht hn (n - g 1) (g 1) σ (by omega) hB h5
  refine ⟨σ', f', ⟨mBy_G hB f', p4, p5, p6, fun q => ?_, p8, by rw [f'.2.1 9 (by omega)]; exact h9, by rw [f'.2.1 14 (by omega)]; exact h14, by rw [f'.2.1 13 (by omega)]; exact h13⟩, fun hD => cV_of (m := 1) (fun d hd Q hQ => ?_) rfl hD⟩
  · rw [← vM_v]
    exact p7 q
  · exact q' hd hQ
theorem o_133g {w : mT} {σ : mS} {t : Nat → Nat} {n : Nat} {g : Rw} (hw : lit w) (ht : ∀ i, t i < 256) (hG : mG σ t n g) (hv : vG n g) : ∃ σ', fG σ σ' ∧ mG σ' t n (adv t n g) ∧ ∀ {D : Nat} {K : Hp → Prop}, 2 ≤ D → (wpV D 133 [.ref 81] (mW w σ) K ↔ K (mW w σ')) := o_133 hw ht hv.2.2.1 hG.1 hG.2.2.1 hG.2.2.2.2.2.2.1 hG.2.2.2.2.2.2.2.1 hG.2.2.2.2.2.2.2.2 hv.2.1
