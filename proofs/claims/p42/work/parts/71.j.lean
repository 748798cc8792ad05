section
/-! the model's calls: within, spread, next -/
theorem labs {a b : Nat} (ha : a < 4611686018427387904) (hb : b < 4611686018427387904) : (if 0 < Int64.ofNat a - Int64.ofNat b then Int64.ofNat a - Int64.ofNat b else -(Int64.ofNat a - Int64.ofNat b)) = Int64.ofNat (dist a b) := by
  unfold dist
  by_cases h : b < a
  · rw [ol_sub (by omega), if_pos (show (0 : Int64) < Int64.ofNat (a - b) from (ol_lt (a := 0) (by omega) (by omega)).mpr (by omega))]
    congr 1; omega
  · have e : Int64.ofNat a - Int64.ofNat b = - Int64.ofNat (b - a) := by rw [← ol_sub (by omega : a ≤ b), Int64.neg_sub]
    rw [e]
    have n : ¬ (0 : Int64) < - Int64.ofNat (b - a) := by
      rw [Int64.lt_iff_toInt_lt, Int64.toInt_neg, ol_int (by omega), show (0 : Int64).toInt = 0 by decide, Int.bmod_eq_of_le (by omega) (by omega)]
      omega
    rw [if_neg n, Int64.neg_neg]
    congr 1; omega
theorem lp_214 {w : mT} {τ ρ : Rw} {p a b : Nat} (hw : lit w) (hv : vTold τ) (hr : vRow τ ρ) (hp : p < τ 1) (ha : a ≤ 999) (hb : b ≤ 999) : ∀ (r c : Nat) (σ : mS), c + r = τ (28 + p) → mTold σ τ → mRow σ 85 0 ρ → ∃ σ', frZ σ σ' ∧ ∀ {Q : Option (Option Value) → Hp → Prop} {d : Nat}, 2 ≤ d → Q (some (some (.int (wiB τ ρ p a b (τ (28 + p)))))) (mW w σ') → Wp 214 46 [.ref 81, .int (Int32.ofNat p), .int (Int32.ofNat a), .int (Int32.ofNat b), .int (wiB τ ρ p a b c), .int (Int32.ofNat c)] [] (mW w σ) Q d := by
  have v1 := hv.2.1
  have v2 := (hv.2.2.2.2.2.1 p hp).2
  intro r
  induction r with
  | zero =>
    intro c σ hc hτ hρ
    have hc' : c = τ (28 + p) := by omega
    subst hc'
    refine ⟨σ, frZ_rf, fun hd hQ => ?_⟩
    refine b214_46 ?_
    simp only [↓br_pos, ↓br_neg, ↓rF_I, ↓rF_L, ↓rF_R, ↓rF_N, rO_m, rB_m, ↓rI_m, wI_m, ↓rB2_m, ↓rB3_m, wB2_m, wB3_m, ↓rL_m, wL_m, ↓rQ_m, wQ_m, ↓lI_m, pI_m, pL_m, pR_m, sI_m, sBy_m, sBo_m, sL_m, sQ_m, fst_m, true_and, and_true, tg_some, ln_some, uI_1, uI_2, uL_1, uL_2, uL_3, uQ_1, uQ_2, uQ_3, rv_i, rv_l, rv_n, rv_b0, rv_b1, RMR, ne_eq, reduceCtorEq, not_false_eq_true, Option.getD_some, if_true, if_false, and_self, false_and, and_false, Nat.add_left_cancel_iff, Nat.add_eq_left, Nat.left_eq_add, Nat.one_ne_zero, Nat.reduceAdd, Nat.reduceLT, Nat.reduceLeDiff, Nat.reduceEqDiff, true_implies, false_implies, implies_true, Option.some.injEq, forall_eq', forall_eq, reduceCtorEq, brT, brF, br_s, i_10, i_01, ib_0_2, ib_1_2, tn_0, tn_1, Int32.le_refl, eq_self, rv_bN, rv_iM, RCM 81, RLY, lit_at hw, ad_2, ad_4, ad_6, ad_8, ad_10, ad_12, ad_16, ad_24, ad_27, ad_28, ad_31, ad_35, ad_43, ad_51, ad_107, ad_131, ad_311, ml_3, ml_6, ml_7, ml_60, ml_100, ml_2471, mq_12, ar_2, ar_3, ar_4, ar_5, ar_6, of_add, of_mul, on_succ, mt hτ (by omega : 28 + p < 79), Int32.le_refl]
    exact hQ
  | succ r ih =>
    intro c σ hc hτ hρ
    have l1 : (Int32.ofNat (τ (28 + p)) ≤ Int32.ofNat c) ↔ False := iff_false_intro (fun q => absurd ((on_le (by omega) (by omega)).mp q) (by omega))
    obtain ⟨gb, tb⟩ := gOn_b (c := c) hv hr (by omega : p < 3) (by omega)
    have m1 : a * tOn ρ p c ≤ 999 * 119988 := Nat.mul_le_mul ha tb
    have m2 : b * tOn ρ p c ≤ 999 * 119988 := Nat.mul_le_mul hb tb
    have c1 := lg0n (a := a * tOn ρ p c) (b := gOn τ ρ p c) (by omega) (by omega)
    have c2 := lg0n (a := gOn τ ρ p c) (b := b * tOn ρ p c) (by omega) (by omega)
    have i1 := i64_of (a := a) (by omega)
    have i2 := i64_of (a := b) (by omega)
    have i3 := i64_of (a := tOn ρ p c) (by omega)
    have i4 := i64_of (a := gOn τ ρ p c) (by omega)
    obtain ⟨σ', f', q'⟩ := ih (c + 1) (su σ (tOn ρ p c) (gOn τ ρ p c)) (by omega) (mT_c hτ (su_a (by omega))) (mR_c hρ (su_a (by omega)))
    refine ⟨σ', frZ_tr frZ_su f', fun hd hQ => ?_⟩
    have nx := q' hd hQ
    refine b214_46 ?_
    by_cases z0 : 0 < tOn ρ p c
    · have k0 : (Int32.ofNat (tOn ρ p c) ≤ 0) ↔ False := iff_false_intro (fun q => by have := (of_le0 (by omega)).mp q; omega)
      by_cases z1 : a * tOn ρ p c ≤ gOn τ ρ p c
      · have k1 := iff_false_intro (fun q => absurd (c1.mp q) (by omega))
        by_cases z2 : gOn τ ρ p c ≤ b * tOn ρ p c
        · have k2 := iff_false_intro (fun q => absurd (c2.mp q) (by omega))
          have eB : wiB τ ρ p a b (c + 1) = wiB τ ρ p a b c ||| ((1 : Int32) <<< (Int32.ofNat c &&& 31)) := if_pos ⟨z0, z1, z2⟩
          rw [eB] at nx
          simp only [↓br_pos, ↓br_neg, ↓rF_I, ↓rF_L, ↓rF_R, ↓rF_N, rO_m, rB_m, ↓rI_m, wI_m, ↓rB2_m, ↓rB3_m, wB2_m, wB3_m, ↓rL_m, wL_m, ↓rQ_m, wQ_m, ↓lI_m, pI_m, pL_m, pR_m, sI_m, sBy_m, sBo_m, sL_m, sQ_m, fst_m, true_and, and_true, tg_some, ln_some, uI_1, uI_2, uL_1, uL_2, uL_3, uQ_1, uQ_2, uQ_3, rv_i, rv_l, rv_n, rv_b0, rv_b1, RMR, ne_eq, reduceCtorEq, not_false_eq_true, Option.getD_some, if_true, if_false, and_self, false_and, and_false, Nat.add_left_cancel_iff, Nat.add_eq_left, Nat.left_eq_add, Nat.one_ne_zero, Nat.reduceAdd, Nat.reduceLT, Nat.reduceLeDiff, Nat.reduceEqDiff, true_implies, false_implies, implies_true, Option.some.injEq, forall_eq', forall_eq, reduceCtorEq, brT, brF, br_s, i_10, i_01, ib_0_2, ib_1_2, tn_0, tn_1, Int32.le_refl, eq_self, rv_bN, rv_iM, RCM 81, RLY, lit_at hw, ad_2, ad_4, ad_6, ad_8, ad_10, ad_12, ad_16, ad_24, ad_27, ad_28, ad_31, ad_35, ad_43, ad_51, ad_107, ad_131, ad_311, ml_3, ml_6, ml_7, ml_60, ml_100, ml_2471, mq_12, ar_2, ar_3, ar_4, ar_5, ar_6, of_add, of_mul, on_succ, mt hτ (by omega : 28 + p < 79), l1, g_158c hw hτ hρ hv hr (by omega : p < 3) (by omega : c < 12) hd, su_16, su_17, k0, i1, i2, i3, i4, ol_mul, k1, k2]
          exact nx
        · have k2 := iff_true_intro (c2.mpr (by omega))
          have eB : wiB τ ρ p a b (c + 1) = wiB τ ρ p a b c := if_neg (fun q => z2 q.2.2)
          rw [eB] at nx
          simp only [↓br_pos, ↓br_neg, ↓rF_I, ↓rF_L, ↓rF_R, ↓rF_N, rO_m, rB_m, ↓rI_m, wI_m, ↓rB2_m, ↓rB3_m, wB2_m, wB3_m, ↓rL_m, wL_m, ↓rQ_m, wQ_m, ↓lI_m, pI_m, pL_m, pR_m, sI_m, sBy_m, sBo_m, sL_m, sQ_m, fst_m, true_and, and_true, tg_some, ln_some, uI_1, uI_2, uL_1, uL_2, uL_3, uQ_1, uQ_2, uQ_3, rv_i, rv_l, rv_n, rv_b0, rv_b1, RMR, ne_eq, reduceCtorEq, not_false_eq_true, Option.getD_some, if_true, if_false, and_self, false_and, and_false, Nat.add_left_cancel_iff, Nat.add_eq_left, Nat.left_eq_add, Nat.one_ne_zero, Nat.reduceAdd, Nat.reduceLT, Nat.reduceLeDiff, Nat.reduceEqDiff, true_implies, false_implies, implies_true, Option.some.injEq, forall_eq', forall_eq, reduceCtorEq, brT, brF, br_s, i_10, i_01, ib_0_2, ib_1_2, tn_0, tn_1, Int32.le_refl, eq_self, rv_bN, rv_iM, RCM 81, RLY, lit_at hw, ad_2, ad_4, ad_6, ad_8, ad_10, ad_12, ad_16, ad_24, ad_27, ad_28, ad_31, ad_35, ad_43, ad_51, ad_107, ad_131, ad_311, ml_3, ml_6, ml_7, ml_60, ml_100, ml_2471, mq_12, ar_2, ar_3, ar_4, ar_5, ar_6, of_add, of_mul, on_succ, mt hτ (by omega : 28 + p < 79), l1, g_158c hw hτ hρ hv hr (by omega : p < 3) (by omega : c < 12) hd, su_16, su_17, k0, i1, i2, i3, i4, ol_mul, k1, k2, Int32.or_zero]
          exact nx
      · have k1 := iff_true_intro (c1.mpr (by omega))
        have eB : wiB τ ρ p a b (c + 1) = wiB τ ρ p a b c := if_neg (fun q => z1 q.2.1)
        rw [eB] at nx
        simp only [↓br_pos, ↓br_neg, ↓rF_I, ↓rF_L, ↓rF_R, ↓rF_N, rO_m, rB_m, ↓rI_m, wI_m, ↓rB2_m, ↓rB3_m, wB2_m, wB3_m, ↓rL_m, wL_m, ↓rQ_m, wQ_m, ↓lI_m, pI_m, pL_m, pR_m, sI_m, sBy_m, sBo_m, sL_m, sQ_m, fst_m, true_and, and_true, tg_some, ln_some, uI_1, uI_2, uL_1, uL_2, uL_3, uQ_1, uQ_2, uQ_3, rv_i, rv_l, rv_n, rv_b0, rv_b1, RMR, ne_eq, reduceCtorEq, not_false_eq_true, Option.getD_some, if_true, if_false, and_self, false_and, and_false, Nat.add_left_cancel_iff, Nat.add_eq_left, Nat.left_eq_add, Nat.one_ne_zero, Nat.reduceAdd, Nat.reduceLT, Nat.reduceLeDiff, Nat.reduceEqDiff, true_implies, false_implies, implies_true, Option.some.injEq, forall_eq', forall_eq, reduceCtorEq, brT, brF, br_s, i_10, i_01, ib_0_2, ib_1_2, tn_0, tn_1, Int32.le_refl, eq_self, rv_bN, rv_iM, RCM 81, RLY, lit_at hw, ad_2, ad_4, ad_6, ad_8, ad_10, ad_12, ad_16, ad_24, ad_27, ad_28, ad_31, ad_35, ad_43, ad_51, ad_107, ad_131, ad_311, ml_3, ml_6, ml_7, ml_60, ml_100, ml_2471, mq_12, ar_2, ar_3, ar_4, ar_5, ar_6, of_add, of_mul, on_succ, mt hτ (by omega : 28 + p < 79), l1, g_158c hw hτ hρ hv hr (by omega : p < 3) (by omega : c < 12) hd, su_16, su_17, k0, i1, i2, i3, i4, ol_mul, k1, Int32.or_zero]
        exact nx
    · have k0 : (Int32.ofNat (tOn ρ p c) ≤ 0) ↔ True := iff_true_intro ((of_le0 (by omega)).mpr (by omega))
      have eB : wiB τ ρ p a b (c + 1) = wiB τ ρ p a b c := if_neg (fun q => z0 q.1)
      rw [eB] at nx
      simp only [↓br_pos, ↓br_neg, ↓rF_I, ↓rF_L, ↓rF_R, ↓rF_N, rO_m, rB_m, ↓rI_m, wI_m, ↓rB2_m, ↓rB3_m, wB2_m, wB3_m, ↓rL_m, wL_m, ↓rQ_m, wQ_m, ↓lI_m, pI_m, pL_m, pR_m, sI_m, sBy_m, sBo_m, sL_m, sQ_m, fst_m, true_and, and_true, tg_some, ln_some, uI_1, uI_2, uL_1, uL_2, uL_3, uQ_1, uQ_2, uQ_3, rv_i, rv_l, rv_n, rv_b0, rv_b1, RMR, ne_eq, reduceCtorEq, not_false_eq_true, Option.getD_some, if_true, if_false, and_self, false_and, and_false, Nat.add_left_cancel_iff, Nat.add_eq_left, Nat.left_eq_add, Nat.one_ne_zero, Nat.reduceAdd, Nat.reduceLT, Nat.reduceLeDiff, Nat.reduceEqDiff, true_implies, false_implies, implies_true, Option.some.injEq, forall_eq', forall_eq, reduceCtorEq, brT, brF, br_s, i_10, i_01, ib_0_2, ib_1_2, tn_0, tn_1, Int32.le_refl, eq_self, rv_bN, rv_iM, RCM 81, RLY, lit_at hw, ad_2, ad_4, ad_6, ad_8, ad_10, ad_12, ad_16, ad_24, ad_27, ad_28, ad_31, ad_35, ad_43, ad_51, ad_107, ad_131, ad_311, ml_3, ml_6, ml_7, ml_60, ml_100, ml_2471, mq_12, ar_2, ar_3, ar_4, ar_5, ar_6, of_add, of_mul, on_succ, mt hτ (by omega : 28 + p < 79), l1, g_158c hw hτ hρ hv hr (by omega : p < 3) (by omega : c < 12) hd, su_16, su_17, k0, Int32.or_zero]
      exact nx
theorem vin_o {a b : Int32} : vin (Int32.toInt64 b) (Int32.toInt64 a) (999 : Int64) = iB (a.toInt ≤ b.toInt ∧ b.toInt ≤ 999) := by
  rw [vin_eq, Int32.toInt_toInt64, Int32.toInt_toInt64, show (999 : Int64).toInt = 999 by decide]
theorem m_214z {w : mT} {σ : mS} {tp n : Nat} {t : Nat → Nat} {τ ρ : Rw} {bk : Nat → Rw} {has : Nat → Bool} {im : Nat → Rw} {p a b : Int32} {D : Nat} {K : Int32 → Hp → Prop} (h : mIn w σ tp t τ ρ n bk has im) (hn1 : ¬ (bN p (τ 1) = 1 ∧ grP a ∧ grP b ∧ a ≤ b)) (hD : 3 ≤ D) : wpI D 214 [.ref 81, .int p, .int a, .int b] (mW w σ) K ↔ K (-1) (mW w (uI σ 81 0 0)) := by
  have M := h
  obtain ⟨hw, hτ, hρ, hv, hr, hp2, htp, htb, htl, hn, hn12, hbk, him⟩ := h
  have M0 := mIn_Z M (frZ_0 (j := 0) (x := 0) (by omega))
  obtain ⟨_, hτ0, hρ0, _, _, hp20, _, htb0, _, hn0, _, hbk0, him0⟩ := M0
  have M0 := mIn_Z M (frZ_0 (j := 0) (x := 0) (by omega))
  refine cI_of (m := 2) (fun d hd Q hQ => ?_) rfl hD
  have hd1 : 1 ≤ d := by omega
  refine b214_0 ?_
  rcases bN_01 (a := p) (n := τ 1) with z | z
  · simp only [↓br_pos, ↓br_neg, ↓rF_I, ↓rF_L, ↓rF_R, ↓rF_N, rO_m, rB_m, ↓rI_m, wI_m, ↓rB2_m, ↓rB3_m, wB2_m, wB3_m, ↓rL_m, wL_m, ↓rQ_m, wQ_m, ↓lI_m, pI_m, pL_m, pR_m, sI_m, sBy_m, sBo_m, sL_m, sQ_m, fst_m, true_and, and_true, tg_some, ln_some, uI_1, uI_2, uL_1, uL_2, uL_3, uQ_1, uQ_2, uQ_3, rv_i, rv_l, rv_n, rv_b0, rv_b1, RMR, ne_eq, reduceCtorEq, not_false_eq_true, Option.getD_some, if_true, if_false, and_self, false_and, and_false, Nat.add_left_cancel_iff, Nat.add_eq_left, Nat.left_eq_add, Nat.one_ne_zero, Nat.reduceAdd, Nat.reduceLT, Nat.reduceLeDiff, Nat.reduceEqDiff, true_implies, false_implies, implies_true, Option.some.injEq, forall_eq', forall_eq, reduceCtorEq, brT, brF, br_s, i_10, i_01, ib_0_2, ib_1_2, tn_0, tn_1, Int32.le_refl, eq_self, rv_bN, rv_iM, RCM 81, RLY, lit_at hw, g_152 hw hτ0 hv hd, z, z00]
    exact hQ
  · by_cases y : 0 ≤ a.toInt ∧ a.toInt ≤ 999
    · have x : ¬ (a.toInt ≤ b.toInt ∧ b.toInt ≤ 999) := fun q => hn1 ⟨z, y, by unfold grP; omega, by rw [i_le]; exact q.1⟩
      simp only [↓br_pos, ↓br_neg, ↓rF_I, ↓rF_L, ↓rF_R, ↓rF_N, rO_m, rB_m, ↓rI_m, wI_m, ↓rB2_m, ↓rB3_m, wB2_m, wB3_m, ↓rL_m, wL_m, ↓rQ_m, wQ_m, ↓lI_m, pI_m, pL_m, pR_m, sI_m, sBy_m, sBo_m, sL_m, sQ_m, fst_m, true_and, and_true, tg_some, ln_some, uI_1, uI_2, uL_1, uL_2, uL_3, uQ_1, uQ_2, uQ_3, rv_i, rv_l, rv_n, rv_b0, rv_b1, RMR, ne_eq, reduceCtorEq, not_false_eq_true, Option.getD_some, if_true, if_false, and_self, false_and, and_false, Nat.add_left_cancel_iff, Nat.add_eq_left, Nat.left_eq_add, Nat.one_ne_zero, Nat.reduceAdd, Nat.reduceLT, Nat.reduceLeDiff, Nat.reduceEqDiff, true_implies, false_implies, implies_true, Option.some.injEq, forall_eq', forall_eq, reduceCtorEq, brT, brF, br_s, i_10, i_01, ib_0_2, ib_1_2, tn_0, tn_1, Int32.le_refl, eq_self, rv_bN, rv_iM, RCM 81, RLY, lit_at hw, g_152 hw hτ0 hv hd, z, z10, z00, g_129 hd1, vin_999, iB_t y, vin_o, iB_f x]
      exact hQ
    · simp only [↓br_pos, ↓br_neg, ↓rF_I, ↓rF_L, ↓rF_R, ↓rF_N, rO_m, rB_m, ↓rI_m, wI_m, ↓rB2_m, ↓rB3_m, wB2_m, wB3_m, ↓rL_m, wL_m, ↓rQ_m, wQ_m, ↓lI_m, pI_m, pL_m, pR_m, sI_m, sBy_m, sBo_m, sL_m, sQ_m, fst_m, true_and, and_true, tg_some, ln_some, uI_1, uI_2, uL_1, uL_2, uL_3, uQ_1, uQ_2, uQ_3, rv_i, rv_l, rv_n, rv_b0, rv_b1, RMR, ne_eq, reduceCtorEq, not_false_eq_true, Option.getD_some, if_true, if_false, and_self, false_and, and_false, Nat.add_left_cancel_iff, Nat.add_eq_left, Nat.left_eq_add, Nat.one_ne_zero, Nat.reduceAdd, Nat.reduceLT, Nat.reduceLeDiff, Nat.reduceEqDiff, true_implies, false_implies, implies_true, Option.some.injEq, forall_eq', forall_eq, reduceCtorEq, brT, brF, br_s, i_10, i_01, ib_0_2, ib_1_2, tn_0, tn_1, Int32.le_refl, eq_self, rv_bN, rv_iM, RCM 81, RLY, lit_at hw, g_152 hw hτ0 hv hd, z, z10, z00, g_129 hd1, vin_999, iB_f y]
      exact hQ
theorem m_214 {w : mT} {σ : mS} {tp n : Nat} {t : Nat → Nat} {τ ρ : Rw} {bk : Nat → Rw} {has : Nat → Bool} {im : Nat → Rw} {p a b : Nat} (h : mIn w σ tp t τ ρ n bk has im) (hp : p < τ 1) (hab : a ≤ b) (hb : b ≤ 999) : ∃ σ', frA σ σ' ∧ mIn w σ' tp t τ ρ n bk has im ∧ ∀ {D : Nat} {K : Int32 → Hp → Prop}, 3 ≤ D → (wpI D 214 [.ref 81, .int (Int32.ofNat p), .int (Int32.ofNat a), .int (Int32.ofNat b)] (mW w σ) K ↔ K (wiB τ ρ p a b (τ (28 + p))) (mW w σ')) := by
  have M := h
  obtain ⟨hw, hτ, hρ, hv, hr, hp2, htp, htb, htl, hn, hn12, hbk, him⟩ := h
  have M0 := mIn_Z M (frZ_0 (j := 0) (x := 0) (by omega))
  obtain ⟨_, hτ0, hρ0, _, _, hp20, _, htb0, _, hn0, _, hbk0, him0⟩ := M0
  have M0 := mIn_Z M (frZ_0 (j := 0) (x := 0) (by omega))
  have v1 := hv.2.1
  obtain ⟨σ', f', q'⟩ := lp_214 hw hv hr hp (by omega : a ≤ 999) hb (τ (28 + p)) 0 (uI σ 81 0 0) (by omega) hτ0 hρ0
  have ff : frZ σ σ' := frZ_tr (frZ_0 (by omega)) f'
  refine ⟨σ', frZ_A ff, mIn_Z M ff, fun hD => cI_of (m := 2) (fun d hd Q hQ => ?_) rfl hD⟩
  have hd1 : 1 ≤ d := by omega
  have y : 0 ≤ (Int32.ofNat a).toInt ∧ (Int32.ofNat a).toInt ≤ 999 := by rw [on_int (by omega)]; omega
  have x : (Int32.ofNat a).toInt ≤ (Int32.ofNat b).toInt ∧ (Int32.ofNat b).toInt ≤ 999 := by rw [on_int (by omega), on_int (by omega)]; omega
  refine b214_0 ?_
  simp only [↓br_pos, ↓br_neg, ↓rF_I, ↓rF_L, ↓rF_R, ↓rF_N, rO_m, rB_m, ↓rI_m, wI_m, ↓rB2_m, ↓rB3_m, wB2_m, wB3_m, ↓rL_m, wL_m, ↓rQ_m, wQ_m, ↓lI_m, pI_m, pL_m, pR_m, sI_m, sBy_m, sBo_m, sL_m, sQ_m, fst_m, true_and, and_true, tg_some, ln_some, uI_1, uI_2, uL_1, uL_2, uL_3, uQ_1, uQ_2, uQ_3, rv_i, rv_l, rv_n, rv_b0, rv_b1, RMR, ne_eq, reduceCtorEq, not_false_eq_true, Option.getD_some, if_true, if_false, and_self, false_and, and_false, Nat.add_left_cancel_iff, Nat.add_eq_left, Nat.left_eq_add, Nat.one_ne_zero, Nat.reduceAdd, Nat.reduceLT, Nat.reduceLeDiff, Nat.reduceEqDiff, true_implies, false_implies, implies_true, Option.some.injEq, forall_eq', forall_eq, reduceCtorEq, brT, brF, br_s, i_10, i_01, ib_0_2, ib_1_2, tn_0, tn_1, Int32.le_refl, eq_self, rv_bN, rv_iM, RCM 81, RLY, lit_at hw, g_152 hw hτ0 hv hd, bN_on hp (by omega : τ 1 < 2147483648), z10, g_129 hd1, vin_999, iB_t y, vin_o, iB_t x]
  exact q' hd hQ
def spM (σ : mS) (s : SP) : mS := if s.2.1 = 0 then σ else uL σ 81 24 (Int64.ofNat (s.2.2.2 * s.2.1 / gc1 (s.2.2.1 * s.2.1 - s.1 * s.2.2.2) (s.2.2.2 * s.2.1)))
theorem spM_Z {σ : mS} {s : SP} : frZ σ (spM σ s) := by
  unfold spM
  split
  · exact frZ_rf
  · exact frZ_L (by omega)
theorem lp_215 {w : mT} {τ ρ : Rw} {p : Nat} (hw : lit w) (hv : vTold τ) (hr : vRow τ ρ) (hp : p < τ 1) : ∀ (r c : Nat) (σ : mS), c + r = τ (28 + p) → mTold σ τ → mRow σ 85 0 ρ → ∃ σ', frZ σ σ' ∧ ∀ {Q : Option (Option Value) → Hp → Prop} {d : Nat}, 2 ≤ d → Q (some (some (.long (spV (spB τ ρ p (τ (28 + p))))))) (mW w σ') → Wp 215 31 [.ref 81, .int (Int32.ofNat p), .long (Int64.ofNat (spB τ ρ p c).2.1), jk, .long (Int64.ofNat (spB τ ρ p c).1), jk, .long (Int64.ofNat (spB τ ρ p c).2.2.2), jk, .long (Int64.ofNat (spB τ ρ p c).2.2.1), jk, .int (Int32.ofNat c), jk, jk, jk, jk, jk] [] (mW w σ) Q d := by
  have v1 := hv.2.1
  have v2 := (hv.2.2.2.2.2.1 p hp).2
  intro r
  induction r with
  | zero =>
    intro c σ hc hτ hρ
    have hc' : c = τ (28 + p) := by omega
    subst hc'
    obtain ⟨s1, s2, s3, s4, s5, s6⟩ := spB_I hv hr (by omega : p < 3) (τ (28 + p)) v2
    have m1 : (spB τ ρ p (τ (28 + p))).2.2.1 * (spB τ ρ p (τ (28 + p))).2.1 ≤ 119868012 * 119988 := Nat.mul_le_mul s5 s4
    have m2 : (spB τ ρ p (τ (28 + p))).2.2.2 * (spB τ ρ p (τ (28 + p))).2.1 ≤ 119988 * 119988 := Nat.mul_le_mul s6 s4
    have cb := lg0 (a := (spB τ ρ p (τ (28 + p))).2.1) (by omega)
    refine ⟨spM σ (spB τ ρ p (τ (28 + p))), spM_Z, fun hd hQ => ?_⟩
    have hd1 := Nat.le_trans (by omega : 1 ≤ 2) hd
    refine b215_31 ?_
    simp only [spV, spM] at hQ
    by_cases z : (spB τ ρ p (τ (28 + p))).2.1 = 0
    · have k1 := iff_true_intro (cb.mpr z)
      simp only [if_pos z] at hQ
      simp only [↓br_pos, ↓br_neg, ↓rF_I, ↓rF_L, ↓rF_R, ↓rF_N, rO_m, rB_m, ↓rI_m, wI_m, ↓rB2_m, ↓rB3_m, wB2_m, wB3_m, ↓rL_m, wL_m, ↓rQ_m, wQ_m, ↓lI_m, pI_m, pL_m, pR_m, sI_m, sBy_m, sBo_m, sL_m, sQ_m, fst_m, true_and, and_true, tg_some, ln_some, uI_1, uI_2, uL_1, uL_2, uL_3, uQ_1, uQ_2, uQ_3, rv_i, rv_l, rv_n, rv_b0, rv_b1, RMR, ne_eq, reduceCtorEq, not_false_eq_true, Option.getD_some, if_true, if_false, and_self, false_and, and_false, Nat.add_left_cancel_iff, Nat.add_eq_left, Nat.left_eq_add, Nat.one_ne_zero, Nat.reduceAdd, Nat.reduceLT, Nat.reduceLeDiff, Nat.reduceEqDiff, true_implies, false_implies, implies_true, Option.some.injEq, forall_eq', forall_eq, reduceCtorEq, brT, brF, br_s, i_10, i_01, ib_0_2, ib_1_2, tn_0, tn_1, Int32.le_refl, eq_self, rv_bN, rv_iM, RCM 81, RLY, lit_at hw, ad_2, ad_4, ad_6, ad_8, ad_10, ad_12, ad_16, ad_24, ad_27, ad_28, ad_31, ad_35, ad_43, ad_51, ad_107, ad_131, ad_311, ml_3, ml_6, ml_7, ml_60, ml_100, ml_2471, mq_12, ar_2, ar_3, ar_4, ar_5, ar_6, of_add, of_mul, on_succ, mt hτ (by omega : 28 + p < 79), Int32.le_refl, k1]
      exact hQ
    · have k1 := iff_false_intro (fun q => z (cb.mp q))
      simp only [if_neg z] at hQ
      have hpos : 0 < (spB τ ρ p (τ (28 + p))).2.2.2 * (spB τ ρ p (τ (28 + p))).2.1 := Nat.mul_pos (by omega) (by omega)
      have eg := gc1_g (a := (spB τ ρ p (τ (28 + p))).2.2.1 * (spB τ ρ p (τ (28 + p))).2.1 - (spB τ ρ p (τ (28 + p))).1 * (spB τ ρ p (τ (28 + p))).2.2.2) (b := (spB τ ρ p (τ (28 + p))).2.2.2 * (spB τ ρ p (τ (28 + p))).2.1) hpos
      have g1 := gc1_pos (a := (spB τ ρ p (τ (28 + p))).2.2.1 * (spB τ ρ p (τ (28 + p))).2.1 - (spB τ ρ p (τ (28 + p))).1 * (spB τ ρ p (τ (28 + p))).2.2.2) (b := (spB τ ρ p (τ (28 + p))).2.2.2 * (spB τ ρ p (τ (28 + p))).2.1)
      have g2 := Nat.le_trans (gc1_le (a := (spB τ ρ p (τ (28 + p))).2.2.1 * (spB τ ρ p (τ (28 + p))).2.1 - (spB τ ρ p (τ (28 + p))).1 * (spB τ ρ p (τ (28 + p))).2.2.2) hpos) m2
      rw [eg] at hQ g1 g2
      have cg : (Int64.ofNat (Nat.gcd ((spB τ ρ p (τ (28 + p))).2.2.1 * (spB τ ρ p (τ (28 + p))).2.1 - (spB τ ρ p (τ (28 + p))).1 * (spB τ ρ p (τ (28 + p))).2.2.2) ((spB τ ρ p (τ (28 + p))).2.2.2 * (spB τ ρ p (τ (28 + p))).2.1)) = 0) ↔ False := iff_false_intro (fun q => absurd ((ol_inj (b := 0) (by omega) (by omega)).mp q) (by omega))
      simp only [↓br_pos, ↓br_neg, ↓rF_I, ↓rF_L, ↓rF_R, ↓rF_N, rO_m, rB_m, ↓rI_m, wI_m, ↓rB2_m, ↓rB3_m, wB2_m, wB3_m, ↓rL_m, wL_m, ↓rQ_m, wQ_m, ↓lI_m, pI_m, pL_m, pR_m, sI_m, sBy_m, sBo_m, sL_m, sQ_m, fst_m, true_and, and_true, tg_some, ln_some, uI_1, uI_2, uL_1, uL_2, uL_3, uQ_1, uQ_2, uQ_3, rv_i, rv_l, rv_n, rv_b0, rv_b1, RMR, ne_eq, reduceCtorEq, not_false_eq_true, Option.getD_some, if_true, if_false, and_self, false_and, and_false, Nat.add_left_cancel_iff, Nat.add_eq_left, Nat.left_eq_add, Nat.one_ne_zero, Nat.reduceAdd, Nat.reduceLT, Nat.reduceLeDiff, Nat.reduceEqDiff, true_implies, false_implies, implies_true, Option.some.injEq, forall_eq', forall_eq, reduceCtorEq, brT, brF, br_s, i_10, i_01, ib_0_2, ib_1_2, tn_0, tn_1, Int32.le_refl, eq_self, rv_bN, rv_iM, RCM 81, RLY, lit_at hw, ad_2, ad_4, ad_6, ad_8, ad_10, ad_12, ad_16, ad_24, ad_27, ad_28, ad_31, ad_35, ad_43, ad_51, ad_107, ad_131, ad_311, ml_3, ml_6, ml_7, ml_60, ml_100, ml_2471, mq_12, ar_2, ar_3, ar_4, ar_5, ar_6, of_add, of_mul, on_succ, mt hτ (by omega : 28 + p < 79), Int32.le_refl, k1, ol_mul, ol_sub s2, g_207 (show (spB τ ρ p (τ (28 + p))).2.2.1 * (spB τ ρ p (τ (28 + p))).2.1 - (spB τ ρ p (τ (28 + p))).1 * (spB τ ρ p (τ (28 + p))).2.2.2 < 9223372036854775808 by omega) (show (spB τ ρ p (τ (28 + p))).2.2.2 * (spB τ ρ p (τ (28 + p))).2.1 < 9223372036854775808 by omega) hd1]
      refine b215_186 ?_
      simp only [↓br_pos, ↓br_neg, ↓rF_I, ↓rF_L, ↓rF_R, ↓rF_N, rO_m, rB_m, ↓rI_m, wI_m, ↓rB2_m, ↓rB3_m, wB2_m, wB3_m, ↓rL_m, wL_m, ↓rQ_m, wQ_m, ↓lI_m, pI_m, pL_m, pR_m, sI_m, sBy_m, sBo_m, sL_m, sQ_m, fst_m, true_and, and_true, tg_some, ln_some, uI_1, uI_2, uL_1, uL_2, uL_3, uQ_1, uQ_2, uQ_3, rv_i, rv_l, rv_n, rv_b0, rv_b1, RMR, ne_eq, reduceCtorEq, not_false_eq_true, Option.getD_some, if_true, if_false, and_self, false_and, and_false, Nat.add_left_cancel_iff, Nat.add_eq_left, Nat.left_eq_add, Nat.one_ne_zero, Nat.reduceAdd, Nat.reduceLT, Nat.reduceLeDiff, Nat.reduceEqDiff, true_implies, false_implies, implies_true, Option.some.injEq, forall_eq', forall_eq, reduceCtorEq, brT, brF, br_s, i_10, i_01, ib_0_2, ib_1_2, tn_0, tn_1, Int32.le_refl, eq_self, rv_bN, rv_iM, RCM 81, RLY, lit_at hw, cg, ol_div (show (spB τ ρ p (τ (28 + p))).2.2.1 * (spB τ ρ p (τ (28 + p))).2.1 - (spB τ ρ p (τ (28 + p))).1 * (spB τ ρ p (τ (28 + p))).2.2.2 < 9223372036854775808 by omega) (show Nat.gcd ((spB τ ρ p (τ (28 + p))).2.2.1 * (spB τ ρ p (τ (28 + p))).2.1 - (spB τ ρ p (τ (28 + p))).1 * (spB τ ρ p (τ (28 + p))).2.2.2) ((spB τ ρ p (τ (28 + p))).2.2.2 * (spB τ ρ p (τ (28 + p))).2.1) < 9223372036854775808 by omega), ol_div (show (spB τ ρ p (τ (28 + p))).2.2.2 * (spB τ ρ p (τ (28 + p))).2.1 < 9223372036854775808 by omega) (show Nat.gcd ((spB τ ρ p (τ (28 + p))).2.2.1 * (spB τ ρ p (τ (28 + p))).2.1 - (spB τ ρ p (τ (28 + p))).1 * (spB τ ρ p (τ (28 + p))).2.2.2) ((spB τ ρ p (τ (28 + p))).2.2.2 * (spB τ ρ p (τ (28 + p))).2.1) < 9223372036854775808 by omega)]
      exact hQ
  | succ r ih =>
    intro c σ hc hτ hρ
    have l1 : (Int32.ofNat (τ (28 + p)) ≤ Int32.ofNat c) ↔ False := iff_false_intro (fun q => absurd ((on_le (by omega) (by omega)).mp q) (by omega))
    obtain ⟨s1, s2, s3, s4, s5, s6⟩ := spB_I hv hr (by omega : p < 3) c (by omega)
    have gb := gOn_b (c := c) hv hr (by omega : p < 3) (by omega : c < 12)
    have hg : gOn τ ρ p c < 2147483648 := by omega
    have ht : tOn ρ p c < 2147483648 := by omega
    have m1 : gOn τ ρ p c * (spB τ ρ p c).2.1 ≤ 119868012 * 119988 := Nat.mul_le_mul gb.1 s4
    have m2 : (spB τ ρ p c).1 * tOn ρ p c ≤ 119868012 * 119988 := Nat.mul_le_mul s3 gb.2
    have m3 : gOn τ ρ p c * (spB τ ρ p c).2.2.2 ≤ 119868012 * 119988 := Nat.mul_le_mul gb.1 s6
    have m4 : (spB τ ρ p c).2.2.1 * tOn ρ p c ≤ 119868012 * 119988 := Nat.mul_le_mul s5 gb.2
    have cb := lg0 (a := (spB τ ρ p c).2.1) (by omega)
    have cd := lg0 (a := (spB τ ρ p c).2.2.2) (by omega)
    have cl := lgp (a := gOn τ ρ p c * (spB τ ρ p c).2.1) (b := (spB τ ρ p c).1 * tOn ρ p c) (by omega) (by omega)
    have cm := lgq (a := gOn τ ρ p c * (spB τ ρ p c).2.2.2) (b := (spB τ ρ p c).2.2.1 * tOn ρ p c) (by omega) (by omega)
    obtain ⟨σ', f', q'⟩ := ih (c + 1) (su σ (tOn ρ p c) (gOn τ ρ p c)) (by omega) (mT_c hτ (su_a (by omega))) (mR_c hρ (su_a (by omega)))
    refine ⟨σ', frZ_tr frZ_su f', fun hd hQ => ?_⟩
    have nx := q' hd hQ
    refine b215_31 ?_
    by_cases z : tOn ρ p c = 0
    · have k0 : (Int32.ofNat (tOn ρ p c) = 0) ↔ True := iff_true_intro (by rw [z]; rfl)
      have eB : spB τ ρ p (c + 1) = spB τ ρ p c := if_pos z
      rw [eB] at nx
      simp only [↓br_pos, ↓br_neg, ↓rF_I, ↓rF_L, ↓rF_R, ↓rF_N, rO_m, rB_m, ↓rI_m, wI_m, ↓rB2_m, ↓rB3_m, wB2_m, wB3_m, ↓rL_m, wL_m, ↓rQ_m, wQ_m, ↓lI_m, pI_m, pL_m, pR_m, sI_m, sBy_m, sBo_m, sL_m, sQ_m, fst_m, true_and, and_true, tg_some, ln_some, uI_1, uI_2, uL_1, uL_2, uL_3, uQ_1, uQ_2, uQ_3, rv_i, rv_l, rv_n, rv_b0, rv_b1, RMR, ne_eq, reduceCtorEq, not_false_eq_true, Option.getD_some, if_true, if_false, and_self, false_and, and_false, Nat.add_left_cancel_iff, Nat.add_eq_left, Nat.left_eq_add, Nat.one_ne_zero, Nat.reduceAdd, Nat.reduceLT, Nat.reduceLeDiff, Nat.reduceEqDiff, true_implies, false_implies, implies_true, Option.some.injEq, forall_eq', forall_eq, reduceCtorEq, brT, brF, br_s, i_10, i_01, ib_0_2, ib_1_2, tn_0, tn_1, Int32.le_refl, eq_self, rv_bN, rv_iM, RCM 81, RLY, lit_at hw, ad_2, ad_4, ad_6, ad_8, ad_10, ad_12, ad_16, ad_24, ad_27, ad_28, ad_31, ad_35, ad_43, ad_51, ad_107, ad_131, ad_311, ml_3, ml_6, ml_7, ml_60, ml_100, ml_2471, mq_12, ar_2, ar_3, ar_4, ar_5, ar_6, of_add, of_mul, on_succ, mt hτ (by omega : 28 + p < 79), l1, g_158c hw hτ hρ hv hr (by omega : p < 3) (by omega : c < 12) hd, su_16, su_17, i64_of hg, i64_of ht, ol_mul, on_succ, k0]
      exact b215_146 nx
    · have k0 : (Int32.ofNat (tOn ρ p c) = 0) ↔ False := iff_false_intro (fun q => z ((of_eq0 (by omega)).mp q))
      have eB : spB τ ρ p (c + 1) = ⟨if (spB τ ρ p c).2.1 = 0 ∨ gOn τ ρ p c * (spB τ ρ p c).2.1 < (spB τ ρ p c).1 * tOn ρ p c then gOn τ ρ p c else (spB τ ρ p c).1, if (spB τ ρ p c).2.1 = 0 ∨ gOn τ ρ p c * (spB τ ρ p c).2.1 < (spB τ ρ p c).1 * tOn ρ p c then tOn ρ p c else (spB τ ρ p c).2.1, if (spB τ ρ p c).2.2.2 = 0 ∨ (spB τ ρ p c).2.2.1 * tOn ρ p c < gOn τ ρ p c * (spB τ ρ p c).2.2.2 then gOn τ ρ p c else (spB τ ρ p c).2.2.1, if (spB τ ρ p c).2.2.2 = 0 ∨ (spB τ ρ p c).2.2.1 * tOn ρ p c < gOn τ ρ p c * (spB τ ρ p c).2.2.2 then tOn ρ p c else (spB τ ρ p c).2.2.2⟩ := if_neg z
      rw [eB] at nx
      by_cases v : (spB τ ρ p c).2.1 = 0
      · have k1 := iff_true_intro (cb.mpr v)
        by_cases y : (spB τ ρ p c).2.2.2 = 0
        · have k3 := iff_true_intro (cd.mpr y)
          simp only [if_pos (Or.inl v : (spB τ ρ p c).2.1 = 0 ∨ gOn τ ρ p c * (spB τ ρ p c).2.1 < (spB τ ρ p c).1 * tOn ρ p c), if_pos (Or.inl y : (spB τ ρ p c).2.2.2 = 0 ∨ (spB τ ρ p c).2.2.1 * tOn ρ p c < gOn τ ρ p c * (spB τ ρ p c).2.2.2)] at nx
          simp only [↓br_pos, ↓br_neg, ↓rF_I, ↓rF_L, ↓rF_R, ↓rF_N, rO_m, rB_m, ↓rI_m, wI_m, ↓rB2_m, ↓rB3_m, wB2_m, wB3_m, ↓rL_m, wL_m, ↓rQ_m, wQ_m, ↓lI_m, pI_m, pL_m, pR_m, sI_m, sBy_m, sBo_m, sL_m, sQ_m, fst_m, true_and, and_true, tg_some, ln_some, uI_1, uI_2, uL_1, uL_2, uL_3, uQ_1, uQ_2, uQ_3, rv_i, rv_l, rv_n, rv_b0, rv_b1, RMR, ne_eq, reduceCtorEq, not_false_eq_true, Option.getD_some, if_true, if_false, and_self, false_and, and_false, Nat.add_left_cancel_iff, Nat.add_eq_left, Nat.left_eq_add, Nat.one_ne_zero, Nat.reduceAdd, Nat.reduceLT, Nat.reduceLeDiff, Nat.reduceEqDiff, true_implies, false_implies, implies_true, Option.some.injEq, forall_eq', forall_eq, reduceCtorEq, brT, brF, br_s, i_10, i_01, ib_0_2, ib_1_2, tn_0, tn_1, Int32.le_refl, eq_self, rv_bN, rv_iM, RCM 81, RLY, lit_at hw, ad_2, ad_4, ad_6, ad_8, ad_10, ad_12, ad_16, ad_24, ad_27, ad_28, ad_31, ad_35, ad_43, ad_51, ad_107, ad_131, ad_311, ml_3, ml_6, ml_7, ml_60, ml_100, ml_2471, mq_12, ar_2, ar_3, ar_4, ar_5, ar_6, of_add, of_mul, on_succ, mt hτ (by omega : 28 + p < 79), l1, g_158c hw hτ hρ hv hr (by omega : p < 3) (by omega : c < 12) hd, su_16, su_17, i64_of hg, i64_of ht, ol_mul, on_succ, k0, k1, k3]
          refine b215_136 ?_
          simp only [↓br_pos, ↓br_neg, ↓rF_I, ↓rF_L, ↓rF_R, ↓rF_N, rO_m, rB_m, ↓rI_m, wI_m, ↓rB2_m, ↓rB3_m, wB2_m, wB3_m, ↓rL_m, wL_m, ↓rQ_m, wQ_m, ↓lI_m, pI_m, pL_m, pR_m, sI_m, sBy_m, sBo_m, sL_m, sQ_m, fst_m, true_and, and_true, tg_some, ln_some, uI_1, uI_2, uL_1, uL_2, uL_3, uQ_1, uQ_2, uQ_3, rv_i, rv_l, rv_n, rv_b0, rv_b1, RMR, ne_eq, reduceCtorEq, not_false_eq_true, Option.getD_some, if_true, if_false, and_self, false_and, and_false, Nat.add_left_cancel_iff, Nat.add_eq_left, Nat.left_eq_add, Nat.one_ne_zero, Nat.reduceAdd, Nat.reduceLT, Nat.reduceLeDiff, Nat.reduceEqDiff, true_implies, false_implies, implies_true, Option.some.injEq, forall_eq', forall_eq, reduceCtorEq, brT, brF, br_s, i_10, i_01, ib_0_2, ib_1_2, tn_0, tn_1, Int32.le_refl, eq_self, rv_bN, rv_iM, RCM 81, RLY, lit_at hw, su_17, i64_of hg, on_succ]
          exact b215_146 nx
        · have k3 := iff_false_intro (fun q => y (cd.mp q))
          by_cases x : (spB τ ρ p c).2.2.1 * tOn ρ p c < gOn τ ρ p c * (spB τ ρ p c).2.2.2
          · have k4 := iff_false_intro (fun q => absurd (cm.mp q) (by omega))
            simp only [if_pos (Or.inl v : (spB τ ρ p c).2.1 = 0 ∨ gOn τ ρ p c * (spB τ ρ p c).2.1 < (spB τ ρ p c).1 * tOn ρ p c), if_pos (Or.inr x : (spB τ ρ p c).2.2.2 = 0 ∨ (spB τ ρ p c).2.2.1 * tOn ρ p c < gOn τ ρ p c * (spB τ ρ p c).2.2.2)] at nx
            simp only [↓br_pos, ↓br_neg, ↓rF_I, ↓rF_L, ↓rF_R, ↓rF_N, rO_m, rB_m, ↓rI_m, wI_m, ↓rB2_m, ↓rB3_m, wB2_m, wB3_m, ↓rL_m, wL_m, ↓rQ_m, wQ_m, ↓lI_m, pI_m, pL_m, pR_m, sI_m, sBy_m, sBo_m, sL_m, sQ_m, fst_m, true_and, and_true, tg_some, ln_some, uI_1, uI_2, uL_1, uL_2, uL_3, uQ_1, uQ_2, uQ_3, rv_i, rv_l, rv_n, rv_b0, rv_b1, RMR, ne_eq, reduceCtorEq, not_false_eq_true, Option.getD_some, if_true, if_false, and_self, false_and, and_false, Nat.add_left_cancel_iff, Nat.add_eq_left, Nat.left_eq_add, Nat.one_ne_zero, Nat.reduceAdd, Nat.reduceLT, Nat.reduceLeDiff, Nat.reduceEqDiff, true_implies, false_implies, implies_true, Option.some.injEq, forall_eq', forall_eq, reduceCtorEq, brT, brF, br_s, i_10, i_01, ib_0_2, ib_1_2, tn_0, tn_1, Int32.le_refl, eq_self, rv_bN, rv_iM, RCM 81, RLY, lit_at hw, ad_2, ad_4, ad_6, ad_8, ad_10, ad_12, ad_16, ad_24, ad_27, ad_28, ad_31, ad_35, ad_43, ad_51, ad_107, ad_131, ad_311, ml_3, ml_6, ml_7, ml_60, ml_100, ml_2471, mq_12, ar_2, ar_3, ar_4, ar_5, ar_6, of_add, of_mul, on_succ, mt hτ (by omega : 28 + p < 79), l1, g_158c hw hτ hρ hv hr (by omega : p < 3) (by omega : c < 12) hd, su_16, su_17, i64_of hg, i64_of ht, ol_mul, on_succ, k0, k1, k3, k4]
            refine b215_136 ?_
            simp only [↓br_pos, ↓br_neg, ↓rF_I, ↓rF_L, ↓rF_R, ↓rF_N, rO_m, rB_m, ↓rI_m, wI_m, ↓rB2_m, ↓rB3_m, wB2_m, wB3_m, ↓rL_m, wL_m, ↓rQ_m, wQ_m, ↓lI_m, pI_m, pL_m, pR_m, sI_m, sBy_m, sBo_m, sL_m, sQ_m, fst_m, true_and, and_true, tg_some, ln_some, uI_1, uI_2, uL_1, uL_2, uL_3, uQ_1, uQ_2, uQ_3, rv_i, rv_l, rv_n, rv_b0, rv_b1, RMR, ne_eq, reduceCtorEq, not_false_eq_true, Option.getD_some, if_true, if_false, and_self, false_and, and_false, Nat.add_left_cancel_iff, Nat.add_eq_left, Nat.left_eq_add, Nat.one_ne_zero, Nat.reduceAdd, Nat.reduceLT, Nat.reduceLeDiff, Nat.reduceEqDiff, true_implies, false_implies, implies_true, Option.some.injEq, forall_eq', forall_eq, reduceCtorEq, brT, brF, br_s, i_10, i_01, ib_0_2, ib_1_2, tn_0, tn_1, Int32.le_refl, eq_self, rv_bN, rv_iM, RCM 81, RLY, lit_at hw, su_17, i64_of hg, on_succ]
            exact b215_146 nx
          · have k4 := iff_true_intro (cm.mpr (by omega))
            simp only [if_pos (Or.inl v : (spB τ ρ p c).2.1 = 0 ∨ gOn τ ρ p c * (spB τ ρ p c).2.1 < (spB τ ρ p c).1 * tOn ρ p c), if_neg (fun q => q.elim y x : ¬ ((spB τ ρ p c).2.2.2 = 0 ∨ (spB τ ρ p c).2.2.1 * tOn ρ p c < gOn τ ρ p c * (spB τ ρ p c).2.2.2))] at nx
            simp only [↓br_pos, ↓br_neg, ↓rF_I, ↓rF_L, ↓rF_R, ↓rF_N, rO_m, rB_m, ↓rI_m, wI_m, ↓rB2_m, ↓rB3_m, wB2_m, wB3_m, ↓rL_m, wL_m, ↓rQ_m, wQ_m, ↓lI_m, pI_m, pL_m, pR_m, sI_m, sBy_m, sBo_m, sL_m, sQ_m, fst_m, true_and, and_true, tg_some, ln_some, uI_1, uI_2, uL_1, uL_2, uL_3, uQ_1, uQ_2, uQ_3, rv_i, rv_l, rv_n, rv_b0, rv_b1, RMR, ne_eq, reduceCtorEq, not_false_eq_true, Option.getD_some, if_true, if_false, and_self, false_and, and_false, Nat.add_left_cancel_iff, Nat.add_eq_left, Nat.left_eq_add, Nat.one_ne_zero, Nat.reduceAdd, Nat.reduceLT, Nat.reduceLeDiff, Nat.reduceEqDiff, true_implies, false_implies, implies_true, Option.some.injEq, forall_eq', forall_eq, reduceCtorEq, brT, brF, br_s, i_10, i_01, ib_0_2, ib_1_2, tn_0, tn_1, Int32.le_refl, eq_self, rv_bN, rv_iM, RCM 81, RLY, lit_at hw, ad_2, ad_4, ad_6, ad_8, ad_10, ad_12, ad_16, ad_24, ad_27, ad_28, ad_31, ad_35, ad_43, ad_51, ad_107, ad_131, ad_311, ml_3, ml_6, ml_7, ml_60, ml_100, ml_2471, mq_12, ar_2, ar_3, ar_4, ar_5, ar_6, of_add, of_mul, on_succ, mt hτ (by omega : 28 + p < 79), l1, g_158c hw hτ hρ hv hr (by omega : p < 3) (by omega : c < 12) hd, su_16, su_17, i64_of hg, i64_of ht, ol_mul, on_succ, k0, k1, k3, k4]
            exact b215_146 nx
      · have k1 := iff_false_intro (fun q => v (cb.mp q))
        by_cases u : gOn τ ρ p c * (spB τ ρ p c).2.1 < (spB τ ρ p c).1 * tOn ρ p c
        · have k2 := iff_false_intro (fun q => absurd (cl.mp q) (by omega))
          by_cases y : (spB τ ρ p c).2.2.2 = 0
          · have k3 := iff_true_intro (cd.mpr y)
            simp only [if_pos (Or.inr u : (spB τ ρ p c).2.1 = 0 ∨ gOn τ ρ p c * (spB τ ρ p c).2.1 < (spB τ ρ p c).1 * tOn ρ p c), if_pos (Or.inl y : (spB τ ρ p c).2.2.2 = 0 ∨ (spB τ ρ p c).2.2.1 * tOn ρ p c < gOn τ ρ p c * (spB τ ρ p c).2.2.2)] at nx
            simp only [↓br_pos, ↓br_neg, ↓rF_I, ↓rF_L, ↓rF_R, ↓rF_N, rO_m, rB_m, ↓rI_m, wI_m, ↓rB2_m, ↓rB3_m, wB2_m, wB3_m, ↓rL_m, wL_m, ↓rQ_m, wQ_m, ↓lI_m, pI_m, pL_m, pR_m, sI_m, sBy_m, sBo_m, sL_m, sQ_m, fst_m, true_and, and_true, tg_some, ln_some, uI_1, uI_2, uL_1, uL_2, uL_3, uQ_1, uQ_2, uQ_3, rv_i, rv_l, rv_n, rv_b0, rv_b1, RMR, ne_eq, reduceCtorEq, not_false_eq_true, Option.getD_some, if_true, if_false, and_self, false_and, and_false, Nat.add_left_cancel_iff, Nat.add_eq_left, Nat.left_eq_add, Nat.one_ne_zero, Nat.reduceAdd, Nat.reduceLT, Nat.reduceLeDiff, Nat.reduceEqDiff, true_implies, false_implies, implies_true, Option.some.injEq, forall_eq', forall_eq, reduceCtorEq, brT, brF, br_s, i_10, i_01, ib_0_2, ib_1_2, tn_0, tn_1, Int32.le_refl, eq_self, rv_bN, rv_iM, RCM 81, RLY, lit_at hw, ad_2, ad_4, ad_6, ad_8, ad_10, ad_12, ad_16, ad_24, ad_27, ad_28, ad_31, ad_35, ad_43, ad_51, ad_107, ad_131, ad_311, ml_3, ml_6, ml_7, ml_60, ml_100, ml_2471, mq_12, ar_2, ar_3, ar_4, ar_5, ar_6, of_add, of_mul, on_succ, mt hτ (by omega : 28 + p < 79), l1, g_158c hw hτ hρ hv hr (by omega : p < 3) (by omega : c < 12) hd, su_16, su_17, i64_of hg, i64_of ht, ol_mul, on_succ, k0, k1, k2, k3]
            refine b215_136 ?_
            simp only [↓br_pos, ↓br_neg, ↓rF_I, ↓rF_L, ↓rF_R, ↓rF_N, rO_m, rB_m, ↓rI_m, wI_m, ↓rB2_m, ↓rB3_m, wB2_m, wB3_m, ↓rL_m, wL_m, ↓rQ_m, wQ_m, ↓lI_m, pI_m, pL_m, pR_m, sI_m, sBy_m, sBo_m, sL_m, sQ_m, fst_m, true_and, and_true, tg_some, ln_some, uI_1, uI_2, uL_1, uL_2, uL_3, uQ_1, uQ_2, uQ_3, rv_i, rv_l, rv_n, rv_b0, rv_b1, RMR, ne_eq, reduceCtorEq, not_false_eq_true, Option.getD_some, if_true, if_false, and_self, false_and, and_false, Nat.add_left_cancel_iff, Nat.add_eq_left, Nat.left_eq_add, Nat.one_ne_zero, Nat.reduceAdd, Nat.reduceLT, Nat.reduceLeDiff, Nat.reduceEqDiff, true_implies, false_implies, implies_true, Option.some.injEq, forall_eq', forall_eq, reduceCtorEq, brT, brF, br_s, i_10, i_01, ib_0_2, ib_1_2, tn_0, tn_1, Int32.le_refl, eq_self, rv_bN, rv_iM, RCM 81, RLY, lit_at hw, su_17, i64_of hg, on_succ]
            exact b215_146 nx
          · have k3 := iff_false_intro (fun q => y (cd.mp q))
            by_cases x : (spB τ ρ p c).2.2.1 * tOn ρ p c < gOn τ ρ p c * (spB τ ρ p c).2.2.2
            · have k4 := iff_false_intro (fun q => absurd (cm.mp q) (by omega))
              simp only [if_pos (Or.inr u : (spB τ ρ p c).2.1 = 0 ∨ gOn τ ρ p c * (spB τ ρ p c).2.1 < (spB τ ρ p c).1 * tOn ρ p c), if_pos (Or.inr x : (spB τ ρ p c).2.2.2 = 0 ∨ (spB τ ρ p c).2.2.1 * tOn ρ p c < gOn τ ρ p c * (spB τ ρ p c).2.2.2)] at nx
              simp only [↓br_pos, ↓br_neg, ↓rF_I, ↓rF_L, ↓rF_R, ↓rF_N, rO_m, rB_m, ↓rI_m, wI_m, ↓rB2_m, ↓rB3_m, wB2_m, wB3_m, ↓rL_m, wL_m, ↓rQ_m, wQ_m, ↓lI_m, pI_m, pL_m, pR_m, sI_m, sBy_m, sBo_m, sL_m, sQ_m, fst_m, true_and, and_true, tg_some, ln_some, uI_1, uI_2, uL_1, uL_2, uL_3, uQ_1, uQ_2, uQ_3, rv_i, rv_l, rv_n, rv_b0, rv_b1, RMR, ne_eq, reduceCtorEq, not_false_eq_true, Option.getD_some, if_true, if_false, and_self, false_and, and_false, Nat.add_left_cancel_iff, Nat.add_eq_left, Nat.left_eq_add, Nat.one_ne_zero, Nat.reduceAdd, Nat.reduceLT, Nat.reduceLeDiff, Nat.reduceEqDiff, true_implies, false_implies, implies_true, Option.some.injEq, forall_eq', forall_eq, reduceCtorEq, brT, brF, br_s, i_10, i_01, ib_0_2, ib_1_2, tn_0, tn_1, Int32.le_refl, eq_self, rv_bN, rv_iM, RCM 81, RLY, lit_at hw, ad_2, ad_4, ad_6, ad_8, ad_10, ad_12, ad_16, ad_24, ad_27, ad_28, ad_31, ad_35, ad_43, ad_51, ad_107, ad_131, ad_311, ml_3, ml_6, ml_7, ml_60, ml_100, ml_2471, mq_12, ar_2, ar_3, ar_4, ar_5, ar_6, of_add, of_mul, on_succ, mt hτ (by omega : 28 + p < 79), l1, g_158c hw hτ hρ hv hr (by omega : p < 3) (by omega : c < 12) hd, su_16, su_17, i64_of hg, i64_of ht, ol_mul, on_succ, k0, k1, k2, k3, k4]
              refine b215_136 ?_
              simp only [↓br_pos, ↓br_neg, ↓rF_I, ↓rF_L, ↓rF_R, ↓rF_N, rO_m, rB_m, ↓rI_m, wI_m, ↓rB2_m, ↓rB3_m, wB2_m, wB3_m, ↓rL_m, wL_m, ↓rQ_m, wQ_m, ↓lI_m, pI_m, pL_m, pR_m, sI_m, sBy_m, sBo_m, sL_m, sQ_m, fst_m, true_and, and_true, tg_some, ln_some, uI_1, uI_2, uL_1, uL_2, uL_3, uQ_1, uQ_2, uQ_3, rv_i, rv_l, rv_n, rv_b0, rv_b1, RMR, ne_eq, reduceCtorEq, not_false_eq_true, Option.getD_some, if_true, if_false, and_self, false_and, and_false, Nat.add_left_cancel_iff, Nat.add_eq_left, Nat.left_eq_add, Nat.one_ne_zero, Nat.reduceAdd, Nat.reduceLT, Nat.reduceLeDiff, Nat.reduceEqDiff, true_implies, false_implies, implies_true, Option.some.injEq, forall_eq', forall_eq, reduceCtorEq, brT, brF, br_s, i_10, i_01, ib_0_2, ib_1_2, tn_0, tn_1, Int32.le_refl, eq_self, rv_bN, rv_iM, RCM 81, RLY, lit_at hw, su_17, i64_of hg, on_succ]
              exact b215_146 nx
            · have k4 := iff_true_intro (cm.mpr (by omega))
              simp only [if_pos (Or.inr u : (spB τ ρ p c).2.1 = 0 ∨ gOn τ ρ p c * (spB τ ρ p c).2.1 < (spB τ ρ p c).1 * tOn ρ p c), if_neg (fun q => q.elim y x : ¬ ((spB τ ρ p c).2.2.2 = 0 ∨ (spB τ ρ p c).2.2.1 * tOn ρ p c < gOn τ ρ p c * (spB τ ρ p c).2.2.2))] at nx
              simp only [↓br_pos, ↓br_neg, ↓rF_I, ↓rF_L, ↓rF_R, ↓rF_N, rO_m, rB_m, ↓rI_m, wI_m, ↓rB2_m, ↓rB3_m, wB2_m, wB3_m, ↓rL_m, wL_m, ↓rQ_m, wQ_m, ↓lI_m, pI_m, pL_m, pR_m, sI_m, sBy_m, sBo_m, sL_m, sQ_m, fst_m, true_and, and_true, tg_some, ln_some, uI_1, uI_2, uL_1, uL_2, uL_3, uQ_1, uQ_2, uQ_3, rv_i, rv_l, rv_n, rv_b0, rv_b1, RMR, ne_eq, reduceCtorEq, not_false_eq_true, Option.getD_some, if_true, if_false, and_self, false_and, and_false, Nat.add_left_cancel_iff, Nat.add_eq_left, Nat.left_eq_add, Nat.one_ne_zero, Nat.reduceAdd, Nat.reduceLT, Nat.reduceLeDiff, Nat.reduceEqDiff, true_implies, false_implies, implies_true, Option.some.injEq, forall_eq', forall_eq, reduceCtorEq, brT, brF, br_s, i_10, i_01, ib_0_2, ib_1_2, tn_0, tn_1, Int32.le_refl, eq_self, rv_bN, rv_iM, RCM 81, RLY, lit_at hw, ad_2, ad_4, ad_6, ad_8, ad_10, ad_12, ad_16, ad_24, ad_27, ad_28, ad_31, ad_35, ad_43, ad_51, ad_107, ad_131, ad_311, ml_3, ml_6, ml_7, ml_60, ml_100, ml_2471, mq_12, ar_2, ar_3, ar_4, ar_5, ar_6, of_add, of_mul, on_succ, mt hτ (by omega : 28 + p < 79), l1, g_158c hw hτ hρ hv hr (by omega : p < 3) (by omega : c < 12) hd, su_16, su_17, i64_of hg, i64_of ht, ol_mul, on_succ, k0, k1, k2, k3, k4]
              exact b215_146 nx
        · have k2 := iff_true_intro (cl.mpr (by omega))
          by_cases y : (spB τ ρ p c).2.2.2 = 0
          · have k3 := iff_true_intro (cd.mpr y)
            simp only [if_neg (fun q => q.elim v u : ¬ ((spB τ ρ p c).2.1 = 0 ∨ gOn τ ρ p c * (spB τ ρ p c).2.1 < (spB τ ρ p c).1 * tOn ρ p c)), if_pos (Or.inl y : (spB τ ρ p c).2.2.2 = 0 ∨ (spB τ ρ p c).2.2.1 * tOn ρ p c < gOn τ ρ p c * (spB τ ρ p c).2.2.2)] at nx
            simp only [↓br_pos, ↓br_neg, ↓rF_I, ↓rF_L, ↓rF_R, ↓rF_N, rO_m, rB_m, ↓rI_m, wI_m, ↓rB2_m, ↓rB3_m, wB2_m, wB3_m, ↓rL_m, wL_m, ↓rQ_m, wQ_m, ↓lI_m, pI_m, pL_m, pR_m, sI_m, sBy_m, sBo_m, sL_m, sQ_m, fst_m, true_and, and_true, tg_some, ln_some, uI_1, uI_2, uL_1, uL_2, uL_3, uQ_1, uQ_2, uQ_3, rv_i, rv_l, rv_n, rv_b0, rv_b1, RMR, ne_eq, reduceCtorEq, not_false_eq_true, Option.getD_some, if_true, if_false, and_self, false_and, and_false, Nat.add_left_cancel_iff, Nat.add_eq_left, Nat.left_eq_add, Nat.one_ne_zero, Nat.reduceAdd, Nat.reduceLT, Nat.reduceLeDiff, Nat.reduceEqDiff, true_implies, false_implies, implies_true, Option.some.injEq, forall_eq', forall_eq, reduceCtorEq, brT, brF, br_s, i_10, i_01, ib_0_2, ib_1_2, tn_0, tn_1, Int32.le_refl, eq_self, rv_bN, rv_iM, RCM 81, RLY, lit_at hw, ad_2, ad_4, ad_6, ad_8, ad_10, ad_12, ad_16, ad_24, ad_27, ad_28, ad_31, ad_35, ad_43, ad_51, ad_107, ad_131, ad_311, ml_3, ml_6, ml_7, ml_60, ml_100, ml_2471, mq_12, ar_2, ar_3, ar_4, ar_5, ar_6, of_add, of_mul, on_succ, mt hτ (by omega : 28 + p < 79), l1, g_158c hw hτ hρ hv hr (by omega : p < 3) (by omega : c < 12) hd, su_16, su_17, i64_of hg, i64_of ht, ol_mul, on_succ, k0, k1, k2, k3]
            refine b215_136 ?_
            simp only [↓br_pos, ↓br_neg, ↓rF_I, ↓rF_L, ↓rF_R, ↓rF_N, rO_m, rB_m, ↓rI_m, wI_m, ↓rB2_m, ↓rB3_m, wB2_m, wB3_m, ↓rL_m, wL_m, ↓rQ_m, wQ_m, ↓lI_m, pI_m, pL_m, pR_m, sI_m, sBy_m, sBo_m, sL_m, sQ_m, fst_m, true_and, and_true, tg_some, ln_some, uI_1, uI_2, uL_1, uL_2, uL_3, uQ_1, uQ_2, uQ_3, rv_i, rv_l, rv_n, rv_b0, rv_b1, RMR, ne_eq, reduceCtorEq, not_false_eq_true, Option.getD_some, if_true, if_false, and_self, false_and, and_false, Nat.add_left_cancel_iff, Nat.add_eq_left, Nat.left_eq_add, Nat.one_ne_zero, Nat.reduceAdd, Nat.reduceLT, Nat.reduceLeDiff, Nat.reduceEqDiff, true_implies, false_implies, implies_true, Option.some.injEq, forall_eq', forall_eq, reduceCtorEq, brT, brF, br_s, i_10, i_01, ib_0_2, ib_1_2, tn_0, tn_1, Int32.le_refl, eq_self, rv_bN, rv_iM, RCM 81, RLY, lit_at hw, su_17, i64_of hg, on_succ]
            exact b215_146 nx
          · have k3 := iff_false_intro (fun q => y (cd.mp q))
            by_cases x : (spB τ ρ p c).2.2.1 * tOn ρ p c < gOn τ ρ p c * (spB τ ρ p c).2.2.2
            · have k4 := iff_false_intro (fun q => absurd (cm.mp q) (by omega))
              simp only [if_neg (fun q => q.elim v u : ¬ ((spB τ ρ p c).2.1 = 0 ∨ gOn τ ρ p c * (spB τ ρ p c).2.1 < (spB τ ρ p c).1 * tOn ρ p c)), if_pos (Or.inr x : (spB τ ρ p c).2.2.2 = 0 ∨ (spB τ ρ p c).2.2.1 * tOn ρ p c < gOn τ ρ p c * (spB τ ρ p c).2.2.2)] at nx
              simp only [↓br_pos, ↓br_neg, ↓rF_I, ↓rF_L, ↓rF_R, ↓rF_N, rO_m, rB_m, ↓rI_m, wI_m, ↓rB2_m, ↓rB3_m, wB2_m, wB3_m, ↓rL_m, wL_m, ↓rQ_m, wQ_m, ↓lI_m, pI_m, pL_m, pR_m, sI_m, sBy_m, sBo_m, sL_m, sQ_m, fst_m, true_and, and_true, tg_some, ln_some, uI_1, uI_2, uL_1, uL_2, uL_3, uQ_1, uQ_2, uQ_3, rv_i, rv_l, rv_n, rv_b0, rv_b1, RMR, ne_eq, reduceCtorEq, not_false_eq_true, Option.getD_some, if_true, if_false, and_self, false_and, and_false, Nat.add_left_cancel_iff, Nat.add_eq_left, Nat.left_eq_add, Nat.one_ne_zero, Nat.reduceAdd, Nat.reduceLT, Nat.reduceLeDiff, Nat.reduceEqDiff, true_implies, false_implies, implies_true, Option.some.injEq, forall_eq', forall_eq, reduceCtorEq, brT, brF, br_s, i_10, i_01, ib_0_2, ib_1_2, tn_0, tn_1, Int32.le_refl, eq_self, rv_bN, rv_iM, RCM 81, RLY, lit_at hw, ad_2, ad_4, ad_6, ad_8, ad_10, ad_12, ad_16, ad_24, ad_27, ad_28, ad_31, ad_35, ad_43, ad_51, ad_107, ad_131, ad_311, ml_3, ml_6, ml_7, ml_60, ml_100, ml_2471, mq_12, ar_2, ar_3, ar_4, ar_5, ar_6, of_add, of_mul, on_succ, mt hτ (by omega : 28 + p < 79), l1, g_158c hw hτ hρ hv hr (by omega : p < 3) (by omega : c < 12) hd, su_16, su_17, i64_of hg, i64_of ht, ol_mul, on_succ, k0, k1, k2, k3, k4]
              refine b215_136 ?_
              simp only [↓br_pos, ↓br_neg, ↓rF_I, ↓rF_L, ↓rF_R, ↓rF_N, rO_m, rB_m, ↓rI_m, wI_m, ↓rB2_m, ↓rB3_m, wB2_m, wB3_m, ↓rL_m, wL_m, ↓rQ_m, wQ_m, ↓lI_m, pI_m, pL_m, pR_m, sI_m, sBy_m, sBo_m, sL_m, sQ_m, fst_m, true_and, and_true, tg_some, ln_some, uI_1, uI_2, uL_1, uL_2, uL_3, uQ_1, uQ_2, uQ_3, rv_i, rv_l, rv_n, rv_b0, rv_b1, RMR, ne_eq, reduceCtorEq, not_false_eq_true, Option.getD_some, if_true, if_false, and_self, false_and, and_false, Nat.add_left_cancel_iff, Nat.add_eq_left, Nat.left_eq_add, Nat.one_ne_zero, Nat.reduceAdd, Nat.reduceLT, Nat.reduceLeDiff, Nat.reduceEqDiff, true_implies, false_implies, implies_true, Option.some.injEq, forall_eq', forall_eq, reduceCtorEq, brT, brF, br_s, i_10, i_01, ib_0_2, ib_1_2, tn_0, tn_1, Int32.le_refl, eq_self, rv_bN, rv_iM, RCM 81, RLY, lit_at hw, su_17, i64_of hg, on_succ]
              exact b215_146 nx
            · have k4 := iff_true_intro (cm.mpr (by omega))
              simp only [if_neg (fun q => q.elim v u : ¬ ((spB τ ρ p c).2.1 = 0 ∨ gOn τ ρ p c * (spB τ ρ p c).2.1 < (spB τ ρ p c).1 * tOn ρ p c)), if_neg (fun q => q.elim y x : ¬ ((spB τ ρ p c).2.2.2 = 0 ∨ (spB τ ρ p c).2.2.1 * tOn ρ p c < gOn τ ρ p c * (spB τ ρ p c).2.2.2))] at nx
              simp only [↓br_pos, ↓br_neg, ↓rF_I, ↓rF_L, ↓rF_R, ↓rF_N, rO_m, rB_m, ↓rI_m, wI_m, ↓rB2_m, ↓rB3_m, wB2_m, wB3_m, ↓rL_m, wL_m, ↓rQ_m, wQ_m, ↓lI_m, pI_m, pL_m, pR_m, sI_m, sBy_m, sBo_m, sL_m, sQ_m, fst_m, true_and, and_true, tg_some, ln_some, uI_1, uI_2, uL_1, uL_2, uL_3, uQ_1, uQ_2, uQ_3, rv_i, rv_l, rv_n, rv_b0, rv_b1, RMR, ne_eq, reduceCtorEq, not_false_eq_true, Option.getD_some, if_true, if_false, and_self, false_and, and_false, Nat.add_left_cancel_iff, Nat.add_eq_left, Nat.left_eq_add, Nat.one_ne_zero, Nat.reduceAdd, Nat.reduceLT, Nat.reduceLeDiff, Nat.reduceEqDiff, true_implies, false_implies, implies_true, Option.some.injEq, forall_eq', forall_eq, reduceCtorEq, brT, brF, br_s, i_10, i_01, ib_0_2, ib_1_2, tn_0, tn_1, Int32.le_refl, eq_self, rv_bN, rv_iM, RCM 81, RLY, lit_at hw, ad_2, ad_4, ad_6, ad_8, ad_10, ad_12, ad_16, ad_24, ad_27, ad_28, ad_31, ad_35, ad_43, ad_51, ad_107, ad_131, ad_311, ml_3, ml_6, ml_7, ml_60, ml_100, ml_2471, mq_12, ar_2, ar_3, ar_4, ar_5, ar_6, of_add, of_mul, on_succ, mt hτ (by omega : 28 + p < 79), l1, g_158c hw hτ hρ hv hr (by omega : p < 3) (by omega : c < 12) hd, su_16, su_17, i64_of hg, i64_of ht, ol_mul, on_succ, k0, k1, k2, k3, k4]
              exact b215_146 nx
theorem m_215z {w : mT} {σ : mS} {tp n : Nat} {t : Nat → Nat} {τ ρ : Rw} {bk : Nat → Rw} {has : Nat → Bool} {im : Nat → Rw} {p : Int32} {D : Nat} {K : Int64 → Hp → Prop} (h : mIn w σ tp t τ ρ n bk has im) (hn1 : bN p (τ 1) ≠ 1) (hD : 3 ≤ D) : wpL D 215 [.ref 81, .int p] (mW w σ) K ↔ K (-1) (mW w (uI σ 81 0 0)) := by
  have M := h
  obtain ⟨hw, hτ, hρ, hv, hr, hp2, htp, htb, htl, hn, hn12, hbk, him⟩ := h
  have M0 := mIn_Z M (frZ_0 (j := 0) (x := 0) (by omega))
  obtain ⟨_, hτ0, hρ0, _, _, hp20, _, htb0, _, hn0, _, hbk0, him0⟩ := M0
  have M0 := mIn_Z M (frZ_0 (j := 0) (x := 0) (by omega))
  refine cL_of (m := 2) (fun d hd Q hQ => ?_) rfl hD
  have z := bN_01.resolve_right hn1
  refine b215_0 ?_
  simp only [↓br_pos, ↓br_neg, ↓rF_I, ↓rF_L, ↓rF_R, ↓rF_N, rO_m, rB_m, ↓rI_m, wI_m, ↓rB2_m, ↓rB3_m, wB2_m, wB3_m, ↓rL_m, wL_m, ↓rQ_m, wQ_m, ↓lI_m, pI_m, pL_m, pR_m, sI_m, sBy_m, sBo_m, sL_m, sQ_m, fst_m, true_and, and_true, tg_some, ln_some, uI_1, uI_2, uL_1, uL_2, uL_3, uQ_1, uQ_2, uQ_3, rv_i, rv_l, rv_n, rv_b0, rv_b1, RMR, ne_eq, reduceCtorEq, not_false_eq_true, Option.getD_some, if_true, if_false, and_self, false_and, and_false, Nat.add_left_cancel_iff, Nat.add_eq_left, Nat.left_eq_add, Nat.one_ne_zero, Nat.reduceAdd, Nat.reduceLT, Nat.reduceLeDiff, Nat.reduceEqDiff, true_implies, false_implies, implies_true, Option.some.injEq, forall_eq', forall_eq, reduceCtorEq, brT, brF, br_s, i_10, i_01, ib_0_2, ib_1_2, tn_0, tn_1, Int32.le_refl, eq_self, rv_bN, rv_iM, RCM 81, RLY, lit_at hw, g_152 hw hτ0 hv hd, z, z00]
  exact hQ
theorem m_215 {w : mT} {σ : mS} {tp n : Nat} {t : Nat → Nat} {τ ρ : Rw} {bk : Nat → Rw} {has : Nat → Bool} {im : Nat → Rw} {p : Nat} (h : mIn w σ tp t τ ρ n bk has im) (hp : p < τ 1) : ∃ σ', frA σ σ' ∧ mIn w σ' tp t τ ρ n bk has im ∧ ∀ {D : Nat} {K : Int64 → Hp → Prop}, 3 ≤ D → (wpL D 215 [.ref 81, .int (Int32.ofNat p)] (mW w σ) K ↔ K (spV (spB τ ρ p (τ (28 + p)))) (mW w σ')) := by
  have M := h
  obtain ⟨hw, hτ, hρ, hv, hr, hp2, htp, htb, htl, hn, hn12, hbk, him⟩ := h
  have M0 := mIn_Z M (frZ_0 (j := 0) (x := 0) (by omega))
  obtain ⟨_, hτ0, hρ0, _, _, hp20, _, htb0, _, hn0, _, hbk0, him0⟩ := M0
  have M0 := mIn_Z M (frZ_0 (j := 0) (x := 0) (by omega))
  have v1 := hv.2.1
  obtain ⟨σ', f', q'⟩ := lp_215 hw hv hr hp (τ (28 + p)) 0 (uI σ 81 0 0) (by omega) hτ0 hρ0
  have ff : frZ σ σ' := frZ_tr (frZ_0 (by omega)) f'
  refine ⟨σ', frZ_A ff, mIn_Z M ff, fun hD => cL_of (m := 2) (fun d hd Q hQ => ?_) rfl hD⟩
  refine b215_0 ?_
  simp only [↓br_pos, ↓br_neg, ↓rF_I, ↓rF_L, ↓rF_R, ↓rF_N, rO_m, rB_m, ↓rI_m, wI_m, ↓rB2_m, ↓rB3_m, wB2_m, wB3_m, ↓rL_m, wL_m, ↓rQ_m, wQ_m, ↓lI_m, pI_m, pL_m, pR_m, sI_m, sBy_m, sBo_m, sL_m, sQ_m, fst_m, true_and, and_true, tg_some, ln_some, uI_1, uI_2, uL_1, uL_2, uL_3, uQ_1, uQ_2, uQ_3, rv_i, rv_l, rv_n, rv_b0, rv_b1, RMR, ne_eq, reduceCtorEq, not_false_eq_true, Option.getD_some, if_true, if_false, and_self, false_and, and_false, Nat.add_left_cancel_iff, Nat.add_eq_left, Nat.left_eq_add, Nat.one_ne_zero, Nat.reduceAdd, Nat.reduceLT, Nat.reduceLeDiff, Nat.reduceEqDiff, true_implies, false_implies, implies_true, Option.some.injEq, forall_eq', forall_eq, reduceCtorEq, brT, brF, br_s, i_10, i_01, ib_0_2, ib_1_2, tn_0, tn_1, Int32.le_refl, eq_self, rv_bN, rv_iM, RCM 81, RLY, lit_at hw, g_152 hw hτ0 hv hd, bN_on hp (by omega : τ 1 < 2147483648), z10]
  exact b215_25 (q' hd hQ)
theorem lp_223 {w : mT} {σ : mS} {τ ρ : Rw} {p t aim d : Nat} {Q : Option (Option Value) → Hp → Prop} (hw : lit w) (hτ : mTold σ τ) (hρ : mRow σ 85 0 ρ) (hv : vTold τ) (hr : vRow τ ρ) (hp : p < τ 1) (ht : t ≤ 99) (ha : aim ≤ 999) (k16 : σ.1 81 16 = Int32.ofNat (tPi τ ρ p)) (k17 : σ.1 81 17 = Int32.ofNat (gPi τ ρ p)) (hQ : Q (some (some (.int (neI (neB τ ρ p t aim (τ 0)).1)))) (mW w σ)) : ∀ (r l : Nat) (x : Value), l + r = τ 0 → (x = jk ∨ ∃ u : Int64, x = .long u) → Wp 223 81 [.ref 81, .int (Int32.ofNat p), .int (Int32.ofNat t), .int (Int32.ofNat aim), .long (Int64.ofNat (t * τ (28 + p))), jk, .int (neI (neB τ ρ p t aim l).1), .long (Int64.ofNat (neB τ ρ p t aim l).2), jk, .int (Int32.ofNat l), x, jk] [] (mW w σ) Q d := by
  have v0 := hv.1
  have v2 := (hv.2.2.2.2.2.1 p hp).2
  have m1 : t * τ (28 + p) ≤ 99 * 12 := Nat.mul_le_mul ht v2
  have nl := neB_lt (τ := τ) (ρ := ρ) (p := p) (t := t) (aim := aim) (n := τ 0) (fun l hl => by
    have q := neF_b hv hr hp ht ha hl
    unfold neF dist
    omega)
  have tb := tPi_lt hv hr hp
  have gb := gPi_le hv hr hp
  intro r
  induction r with
  | zero =>
    intro l x hl hx
    have hl' : l = τ 0 := by omega
    subst hl'
    rcases hx with rfl | ⟨u, rfl⟩
    · refine b223_81 ?_
      simp only [↓br_pos, ↓br_neg, ↓rF_I, ↓rF_L, ↓rF_R, ↓rF_N, rO_m, rB_m, ↓rI_m, wI_m, ↓rB2_m, ↓rB3_m, wB2_m, wB3_m, ↓rL_m, wL_m, ↓rQ_m, wQ_m, ↓lI_m, pI_m, pL_m, pR_m, sI_m, sBy_m, sBo_m, sL_m, sQ_m, fst_m, true_and, and_true, tg_some, ln_some, uI_1, uI_2, uL_1, uL_2, uL_3, uQ_1, uQ_2, uQ_3, rv_i, rv_l, rv_n, rv_b0, rv_b1, RMR, ne_eq, reduceCtorEq, not_false_eq_true, Option.getD_some, if_true, if_false, and_self, false_and, and_false, Nat.add_left_cancel_iff, Nat.add_eq_left, Nat.left_eq_add, Nat.one_ne_zero, Nat.reduceAdd, Nat.reduceLT, Nat.reduceLeDiff, Nat.reduceEqDiff, true_implies, false_implies, implies_true, Option.some.injEq, forall_eq', forall_eq, reduceCtorEq, brT, brF, br_s, i_10, i_01, ib_0_2, ib_1_2, tn_0, tn_1, Int32.le_refl, eq_self, rv_bN, rv_iM, RCM 81, RLY, lit_at hw, mt_0 hτ, Int32.le_refl]
      exact hQ
    · refine b223_81a ?_
      simp only [↓br_pos, ↓br_neg, ↓rF_I, ↓rF_L, ↓rF_R, ↓rF_N, rO_m, rB_m, ↓rI_m, wI_m, ↓rB2_m, ↓rB3_m, wB2_m, wB3_m, ↓rL_m, wL_m, ↓rQ_m, wQ_m, ↓lI_m, pI_m, pL_m, pR_m, sI_m, sBy_m, sBo_m, sL_m, sQ_m, fst_m, true_and, and_true, tg_some, ln_some, uI_1, uI_2, uL_1, uL_2, uL_3, uQ_1, uQ_2, uQ_3, rv_i, rv_l, rv_n, rv_b0, rv_b1, RMR, ne_eq, reduceCtorEq, not_false_eq_true, Option.getD_some, if_true, if_false, and_self, false_and, and_false, Nat.add_left_cancel_iff, Nat.add_eq_left, Nat.left_eq_add, Nat.one_ne_zero, Nat.reduceAdd, Nat.reduceLT, Nat.reduceLeDiff, Nat.reduceEqDiff, true_implies, false_implies, implies_true, Option.some.injEq, forall_eq', forall_eq, reduceCtorEq, brT, brF, br_s, i_10, i_01, ib_0_2, ib_1_2, tn_0, tn_1, Int32.le_refl, eq_self, rv_bN, rv_iM, RCM 81, RLY, lit_at hw, mt_0 hτ, Int32.le_refl]
      exact hQ
  | succ r ih =>
    intro l x hl hx
    have hl' : l < τ 0 := by omega
    have nb := nl l (by omega)
    have m12 := mr hρ (by omega : 12 + l < 2471)
    have m16 := mt hτ (by omega : 16 + l < 79)
    have gr := (hv.2.2.2.2.1 l hl').2.2
    have lf := left_lt hr hl'
    have l1 : (Int32.ofNat (τ 0) ≤ Int32.ofNat l) ↔ False := iff_false_intro (fun q => absurd ((on_le (by omega) (by omega)).mp q) (by omega))
    have fb := neF_b hv hr hp ht ha hl'
    have ab : (if 0 < Int64.ofNat (gPi τ ρ p + t * τ (28 + p) * τ (16 + l)) - Int64.ofNat (aim * (tPi τ ρ p + t * τ (28 + p))) then Int64.ofNat (gPi τ ρ p + t * τ (28 + p) * τ (16 + l)) - Int64.ofNat (aim * (tPi τ ρ p + t * τ (28 + p))) else -(Int64.ofNat (gPi τ ρ p + t * τ (28 + p) * τ (16 + l)) - Int64.ofNat (aim * (tPi τ ρ p + t * τ (28 + p))))) = Int64.ofNat (neF τ ρ p t aim l) := labs (by omega) (by omega)
    have fl : neF τ ρ p t aim l < 500000000 := by unfold neF dist; omega
    have i4 := i64_of (a := ρ (12 + l)) (by omega)
    have i5 := i64_of (a := gPi τ ρ p) (by omega)
    have i7 := i64_of (a := τ (16 + l)) (by omega)
    have i8 := i64_of (a := tPi τ ρ p) (by omega)
    have i3 := i64_of (a := aim) (by omega)
    have c0 := lgp (a := ρ (12 + l)) (b := t * τ (28 + p)) (by omega) (by omega)
    have c2 := lgp (a := neF τ ρ p t aim l) (b := (neB τ ρ p t aim l).2) (by omega) (by omega)
    have nx := fun x hx => ih (l + 1) x (by omega) hx
    rcases hx with rfl | ⟨u, rfl⟩
    · skip
      refine b223_81 ?_
      by_cases z0 : t * τ (28 + p) ≤ ρ (12 + l)
      · have c0' := iff_true_intro (c0.mpr z0)
        by_cases z1 : (neB τ ρ p t aim l).1 = 0
        · have c1' := iff_true_intro ((neI_2 (by omega)).mpr z1)
          have eB : neB τ ρ p t aim (l + 1) = (l + 1, neF τ ρ p t aim l) := if_pos ⟨z0, Or.inl z1⟩
          rw [eB] at nx
          simp only [↓br_pos, ↓br_neg, ↓rF_I, ↓rF_L, ↓rF_R, ↓rF_N, rO_m, rB_m, ↓rI_m, wI_m, ↓rB2_m, ↓rB3_m, wB2_m, wB3_m, ↓rL_m, wL_m, ↓rQ_m, wQ_m, ↓lI_m, pI_m, pL_m, pR_m, sI_m, sBy_m, sBo_m, sL_m, sQ_m, fst_m, true_and, and_true, tg_some, ln_some, uI_1, uI_2, uL_1, uL_2, uL_3, uQ_1, uQ_2, uQ_3, rv_i, rv_l, rv_n, rv_b0, rv_b1, RMR, ne_eq, reduceCtorEq, not_false_eq_true, Option.getD_some, if_true, if_false, and_self, false_and, and_false, Nat.add_left_cancel_iff, Nat.add_eq_left, Nat.left_eq_add, Nat.one_ne_zero, Nat.reduceAdd, Nat.reduceLT, Nat.reduceLeDiff, Nat.reduceEqDiff, true_implies, false_implies, implies_true, Option.some.injEq, forall_eq', forall_eq, reduceCtorEq, brT, brF, br_s, i_10, i_01, ib_0_2, ib_1_2, tn_0, tn_1, Int32.le_refl, eq_self, rv_bN, rv_iM, RCM 81, RLY, lit_at hw, ad_2, ad_4, ad_6, ad_8, ad_10, ad_12, ad_16, ad_24, ad_27, ad_28, ad_31, ad_35, ad_43, ad_51, ad_107, ad_131, ad_311, ml_3, ml_6, ml_7, ml_60, ml_100, ml_2471, mq_12, ar_2, ar_3, ar_4, ar_5, ar_6, of_add, of_mul, on_succ, mt_0 hτ, l1, m12, m16, k16, k17, c0', i5, i4, i7, i8, i3, ol_mul, ol_add, ab, c1']
          refine b223_172 ?_
          rw [on_succ]
          exact nx _ (Or.inr ⟨_, rfl⟩)
        · have c1' := iff_false_intro (fun q => z1 ((neI_2 (by omega)).mp q))
          by_cases z2 : neF τ ρ p t aim l < (neB τ ρ p t aim l).2
          · have c2' := iff_false_intro (fun q => absurd (c2.mp q) (by omega))
            have eB : neB τ ρ p t aim (l + 1) = (l + 1, neF τ ρ p t aim l) := if_pos ⟨z0, Or.inr z2⟩
            rw [eB] at nx
            simp only [↓br_pos, ↓br_neg, ↓rF_I, ↓rF_L, ↓rF_R, ↓rF_N, rO_m, rB_m, ↓rI_m, wI_m, ↓rB2_m, ↓rB3_m, wB2_m, wB3_m, ↓rL_m, wL_m, ↓rQ_m, wQ_m, ↓lI_m, pI_m, pL_m, pR_m, sI_m, sBy_m, sBo_m, sL_m, sQ_m, fst_m, true_and, and_true, tg_some, ln_some, uI_1, uI_2, uL_1, uL_2, uL_3, uQ_1, uQ_2, uQ_3, rv_i, rv_l, rv_n, rv_b0, rv_b1, RMR, ne_eq, reduceCtorEq, not_false_eq_true, Option.getD_some, if_true, if_false, and_self, false_and, and_false, Nat.add_left_cancel_iff, Nat.add_eq_left, Nat.left_eq_add, Nat.one_ne_zero, Nat.reduceAdd, Nat.reduceLT, Nat.reduceLeDiff, Nat.reduceEqDiff, true_implies, false_implies, implies_true, Option.some.injEq, forall_eq', forall_eq, reduceCtorEq, brT, brF, br_s, i_10, i_01, ib_0_2, ib_1_2, tn_0, tn_1, Int32.le_refl, eq_self, rv_bN, rv_iM, RCM 81, RLY, lit_at hw, ad_2, ad_4, ad_6, ad_8, ad_10, ad_12, ad_16, ad_24, ad_27, ad_28, ad_31, ad_35, ad_43, ad_51, ad_107, ad_131, ad_311, ml_3, ml_6, ml_7, ml_60, ml_100, ml_2471, mq_12, ar_2, ar_3, ar_4, ar_5, ar_6, of_add, of_mul, on_succ, mt_0 hτ, l1, m12, m16, k16, k17, c0', i5, i4, i7, i8, i3, ol_mul, ol_add, ab, c1', c2']
            refine b223_172 ?_
            rw [on_succ]
            exact nx _ (Or.inr ⟨_, rfl⟩)
          · have c2' := iff_true_intro (c2.mpr (by omega))
            have eB : neB τ ρ p t aim (l + 1) = neB τ ρ p t aim l := if_neg (fun q => q.2.elim z1 z2)
            rw [eB] at nx
            simp only [↓br_pos, ↓br_neg, ↓rF_I, ↓rF_L, ↓rF_R, ↓rF_N, rO_m, rB_m, ↓rI_m, wI_m, ↓rB2_m, ↓rB3_m, wB2_m, wB3_m, ↓rL_m, wL_m, ↓rQ_m, wQ_m, ↓lI_m, pI_m, pL_m, pR_m, sI_m, sBy_m, sBo_m, sL_m, sQ_m, fst_m, true_and, and_true, tg_some, ln_some, uI_1, uI_2, uL_1, uL_2, uL_3, uQ_1, uQ_2, uQ_3, rv_i, rv_l, rv_n, rv_b0, rv_b1, RMR, ne_eq, reduceCtorEq, not_false_eq_true, Option.getD_some, if_true, if_false, and_self, false_and, and_false, Nat.add_left_cancel_iff, Nat.add_eq_left, Nat.left_eq_add, Nat.one_ne_zero, Nat.reduceAdd, Nat.reduceLT, Nat.reduceLeDiff, Nat.reduceEqDiff, true_implies, false_implies, implies_true, Option.some.injEq, forall_eq', forall_eq, reduceCtorEq, brT, brF, br_s, i_10, i_01, ib_0_2, ib_1_2, tn_0, tn_1, Int32.le_refl, eq_self, rv_bN, rv_iM, RCM 81, RLY, lit_at hw, ad_2, ad_4, ad_6, ad_8, ad_10, ad_12, ad_16, ad_24, ad_27, ad_28, ad_31, ad_35, ad_43, ad_51, ad_107, ad_131, ad_311, ml_3, ml_6, ml_7, ml_60, ml_100, ml_2471, mq_12, ar_2, ar_3, ar_4, ar_5, ar_6, of_add, of_mul, on_succ, mt_0 hτ, l1, m12, m16, k16, k17, c0', i5, i4, i7, i8, i3, ol_mul, ol_add, ab, c1', c2']
            refine b223_172 ?_
            rw [on_succ]
            exact nx _ (Or.inr ⟨_, rfl⟩)
      · have c0' := iff_false_intro (fun q => z0 (c0.mp q))
        have eB : neB τ ρ p t aim (l + 1) = neB τ ρ p t aim l := if_neg (fun q => z0 q.1)
        rw [eB] at nx
        simp only [↓br_pos, ↓br_neg, ↓rF_I, ↓rF_L, ↓rF_R, ↓rF_N, rO_m, rB_m, ↓rI_m, wI_m, ↓rB2_m, ↓rB3_m, wB2_m, wB3_m, ↓rL_m, wL_m, ↓rQ_m, wQ_m, ↓lI_m, pI_m, pL_m, pR_m, sI_m, sBy_m, sBo_m, sL_m, sQ_m, fst_m, true_and, and_true, tg_some, ln_some, uI_1, uI_2, uL_1, uL_2, uL_3, uQ_1, uQ_2, uQ_3, rv_i, rv_l, rv_n, rv_b0, rv_b1, RMR, ne_eq, reduceCtorEq, not_false_eq_true, Option.getD_some, if_true, if_false, and_self, false_and, and_false, Nat.add_left_cancel_iff, Nat.add_eq_left, Nat.left_eq_add, Nat.one_ne_zero, Nat.reduceAdd, Nat.reduceLT, Nat.reduceLeDiff, Nat.reduceEqDiff, true_implies, false_implies, implies_true, Option.some.injEq, forall_eq', forall_eq, reduceCtorEq, brT, brF, br_s, i_10, i_01, ib_0_2, ib_1_2, tn_0, tn_1, Int32.le_refl, eq_self, rv_bN, rv_iM, RCM 81, RLY, lit_at hw, ad_2, ad_4, ad_6, ad_8, ad_10, ad_12, ad_16, ad_24, ad_27, ad_28, ad_31, ad_35, ad_43, ad_51, ad_107, ad_131, ad_311, ml_3, ml_6, ml_7, ml_60, ml_100, ml_2471, mq_12, ar_2, ar_3, ar_4, ar_5, ar_6, of_add, of_mul, on_succ, mt_0 hτ, l1, m12, m16, k16, k17, c0', i5, i4, i7, i8, i3, ol_mul, ol_add, ab]
        refine b223_172a ?_
        rw [on_succ]
        exact nx _ (Or.inl rfl)
    · skip
      refine b223_81a ?_
      by_cases z0 : t * τ (28 + p) ≤ ρ (12 + l)
      · have c0' := iff_true_intro (c0.mpr z0)
        by_cases z1 : (neB τ ρ p t aim l).1 = 0
        · have c1' := iff_true_intro ((neI_2 (by omega)).mpr z1)
          have eB : neB τ ρ p t aim (l + 1) = (l + 1, neF τ ρ p t aim l) := if_pos ⟨z0, Or.inl z1⟩
          rw [eB] at nx
          simp only [↓br_pos, ↓br_neg, ↓rF_I, ↓rF_L, ↓rF_R, ↓rF_N, rO_m, rB_m, ↓rI_m, wI_m, ↓rB2_m, ↓rB3_m, wB2_m, wB3_m, ↓rL_m, wL_m, ↓rQ_m, wQ_m, ↓lI_m, pI_m, pL_m, pR_m, sI_m, sBy_m, sBo_m, sL_m, sQ_m, fst_m, true_and, and_true, tg_some, ln_some, uI_1, uI_2, uL_1, uL_2, uL_3, uQ_1, uQ_2, uQ_3, rv_i, rv_l, rv_n, rv_b0, rv_b1, RMR, ne_eq, reduceCtorEq, not_false_eq_true, Option.getD_some, if_true, if_false, and_self, false_and, and_false, Nat.add_left_cancel_iff, Nat.add_eq_left, Nat.left_eq_add, Nat.one_ne_zero, Nat.reduceAdd, Nat.reduceLT, Nat.reduceLeDiff, Nat.reduceEqDiff, true_implies, false_implies, implies_true, Option.some.injEq, forall_eq', forall_eq, reduceCtorEq, brT, brF, br_s, i_10, i_01, ib_0_2, ib_1_2, tn_0, tn_1, Int32.le_refl, eq_self, rv_bN, rv_iM, RCM 81, RLY, lit_at hw, ad_2, ad_4, ad_6, ad_8, ad_10, ad_12, ad_16, ad_24, ad_27, ad_28, ad_31, ad_35, ad_43, ad_51, ad_107, ad_131, ad_311, ml_3, ml_6, ml_7, ml_60, ml_100, ml_2471, mq_12, ar_2, ar_3, ar_4, ar_5, ar_6, of_add, of_mul, on_succ, mt_0 hτ, l1, m12, m16, k16, k17, c0', i5, i4, i7, i8, i3, ol_mul, ol_add, ab, c1']
          refine b223_172 ?_
          rw [on_succ]
          exact nx _ (Or.inr ⟨_, rfl⟩)
        · have c1' := iff_false_intro (fun q => z1 ((neI_2 (by omega)).mp q))
          by_cases z2 : neF τ ρ p t aim l < (neB τ ρ p t aim l).2
          · have c2' := iff_false_intro (fun q => absurd (c2.mp q) (by omega))
            have eB : neB τ ρ p t aim (l + 1) = (l + 1, neF τ ρ p t aim l) := if_pos ⟨z0, Or.inr z2⟩
            rw [eB] at nx
            simp only [↓br_pos, ↓br_neg, ↓rF_I, ↓rF_L, ↓rF_R, ↓rF_N, rO_m, rB_m, ↓rI_m, wI_m, ↓rB2_m, ↓rB3_m, wB2_m, wB3_m, ↓rL_m, wL_m, ↓rQ_m, wQ_m, ↓lI_m, pI_m, pL_m, pR_m, sI_m, sBy_m, sBo_m, sL_m, sQ_m, fst_m, true_and, and_true, tg_some, ln_some, uI_1, uI_2, uL_1, uL_2, uL_3, uQ_1, uQ_2, uQ_3, rv_i, rv_l, rv_n, rv_b0, rv_b1, RMR, ne_eq, reduceCtorEq, not_false_eq_true, Option.getD_some, if_true, if_false, and_self, false_and, and_false, Nat.add_left_cancel_iff, Nat.add_eq_left, Nat.left_eq_add, Nat.one_ne_zero, Nat.reduceAdd, Nat.reduceLT, Nat.reduceLeDiff, Nat.reduceEqDiff, true_implies, false_implies, implies_true, Option.some.injEq, forall_eq', forall_eq, reduceCtorEq, brT, brF, br_s, i_10, i_01, ib_0_2, ib_1_2, tn_0, tn_1, Int32.le_refl, eq_self, rv_bN, rv_iM, RCM 81, RLY, lit_at hw, ad_2, ad_4, ad_6, ad_8, ad_10, ad_12, ad_16, ad_24, ad_27, ad_28, ad_31, ad_35, ad_43, ad_51, ad_107, ad_131, ad_311, ml_3, ml_6, ml_7, ml_60, ml_100, ml_2471, mq_12, ar_2, ar_3, ar_4, ar_5, ar_6, of_add, of_mul, on_succ, mt_0 hτ, l1, m12, m16, k16, k17, c0', i5, i4, i7, i8, i3, ol_mul, ol_add, ab, c1', c2']
            refine b223_172 ?_
            rw [on_succ]
            exact nx _ (Or.inr ⟨_, rfl⟩)
          · have c2' := iff_true_intro (c2.mpr (by omega))
            have eB : neB τ ρ p t aim (l + 1) = neB τ ρ p t aim l := if_neg (fun q => q.2.elim z1 z2)
            rw [eB] at nx
            simp only [↓br_pos, ↓br_neg, ↓rF_I, ↓rF_L, ↓rF_R, ↓rF_N, rO_m, rB_m, ↓rI_m, wI_m, ↓rB2_m, ↓rB3_m, wB2_m, wB3_m, ↓rL_m, wL_m, ↓rQ_m, wQ_m, ↓lI_m, pI_m, pL_m, pR_m, sI_m, sBy_m, sBo_m, sL_m, sQ_m, fst_m, true_and, and_true, tg_some, ln_some, uI_1, uI_2, uL_1, uL_2, uL_3, uQ_1, uQ_2, uQ_3, rv_i, rv_l, rv_n, rv_b0, rv_b1, RMR, ne_eq, reduceCtorEq, not_false_eq_true, Option.getD_some, if_true, if_false, and_self, false_and, and_false, Nat.add_left_cancel_iff, Nat.add_eq_left, Nat.left_eq_add, Nat.one_ne_zero, Nat.reduceAdd, Nat.reduceLT, Nat.reduceLeDiff, Nat.reduceEqDiff, true_implies, false_implies, implies_true, Option.some.injEq, forall_eq', forall_eq, reduceCtorEq, brT, brF, br_s, i_10, i_01, ib_0_2, ib_1_2, tn_0, tn_1, Int32.le_refl, eq_self, rv_bN, rv_iM, RCM 81, RLY, lit_at hw, ad_2, ad_4, ad_6, ad_8, ad_10, ad_12, ad_16, ad_24, ad_27, ad_28, ad_31, ad_35, ad_43, ad_51, ad_107, ad_131, ad_311, ml_3, ml_6, ml_7, ml_60, ml_100, ml_2471, mq_12, ar_2, ar_3, ar_4, ar_5, ar_6, of_add, of_mul, on_succ, mt_0 hτ, l1, m12, m16, k16, k17, c0', i5, i4, i7, i8, i3, ol_mul, ol_add, ab, c1', c2']
            refine b223_172 ?_
            rw [on_succ]
            exact nx _ (Or.inr ⟨_, rfl⟩)
      · have c0' := iff_false_intro (fun q => z0 (c0.mp q))
        have eB : neB τ ρ p t aim (l + 1) = neB τ ρ p t aim l := if_neg (fun q => z0 q.1)
        rw [eB] at nx
        simp only [↓br_pos, ↓br_neg, ↓rF_I, ↓rF_L, ↓rF_R, ↓rF_N, rO_m, rB_m, ↓rI_m, wI_m, ↓rB2_m, ↓rB3_m, wB2_m, wB3_m, ↓rL_m, wL_m, ↓rQ_m, wQ_m, ↓lI_m, pI_m, pL_m, pR_m, sI_m, sBy_m, sBo_m, sL_m, sQ_m, fst_m, true_and, and_true, tg_some, ln_some, uI_1, uI_2, uL_1, uL_2, uL_3, uQ_1, uQ_2, uQ_3, rv_i, rv_l, rv_n, rv_b0, rv_b1, RMR, ne_eq, reduceCtorEq, not_false_eq_true, Option.getD_some, if_true, if_false, and_self, false_and, and_false, Nat.add_left_cancel_iff, Nat.add_eq_left, Nat.left_eq_add, Nat.one_ne_zero, Nat.reduceAdd, Nat.reduceLT, Nat.reduceLeDiff, Nat.reduceEqDiff, true_implies, false_implies, implies_true, Option.some.injEq, forall_eq', forall_eq, reduceCtorEq, brT, brF, br_s, i_10, i_01, ib_0_2, ib_1_2, tn_0, tn_1, Int32.le_refl, eq_self, rv_bN, rv_iM, RCM 81, RLY, lit_at hw, ad_2, ad_4, ad_6, ad_8, ad_10, ad_12, ad_16, ad_24, ad_27, ad_28, ad_31, ad_35, ad_43, ad_51, ad_107, ad_131, ad_311, ml_3, ml_6, ml_7, ml_60, ml_100, ml_2471, mq_12, ar_2, ar_3, ar_4, ar_5, ar_6, of_add, of_mul, on_succ, mt_0 hτ, l1, m12, m16, k16, k17, c0', i5, i4, i7, i8, i3, ol_mul, ol_add, ab]
        refine b223_172 ?_
        rw [on_succ]
        exact nx _ (Or.inr ⟨_, rfl⟩)

theorem m_223z {w : mT} {σ : mS} {tp n : Nat} {t : Nat → Nat} {τ ρ : Rw} {bk : Nat → Rw} {has : Nat → Bool} {im : Nat → Rw} {p y0 aim : Int32} {D : Nat} {K : Int32 → Hp → Prop} (h : mIn w σ tp t τ ρ n bk has im) (hn1 : ¬ neP τ p y0 aim) (hD : 3 ≤ D) : wpI D 223 [.ref 81, .int p, .int y0, .int aim] (mW w σ) K ↔ K (-1) (mW w (uI σ 81 0 0)) := by
  have M := h
  obtain ⟨hw, hτ, hρ, hv, hr, hp2, htp, htb, htl, hn, hn12, hbk, him⟩ := h
  have M0 := mIn_Z M (frZ_0 (j := 0) (x := 0) (by omega))
  obtain ⟨_, hτ0, hρ0, _, _, hp20, _, htb0, _, hn0, _, hbk0, him0⟩ := M0
  have M0 := mIn_Z M (frZ_0 (j := 0) (x := 0) (by omega))
  refine cI_of (m := 2) (fun d hd Q hQ => ?_) rfl hD
  have hd1 : 1 ≤ d := by omega
  refine b223_0 ?_
  rcases bN_01 (a := p) (n := τ 1) with z | z
  · simp only [↓br_pos, ↓br_neg, ↓rF_I, ↓rF_L, ↓rF_R, ↓rF_N, rO_m, rB_m, ↓rI_m, wI_m, ↓rB2_m, ↓rB3_m, wB2_m, wB3_m, ↓rL_m, wL_m, ↓rQ_m, wQ_m, ↓lI_m, pI_m, pL_m, pR_m, sI_m, sBy_m, sBo_m, sL_m, sQ_m, fst_m, true_and, and_true, tg_some, ln_some, uI_1, uI_2, uL_1, uL_2, uL_3, uQ_1, uQ_2, uQ_3, rv_i, rv_l, rv_n, rv_b0, rv_b1, RMR, ne_eq, reduceCtorEq, not_false_eq_true, Option.getD_some, if_true, if_false, and_self, false_and, and_false, Nat.add_left_cancel_iff, Nat.add_eq_left, Nat.left_eq_add, Nat.one_ne_zero, Nat.reduceAdd, Nat.reduceLT, Nat.reduceLeDiff, Nat.reduceEqDiff, true_implies, false_implies, implies_true, Option.some.injEq, forall_eq', forall_eq, reduceCtorEq, brT, brF, br_s, i_10, i_01, ib_0_2, ib_1_2, tn_0, tn_1, Int32.le_refl, eq_self, rv_bN, rv_iM, RCM 81, RLY, lit_at hw, g_152 hw hτ0 hv hd, z, z00]
    exact hQ
  · by_cases y : 1 ≤ y0.toInt ∧ y0.toInt ≤ 99
    · have x : ¬ (0 ≤ aim.toInt ∧ aim.toInt ≤ 999) := fun q => hn1 ⟨z, y.1, y.2, q⟩
      simp only [↓br_pos, ↓br_neg, ↓rF_I, ↓rF_L, ↓rF_R, ↓rF_N, rO_m, rB_m, ↓rI_m, wI_m, ↓rB2_m, ↓rB3_m, wB2_m, wB3_m, ↓rL_m, wL_m, ↓rQ_m, wQ_m, ↓lI_m, pI_m, pL_m, pR_m, sI_m, sBy_m, sBo_m, sL_m, sQ_m, fst_m, true_and, and_true, tg_some, ln_some, uI_1, uI_2, uL_1, uL_2, uL_3, uQ_1, uQ_2, uQ_3, rv_i, rv_l, rv_n, rv_b0, rv_b1, RMR, ne_eq, reduceCtorEq, not_false_eq_true, Option.getD_some, if_true, if_false, and_self, false_and, and_false, Nat.add_left_cancel_iff, Nat.add_eq_left, Nat.left_eq_add, Nat.one_ne_zero, Nat.reduceAdd, Nat.reduceLT, Nat.reduceLeDiff, Nat.reduceEqDiff, true_implies, false_implies, implies_true, Option.some.injEq, forall_eq', forall_eq, reduceCtorEq, brT, brF, br_s, i_10, i_01, ib_0_2, ib_1_2, tn_0, tn_1, Int32.le_refl, eq_self, rv_bN, rv_iM, RCM 81, RLY, lit_at hw, g_152 hw hτ0 hv hd, z, z10, z00, g_129 hd1, vin_99, iB_t y, vin_999, iB_f x]
      exact hQ
    · simp only [↓br_pos, ↓br_neg, ↓rF_I, ↓rF_L, ↓rF_R, ↓rF_N, rO_m, rB_m, ↓rI_m, wI_m, ↓rB2_m, ↓rB3_m, wB2_m, wB3_m, ↓rL_m, wL_m, ↓rQ_m, wQ_m, ↓lI_m, pI_m, pL_m, pR_m, sI_m, sBy_m, sBo_m, sL_m, sQ_m, fst_m, true_and, and_true, tg_some, ln_some, uI_1, uI_2, uL_1, uL_2, uL_3, uQ_1, uQ_2, uQ_3, rv_i, rv_l, rv_n, rv_b0, rv_b1, RMR, ne_eq, reduceCtorEq, not_false_eq_true, Option.getD_some, if_true, if_false, and_self, false_and, and_false, Nat.add_left_cancel_iff, Nat.add_eq_left, Nat.left_eq_add, Nat.one_ne_zero, Nat.reduceAdd, Nat.reduceLT, Nat.reduceLeDiff, Nat.reduceEqDiff, true_implies, false_implies, implies_true, Option.some.injEq, forall_eq', forall_eq, reduceCtorEq, brT, brF, br_s, i_10, i_01, ib_0_2, ib_1_2, tn_0, tn_1, Int32.le_refl, eq_self, rv_bN, rv_iM, RCM 81, RLY, lit_at hw, g_152 hw hτ0 hv hd, z, z10, z00, g_129 hd1, vin_99, iB_f y]
      exact hQ
theorem m_223 {w : mT} {σ : mS} {tp n : Nat} {t : Nat → Nat} {τ ρ : Rw} {bk : Nat → Rw} {has : Nat → Bool} {im : Nat → Rw} {p y0 aim : Nat} (h : mIn w σ tp t τ ρ n bk has im) (hp : p < τ 1) (hy : 1 ≤ y0 ∧ y0 ≤ 99) (ha : aim ≤ 999) : ∃ σ', frA σ σ' ∧ mIn w σ' tp t τ ρ n bk has im ∧ ∀ {D : Nat} {K : Int32 → Hp → Prop}, 3 ≤ D → (wpI D 223 [.ref 81, .int (Int32.ofNat p), .int (Int32.ofNat y0), .int (Int32.ofNat aim)] (mW w σ) K ↔ K (neI (neB τ ρ p y0 aim (τ 0)).1) (mW w σ')) := by
  have M := h
  obtain ⟨hw, hτ, hρ, hv, hr, hp2, htp, htb, htl, hn, hn12, hbk, him⟩ := h
  have M0 := mIn_Z M (frZ_0 (j := 0) (x := 0) (by omega))
  obtain ⟨_, hτ0, hρ0, _, _, hp20, _, htb0, _, hn0, _, hbk0, him0⟩ := M0
  have M0 := mIn_Z M (frZ_0 (j := 0) (x := 0) (by omega))
  have v1 := hv.2.1
  have v2 := (hv.2.2.2.2.2.1 p hp).2
  refine ⟨su (uI σ 81 0 0) (tPi τ ρ p) (gPi τ ρ p), frZ_A uI_0s, mIn_Z M uI_0s, fun hD => cI_of (m := 2) (fun d hd Q hQ => ?_) rfl hD⟩
  have hd1 : 1 ≤ d := by omega
  have hτS := mT_c hτ0 (su_a (σ := (uI σ 81 0 0)) (T := tPi τ ρ p) (G := gPi τ ρ p) (by omega : (83 : Nat) ≠ 81))
  have hρS := mR_c hρ0 (su_a (σ := (uI σ 81 0 0)) (T := tPi τ ρ p) (G := gPi τ ρ p) (by omega : (85 : Nat) ≠ 81))
  have y : 1 ≤ (Int32.ofNat y0).toInt ∧ (Int32.ofNat y0).toInt ≤ 99 := by rw [on_int (by omega)]; omega
  have x : 0 ≤ (Int32.ofNat aim).toInt ∧ (Int32.ofNat aim).toInt ≤ 999 := by rw [on_int (by omega)]; omega
  refine b223_0 ?_
  simp only [↓br_pos, ↓br_neg, ↓rF_I, ↓rF_L, ↓rF_R, ↓rF_N, rO_m, rB_m, ↓rI_m, wI_m, ↓rB2_m, ↓rB3_m, wB2_m, wB3_m, ↓rL_m, wL_m, ↓rQ_m, wQ_m, ↓lI_m, pI_m, pL_m, pR_m, sI_m, sBy_m, sBo_m, sL_m, sQ_m, fst_m, true_and, and_true, tg_some, ln_some, uI_1, uI_2, uL_1, uL_2, uL_3, uQ_1, uQ_2, uQ_3, rv_i, rv_l, rv_n, rv_b0, rv_b1, RMR, ne_eq, reduceCtorEq, not_false_eq_true, Option.getD_some, if_true, if_false, and_self, false_and, and_false, Nat.add_left_cancel_iff, Nat.add_eq_left, Nat.left_eq_add, Nat.one_ne_zero, Nat.reduceAdd, Nat.reduceLT, Nat.reduceLeDiff, Nat.reduceEqDiff, true_implies, false_implies, implies_true, Option.some.injEq, forall_eq', forall_eq, reduceCtorEq, brT, brF, br_s, i_10, i_01, ib_0_2, ib_1_2, tn_0, tn_1, Int32.le_refl, eq_self, rv_bN, rv_iM, RCM 81, RLY, lit_at hw, ad_2, ad_4, ad_6, ad_8, ad_10, ad_12, ad_16, ad_24, ad_27, ad_28, ad_31, ad_35, ad_43, ad_51, ad_107, ad_131, ad_311, ml_3, ml_6, ml_7, ml_60, ml_100, ml_2471, mq_12, ar_2, ar_3, ar_4, ar_5, ar_6, of_add, of_mul, on_succ, g_152 hw hτ0 hv hd, bN_on hp (by omega : τ 1 < 2147483648), z10, g_129 hd1, vin_99, iB_t y, vin_999, iB_t x, mt hτ (by omega : 28 + p < 79), g_158p hw hτ0 hρ0 hv hr hp hd, mt hτS (by omega : 28 + p < 79)]
  simp only [i64_of (by omega : y0 < 2147483648), i64_of (by omega : τ (28 + p) < 2147483648), ol_mul]
  exact b223_78 (lp_223 hw hτS hρS hv hr hp hy.2 ha su_16 su_17 hQ (τ 0) 0 jk (by omega) (Or.inl rfl))
end
section
/-! the model's calls: layOrder, worst: they are safe -/
def ckU (i : Nat) (s : Nat) : Bool := decide (((Int32.ofNat s >>> (Int32.ofNat i &&& 31)) &&& (1 : Int32) = 0) ↔ s.testBit i = false)
theorem ckU_0 : ckA (ckU 0) 63 = true := by decide +kernel
theorem ckU_1 : ckA (ckU 1) 63 = true := by decide +kernel
theorem ckU_2 : ckA (ckU 2) 63 = true := by decide +kernel
theorem ckU_3 : ckA (ckU 3) 63 = true := by decide +kernel
theorem ckU_4 : ckA (ckU 4) 63 = true := by decide +kernel
theorem ckU_5 : ckA (ckU 5) 63 = true := by decide +kernel
theorem tb64 {s i : Nat} (hs : s < 64) (hi : i < 6) : (((Int32.ofNat s >>> (Int32.ofNat i &&& 31)) &&& (1 : Int32)) = 0) ↔ s.testBit i = false := by
  by_cases z : s = 0
  · subst z
    have q : i = 0 ∨ i = 1 ∨ i = 2 ∨ i = 3 ∨ i = 4 ∨ i = 5 := by omega
    rcases q with rfl | rfl | rfl | rfl | rfl | rfl <;> decide
  · have q : i = 0 ∨ i = 1 ∨ i = 2 ∨ i = 3 ∨ i = 4 ∨ i = 5 := by omega
    rcases q with rfl | rfl | rfl | rfl | rfl | rfl
    · exact of_decide_eq_true (ckA_t ckU_0 s (by omega) (by omega))
    · exact of_decide_eq_true (ckA_t ckU_1 s (by omega) (by omega))
    · exact of_decide_eq_true (ckA_t ckU_2 s (by omega) (by omega))
    · exact of_decide_eq_true (ckA_t ckU_3 s (by omega) (by omega))
    · exact of_decide_eq_true (ckA_t ckU_4 s (by omega) (by omega))
    · exact of_decide_eq_true (ckA_t ckU_5 s (by omega) (by omega))
def unB (U : Nat) (i : Nat) : Nat := if U.testBit i = true then 0 else 1
theorem un_or {U i m : Nat} (hi : i < m) (h : U.testBit i = false) : sm m (unB (U ||| 2 ^ i)) + 1 = sm m (unB U) := by
  have a := sm_up (n := m) (i := i) (x := 0) (f := unB U) (g := unB (U ||| 2 ^ i)) hi (fun j hj => by
    unfold unB
    rw [Nat.testBit_or, Nat.testBit_two_pow]
    by_cases e : j = i
    · rw [if_pos e, e, h]; simp
    · rw [if_neg e, decide_eq_false (fun q => e q.symm), Bool.or_false])
  have b : unB U i = 1 := by unfold unB; rw [h]; rfl
  omega
theorem un_ex {U m : Nat} (h : sm m (unB U) ≠ 0) : ∃ j, j < m ∧ U.testBit j = false := by
  apply Decidable.byContradiction
  intro q
  refine h (sm_z (fun i hi => ?_))
  unfold unB
  by_cases e : U.testBit i = true
  · rw [if_pos e]
  · exact absurd ⟨i, hi, Bool.eq_false_iff.mpr e⟩ q
/-- lots in a row -/
def oI (σ : mS) (τ ρ : Rw) (m : Nat) : Prop := σ.1 81 27 = Int32.ofNat m ∧ m ≤ 6 ∧ (∀ i, i < m → ∃ l, l < τ 0 ∧ 0 < ρ (12 + l) ∧ σ.1 90 i = Int32.ofNat l)
def oP (σ : mS) : Prop := ∃ A B : Nat, σ.2.1 81 31 = Int64.ofNat A ∧ σ.2.1 81 32 = Int64.ofNat B ∧ 0 < B ∧ A < 1099511627776 ∧ B < 1099511627776
def frO (σ σ' : mS) : Prop := (∀ a, a ≠ 91 → a ≠ 92 → σ'.1 a = σ.1 a) ∧ (∀ a, a ≠ 81 → σ'.2.1 a = σ.2.1 a) ∧ σ'.2.2 = σ.2.2
theorem frO_rf {σ : mS} : frO σ σ := ⟨fun _ _ _ => rfl, fun _ _ => rfl, rfl⟩
theorem frO_tr {σ σ' σ'' : mS} (h : frO σ σ') (h' : frO σ' σ'') : frO σ σ'' := ⟨fun a q r => (h'.1 a q r).trans (h.1 a q r), fun a q => (h'.2.1 a q).trans (h.2.1 a q), h'.2.2.trans h.2.2⟩
theorem frO_I {σ : mS} {a j : Nat} {x : Int32} (h : a = 91 ∨ a = 92) : frO σ (uI σ a j x) := ⟨fun b q r => (uI_ne (by omega)).1, fun b q => rfl, rfl⟩
theorem frO_L {σ : mS} {j : Nat} {x : Int64} : frO σ (uL σ 81 j x) := ⟨fun b q r => by rw [uL_1], fun b q => (uL_ne (by omega)).2.1, rfl⟩
theorem frO_Z {σ σ' : mS} (h : frO σ σ') : frZ σ σ' := ⟨fun a q r => h.1 a (by omega) (by omega), fun j q => by rw [h.1 81 (by omega) (by omega)], fun a q => h.2.1 a (by omega), h.2.2⟩
theorem oI_c {σ σ' : mS} {τ ρ : Rw} {m : Nat} (h : oI σ τ ρ m) (f : frO σ σ') : oI σ' τ ρ m := ⟨by rw [f.1 81 (by omega) (by omega)]; exact h.1, h.2.1, fun i hi => by rw [f.1 90 (by omega) (by omega)]; exact h.2.2 i hi⟩
theorem oP_I {σ : mS} {a j : Nat} {x : Int32} (h : oP σ) : oP (uI σ a j x) := h
theorem lp_218c {w : mT} {τ ρ : Rw} {m k U T Gn A0 B0 d : Nat} {σ0 : mS} {Q : Option (Option Value) → Hp → Prop} (hw : lit w) (hQ : ∀ σ', frO σ0 σ' → oP σ' → Q (some none) (mW w σ')) : ∀ (r i : Nat) (σ : mS), i + r = m → oI σ τ ρ m → oP σ → frO σ0 σ → Wp 218 50 [.ref 81, .int (Int32.ofNat k), .int (Int32.ofNat U), .long (Int64.ofNat T), jk, .long (Int64.ofNat Gn), jk, .long (Int64.ofNat A0), jk, .long (Int64.ofNat B0), jk, .int (Int32.ofNat i), jk, jk, jk, jk, jk, jk, jk, jk] [] (mW w σ) Q d := by
  intro r
  induction r with
  | zero =>
    intro i σ hi hI hP hf
    have hi' : i = m := by omega
    subst hi'
    refine b218_50 ?_
    simp only [↓br_pos, ↓br_neg, ↓rF_I, ↓rF_L, ↓rF_R, ↓rF_N, rO_m, rB_m, ↓rI_m, wI_m, ↓rB2_m, ↓rB3_m, wB2_m, wB3_m, ↓rL_m, wL_m, ↓rQ_m, wQ_m, ↓lI_m, pI_m, pL_m, pR_m, sI_m, sBy_m, sBo_m, sL_m, sQ_m, fst_m, true_and, and_true, tg_some, ln_some, uI_1, uI_2, uL_1, uL_2, uL_3, uQ_1, uQ_2, uQ_3, rv_i, rv_l, rv_n, rv_b0, rv_b1, RMR, ne_eq, reduceCtorEq, not_false_eq_true, Option.getD_some, if_true, if_false, and_self, false_and, and_false, Nat.add_left_cancel_iff, Nat.add_eq_left, Nat.left_eq_add, Nat.one_ne_zero, Nat.reduceAdd, Nat.reduceLT, Nat.reduceLeDiff, Nat.reduceEqDiff, true_implies, false_implies, implies_true, Option.some.injEq, forall_eq', forall_eq, reduceCtorEq, brT, brF, br_s, i_10, i_01, ib_0_2, ib_1_2, tn_0, tn_1, Int32.le_refl, eq_self, rv_bN, rv_iM, RCM 81, RLY, lit_at hw, hI.1, Int32.le_refl]
    exact hQ σ hf hP
  | succ r ih =>
    intro i σ hi hI hP hf
    have m6 := hI.2.1
    have l1 : (Int32.ofNat m ≤ Int32.ofNat i) ↔ False := iff_false_intro (fun q => absurd ((on_le (by omega) (by omega)).mp q) (by omega))
    refine b218_50 ?_
    simp only [↓br_pos, ↓br_neg, ↓rF_I, ↓rF_L, ↓rF_R, ↓rF_N, rO_m, rB_m, ↓rI_m, wI_m, ↓rB2_m, ↓rB3_m, wB2_m, wB3_m, ↓rL_m, wL_m, ↓rQ_m, wQ_m, ↓lI_m, pI_m, pL_m, pR_m, sI_m, sBy_m, sBo_m, sL_m, sQ_m, fst_m, true_and, and_true, tg_some, ln_some, uI_1, uI_2, uL_1, uL_2, uL_3, uQ_1, uQ_2, uQ_3, rv_i, rv_l, rv_n, rv_b0, rv_b1, RMR, ne_eq, reduceCtorEq, not_false_eq_true, Option.getD_some, if_true, if_false, and_self, false_and, and_false, Nat.add_left_cancel_iff, Nat.add_eq_left, Nat.left_eq_add, Nat.one_ne_zero, Nat.reduceAdd, Nat.reduceLT, Nat.reduceLeDiff, Nat.reduceEqDiff, true_implies, false_implies, implies_true, Option.some.injEq, forall_eq', forall_eq, reduceCtorEq, brT, brF, br_s, i_10, i_01, ib_0_2, ib_1_2, tn_0, tn_1, Int32.le_refl, eq_self, rv_bN, rv_iM, RCM 81, RLY, lit_at hw, hI.1, l1, ix (by omega : i < 6) (by omega), on_succ]
    exact ih (i + 1) _ (by omega) (oI_c hI (frO_I (by omega))) (oP_I hP) (frO_tr hf (frO_I (by omega)))
theorem lg_z {x : Int64} (h : x = 0) : (lg_cmp x (0 : Int64) = 0) ↔ True := iff_true_intro ((lg_cmp_eq _ _).mpr h)
theorem s_218 {w : mT} {τ ρ : Rw} {m aim : Nat} (hw : lit w) (hv : vTold τ) (hr : vRow τ ρ) (ha : aim ≤ 999) : ∀ (f k U T Gn A0 B0 : Nat) (σ : mS) {D : Nat} {K : Hp → Prop}, k + f = m → sm m (unB U) = f → U < 64 → T ≤ k * 119988 → Gn ≤ k * 119868012 → A0 < 1099511627776 → 0 < B0 → B0 < 1099511627776 → mTold σ τ → mRow σ 85 0 ρ → σ.1 81 26 = Int32.ofNat aim → oI σ τ ρ m → (σ.2.1 81 32 = 0 ∨ oP σ) → (∀ σ', frO σ σ' → oP σ' → K (mW w σ')) → f + 1 ≤ D → wpV D 218 [.ref 81, .int (Int32.ofNat k), .int (Int32.ofNat U), .long (Int64.ofNat T), .long (Int64.ofNat Gn), .long (Int64.ofNat A0), .long (Int64.ofNat B0)] (mW w σ) K := by
  intro f
  induction f with
  | zero =>
    intro k U T Gn A0 B0 σ D K hk hun hU hT hG hA hB hB2 hτ hρ hm hI hbu hK hD
    refine sV_of (m := 0) (fun d hd Q hQ => ?_) rfl hD
    have hk' : k = m := by omega
    subst hk'
    have c0 : (Int32.ofNat k = Int32.ofNat k) ↔ True := iff_true_intro rfl
    have P1 : oP (uL (uL σ 81 31 (Int64.ofNat A0)) 81 32 (Int64.ofNat B0)) := ⟨A0, B0, by simp only [uL_2, Nat.reduceEqDiff, and_false, if_false, and_self, if_true], by simp only [uL_2, and_self, if_true], hB, hA, hB2⟩
    have f1 : frO σ (uL (uL σ 81 31 (Int64.ofNat A0)) 81 32 (Int64.ofNat B0)) := frO_tr frO_L frO_L
    have up : Wp 218 50 [.ref 81, .int (Int32.ofNat k), .int (Int32.ofNat U), .long (Int64.ofNat T), jk, .long (Int64.ofNat Gn), jk, .long (Int64.ofNat A0), jk, .long (Int64.ofNat B0), jk, .int (Int32.ofNat 0), jk, jk, jk, jk, jk, jk, jk, jk] [] (mW w (uL (uL σ 81 31 (Int64.ofNat A0)) 81 32 (Int64.ofNat B0))) Q d := lp_218c hw (fun σ' f P => hQ _ (hK σ' f P)) k 0 _ (by omega) (oI_c hI f1) P1 f1
    refine b218_0 ?_
    by_cases z : σ.2.1 81 32 = 0
    · simp only [↓br_pos, ↓br_neg, ↓rF_I, ↓rF_L, ↓rF_R, ↓rF_N, rO_m, rB_m, ↓rI_m, wI_m, ↓rB2_m, ↓rB3_m, wB2_m, wB3_m, ↓rL_m, wL_m, ↓rQ_m, wQ_m, ↓lI_m, pI_m, pL_m, pR_m, sI_m, sBy_m, sBo_m, sL_m, sQ_m, fst_m, true_and, and_true, tg_some, ln_some, uI_1, uI_2, uL_1, uL_2, uL_3, uQ_1, uQ_2, uQ_3, rv_i, rv_l, rv_n, rv_b0, rv_b1, RMR, ne_eq, reduceCtorEq, not_false_eq_true, Option.getD_some, if_true, if_false, and_self, false_and, and_false, Nat.add_left_cancel_iff, Nat.add_eq_left, Nat.left_eq_add, Nat.one_ne_zero, Nat.reduceAdd, Nat.reduceLT, Nat.reduceLeDiff, Nat.reduceEqDiff, true_implies, false_implies, implies_true, Option.some.injEq, forall_eq', forall_eq, reduceCtorEq, brT, brF, br_s, i_10, i_01, ib_0_2, ib_1_2, tn_0, tn_1, Int32.le_refl, eq_self, rv_bN, rv_iM, RCM 81, RLY, lit_at hw, hI.1, c0, lg_z z]
      exact up
    · have z' : (lg_cmp (σ.2.1 81 32) (0 : Int64) = 0) ↔ False := iff_false_intro (fun q => z ((lg_cmp_eq _ _).mp q))
      simp only [↓br_pos, ↓br_neg, ↓rF_I, ↓rF_L, ↓rF_R, ↓rF_N, rO_m, rB_m, ↓rI_m, wI_m, ↓rB2_m, ↓rB3_m, wB2_m, wB3_m, ↓rL_m, wL_m, ↓rQ_m, wQ_m, ↓lI_m, pI_m, pL_m, pR_m, sI_m, sBy_m, sBo_m, sL_m, sQ_m, fst_m, true_and, and_true, tg_some, ln_some, uI_1, uI_2, uL_1, uL_2, uL_3, uQ_1, uQ_2, uQ_3, rv_i, rv_l, rv_n, rv_b0, rv_b1, RMR, ne_eq, reduceCtorEq, not_false_eq_true, Option.getD_some, if_true, if_false, and_self, false_and, and_false, Nat.add_left_cancel_iff, Nat.add_eq_left, Nat.left_eq_add, Nat.one_ne_zero, Nat.reduceAdd, Nat.reduceLT, Nat.reduceLeDiff, Nat.reduceEqDiff, true_implies, false_implies, implies_true, Option.some.injEq, forall_eq', forall_eq, reduceCtorEq, brT, brF, br_s, i_10, i_01, ib_0_2, ib_1_2, tn_0, tn_1, Int32.le_refl, eq_self, rv_bN, rv_iM, RCM 81, RLY, lit_at hw, hI.1, c0, z']
      exact br2 (hQ _ (hK σ frO_rf (hbu.resolve_left z))) up
  | succ f ih =>
    intro k U T Gn A0 B0 σ0 D K hk hun hU hT hG hA hB hB2 hτ0 hρ0 hm0 hI0 hbu0 hK hD
    refine sV_of (m := f + 1) (fun d hd Q hQ => ?_) rfl hD
    have m6 := hI0.2.1
    have v0 := hv.1
    have ck : (Int32.ofNat k = Int32.ofNat m) ↔ False := iff_false_intro (fun q => by have := (of_inj (by omega) (by omega)).mp q; omega)
    have lpI : ∀ (r i : Nat) (σ : mS) (x12 x13 x15 x17 x19 : Value), i + r = m → frO σ0 σ → (oP σ ∨ (σ.2.1 81 32 = 0 ∧ ∃ j, i ≤ j ∧ j < m ∧ U.testBit j = false)) → ((x12 = jk ∧ x13 = jk ∧ x15 = jk ∧ x17 = jk ∧ x19 = jk) ∨ ∃ (a : Int32) (b c e : Int64) (g : Int32), x12 = .int a ∧ x13 = .long b ∧ x15 = .long c ∧ x17 = .long e ∧ x19 = .int g) → Wp 218 83 [.ref 81, .int (Int32.ofNat k), .int (Int32.ofNat U), .long (Int64.ofNat T), jk, .long (Int64.ofNat Gn), jk, .long (Int64.ofNat A0), jk, .long (Int64.ofNat B0), jk, .int (Int32.ofNat i), x12, x13, jk, x15, jk, x17, jk, x19] [] (mW w σ) Q d := by
      intro r
      induction r with
      | zero =>
        intro i σ x12 x13 x15 x17 x19 hi hf hb hx
        have hi' : i = m := by omega
        subst hi'
        have hI := oI_c hI0 hf
        have P : oP σ := hb.elim id (fun q => by obtain ⟨_, j, j1, j2, _⟩ := q; omega)
        have fin := hQ _ (hK σ hf P)
        rcases hx with ⟨rfl, rfl, rfl, rfl, rfl⟩ | ⟨a, b, c, e, g, rfl, rfl, rfl, rfl, rfl⟩
        · refine b218_83 ?_
          simp only [↓br_pos, ↓br_neg, ↓rF_I, ↓rF_L, ↓rF_R, ↓rF_N, rO_m, rB_m, ↓rI_m, wI_m, ↓rB2_m, ↓rB3_m, wB2_m, wB3_m, ↓rL_m, wL_m, ↓rQ_m, wQ_m, ↓lI_m, pI_m, pL_m, pR_m, sI_m, sBy_m, sBo_m, sL_m, sQ_m, fst_m, true_and, and_true, tg_some, ln_some, uI_1, uI_2, uL_1, uL_2, uL_3, uQ_1, uQ_2, uQ_3, rv_i, rv_l, rv_n, rv_b0, rv_b1, RMR, ne_eq, reduceCtorEq, not_false_eq_true, Option.getD_some, if_true, if_false, and_self, false_and, and_false, Nat.add_left_cancel_iff, Nat.add_eq_left, Nat.left_eq_add, Nat.one_ne_zero, Nat.reduceAdd, Nat.reduceLT, Nat.reduceLeDiff, Nat.reduceEqDiff, true_implies, false_implies, implies_true, Option.some.injEq, forall_eq', forall_eq, reduceCtorEq, brT, brF, br_s, i_10, i_01, ib_0_2, ib_1_2, tn_0, tn_1, Int32.le_refl, eq_self, rv_bN, rv_iM, RCM 81, RLY, lit_at hw, hI.1, Int32.le_refl]
          exact fin
        · refine b218_83a ?_
          simp only [↓br_pos, ↓br_neg, ↓rF_I, ↓rF_L, ↓rF_R, ↓rF_N, rO_m, rB_m, ↓rI_m, wI_m, ↓rB2_m, ↓rB3_m, wB2_m, wB3_m, ↓rL_m, wL_m, ↓rQ_m, wQ_m, ↓lI_m, pI_m, pL_m, pR_m, sI_m, sBy_m, sBo_m, sL_m, sQ_m, fst_m, true_and, and_true, tg_some, ln_some, uI_1, uI_2, uL_1, uL_2, uL_3, uQ_1, uQ_2, uQ_3, rv_i, rv_l, rv_n, rv_b0, rv_b1, RMR, ne_eq, reduceCtorEq, not_false_eq_true, Option.getD_some, if_true, if_false, and_self, false_and, and_false, Nat.add_left_cancel_iff, Nat.add_eq_left, Nat.left_eq_add, Nat.one_ne_zero, Nat.reduceAdd, Nat.reduceLT, Nat.reduceLeDiff, Nat.reduceEqDiff, true_implies, false_implies, implies_true, Option.some.injEq, forall_eq', forall_eq, reduceCtorEq, brT, brF, br_s, i_10, i_01, ib_0_2, ib_1_2, tn_0, tn_1, Int32.le_refl, eq_self, rv_bN, rv_iM, RCM 81, RLY, lit_at hw, hI.1, Int32.le_refl]
          exact fin
      | succ r ihr =>
        intro i σ x12 x13 x15 x17 x19 hi hf hb hx
        have hI := oI_c hI0 hf
        have hτ := mT_c hτ0 (hf.1 83 (by omega) (by omega))
        have hρ := mR_c hρ0 (hf.1 85 (by omega) (by omega))
        have hm : σ.1 81 26 = Int32.ofNat aim := by rw [hf.1 81 (by omega) (by omega)]; exact hm0
        have l1 : (Int32.ofNat m ≤ Int32.ofNat i) ↔ False := iff_false_intro (fun q => absurd ((on_le (by omega) (by omega)).mp q) (by omega))
        by_cases tb : U.testBit i = false
        · have cb := iff_true_intro ((tb64 hU (by omega : i < 6)).mpr tb)
          obtain ⟨l, hl, hpos, el⟩ := hI.2.2 i (by omega)
          have lf := left_lt hr hl
          have gr := (hv.2.2.2.2.1 l hl).2.2
          have mm : ρ (12 + l) * τ (16 + l) ≤ 119988 * 999 := Nat.mul_le_mul lf gr
          have kk : k ≤ 5 := by omega
          have i12 := i64_of (a := ρ (12 + l)) (by omega)
          have i16 := i64_of (a := τ (16 + l)) (by omega)
          have ia := i64_of (a := aim) (by omega)
          obtain ⟨o1, o2⟩ := orb hU (by omega : i < 6)
          have am : aim * (T + ρ (12 + l)) ≤ 999 * (6 * 119988) := Nat.mul_le_mul ha (by omega)
          have lab := labs (a := Gn + ρ (12 + l) * τ (16 + l)) (b := aim * (T + ρ (12 + l))) (by omega) (by omega)
          have dl : dist (Gn + ρ (12 + l) * τ (16 + l)) (aim * (T + ρ (12 + l))) < 1099511627776 := by unfold dist; omega
          have f1 : frO σ (uI σ 91 k (Int32.ofNat l)) := frO_I (by omega)
          have un1 := un_or (by omega : i < m) tb
          have rcx : ∀ A1 B1, A1 < 1099511627776 → 0 < B1 → B1 < 1099511627776 → ∀ (g : Int32), wpV d 218 [.ref 81, .int (Int32.ofNat (k + 1)), .int (Int32.ofNat (U ||| 2 ^ i)), .long (Int64.ofNat (T + ρ (12 + l))), .long (Int64.ofNat (Gn + ρ (12 + l) * τ (16 + l))), .long (Int64.ofNat A1), .long (Int64.ofNat B1)] (mW w (uI σ 91 k (Int32.ofNat l))) (fun h2 => Wp 218 242 [.ref 81, .int (Int32.ofNat k), .int (Int32.ofNat U), .long (Int64.ofNat T), jk, .long (Int64.ofNat Gn), jk, .long (Int64.ofNat A0), jk, .long (Int64.ofNat B0), jk, .int (Int32.ofNat (i + 1)), .int (Int32.ofNat l), .long (Int64.ofNat (T + ρ (12 + l))), jk, .long (Int64.ofNat (Gn + ρ (12 + l) * τ (16 + l))), jk, .long (Int64.ofNat (dist (Gn + ρ (12 + l) * τ (16 + l)) (aim * (T + ρ (12 + l))))), jk, .int g] [] h2 Q d) := fun A1 B1 a1 b1 b2 g => by
            refine ih (k + 1) (U ||| 2 ^ i) (T + ρ (12 + l)) (Gn + ρ (12 + l) * τ (16 + l)) A1 B1 (uI σ 91 k (Int32.ofNat l)) (by omega) (by omega) o2 (by omega) (by omega) a1 b1 b2 (mT_c hτ (uI_o (by omega))) (mR_c hρ (uI_o (by omega))) (by rw [uI_1, if_neg (by omega)]; exact hm) (oI_c hI f1) (hb.elim (fun P => Or.inr (oP_I P)) (fun q => Or.inl q.1)) (fun σ' f' P' => ?_) hd
            exact b218_242 (ihr (i + 1) σ' _ _ _ _ _ (by omega) (frO_tr hf (frO_tr f1 f')) (Or.inl P') (Or.inr ⟨_, _, _, _, _, rfl, rfl, rfl, rfl, rfl⟩))
          rcases hx with ⟨rfl, rfl, rfl, rfl, rfl⟩ | ⟨a, b, c, e, g, rfl, rfl, rfl, rfl, rfl⟩
          · refine b218_83 ?_
            simp only [↓br_pos, ↓br_neg, ↓rF_I, ↓rF_L, ↓rF_R, ↓rF_N, rO_m, rB_m, ↓rI_m, wI_m, ↓rB2_m, ↓rB3_m, wB2_m, wB3_m, ↓rL_m, wL_m, ↓rQ_m, wQ_m, ↓lI_m, pI_m, pL_m, pR_m, sI_m, sBy_m, sBo_m, sL_m, sQ_m, fst_m, true_and, and_true, tg_some, ln_some, uI_1, uI_2, uL_1, uL_2, uL_3, uQ_1, uQ_2, uQ_3, rv_i, rv_l, rv_n, rv_b0, rv_b1, RMR, ne_eq, reduceCtorEq, not_false_eq_true, Option.getD_some, if_true, if_false, and_self, false_and, and_false, Nat.add_left_cancel_iff, Nat.add_eq_left, Nat.left_eq_add, Nat.one_ne_zero, Nat.reduceAdd, Nat.reduceLT, Nat.reduceLeDiff, Nat.reduceEqDiff, true_implies, false_implies, implies_true, Option.some.injEq, forall_eq', forall_eq, reduceCtorEq, brT, brF, br_s, i_10, i_01, ib_0_2, ib_1_2, tn_0, tn_1, Int32.le_refl, eq_self, rv_bN, rv_iM, RCM 81, RLY, lit_at hw, ad_2, ad_4, ad_6, ad_8, ad_10, ad_12, ad_16, ad_24, ad_27, ad_28, ad_31, ad_35, ad_43, ad_51, ad_107, ad_131, ad_311, ml_3, ml_6, ml_7, ml_60, ml_100, ml_2471, mq_12, ar_2, ar_3, ar_4, ar_5, ar_6, of_add, of_mul, on_succ, hI.1, l1, cb, ix (by omega : i < 6) (by omega), el, ix (by omega : k < 6) (by omega), mr hρ (by omega : 12 + l < 2471), mt hτ (by omega : 16 + l < 79), i12, i16, ol_mul, ol_add]
            refine b218_161 ?_
            simp only [↓rF_I, ↓rF_L, ↓rF_R, ↓rF_N, rO_m, rB_m, ↓rI_m, wI_m, ↓rB2_m, ↓rB3_m, wB2_m, wB3_m, ↓rL_m, wL_m, ↓rQ_m, wQ_m, ↓lI_m, pI_m, pL_m, pR_m, sI_m, sBy_m, sBo_m, sL_m, sQ_m, fst_m, true_and, and_true, tg_some, ln_some, uI_1, uI_2, uL_1, uL_2, uL_3, uQ_1, uQ_2, uQ_3, rv_i, rv_l, rv_n, rv_b0, rv_b1, RMR, ne_eq, reduceCtorEq, not_false_eq_true, Option.getD_some, if_true, if_false, and_self, false_and, and_false, Nat.add_left_cancel_iff, Nat.add_eq_left, Nat.left_eq_add, Nat.one_ne_zero, Nat.reduceAdd, Nat.reduceLT, Nat.reduceLeDiff, Nat.reduceEqDiff, true_implies, false_implies, implies_true, Option.some.injEq, forall_eq', forall_eq, reduceCtorEq, brT, brF, br_s, i_10, i_01, ib_0_2, ib_1_2, tn_0, tn_1, Int32.le_refl, eq_self, rv_bN, rv_iM, RCM 81, RLY, lit_at hw, hm, ia, ol_mul, lab, z00, z10, on_succ, o1]
            exact br2 (rcx A0 B0 hA hB hB2 _) (rcx _ _ dl (by omega) (by omega) _)
          · refine b218_83a ?_
            simp only [↓br_pos, ↓br_neg, ↓rF_I, ↓rF_L, ↓rF_R, ↓rF_N, rO_m, rB_m, ↓rI_m, wI_m, ↓rB2_m, ↓rB3_m, wB2_m, wB3_m, ↓rL_m, wL_m, ↓rQ_m, wQ_m, ↓lI_m, pI_m, pL_m, pR_m, sI_m, sBy_m, sBo_m, sL_m, sQ_m, fst_m, true_and, and_true, tg_some, ln_some, uI_1, uI_2, uL_1, uL_2, uL_3, uQ_1, uQ_2, uQ_3, rv_i, rv_l, rv_n, rv_b0, rv_b1, RMR, ne_eq, reduceCtorEq, not_false_eq_true, Option.getD_some, if_true, if_false, and_self, false_and, and_false, Nat.add_left_cancel_iff, Nat.add_eq_left, Nat.left_eq_add, Nat.one_ne_zero, Nat.reduceAdd, Nat.reduceLT, Nat.reduceLeDiff, Nat.reduceEqDiff, true_implies, false_implies, implies_true, Option.some.injEq, forall_eq', forall_eq, reduceCtorEq, brT, brF, br_s, i_10, i_01, ib_0_2, ib_1_2, tn_0, tn_1, Int32.le_refl, eq_self, rv_bN, rv_iM, RCM 81, RLY, lit_at hw, ad_2, ad_4, ad_6, ad_8, ad_10, ad_12, ad_16, ad_24, ad_27, ad_28, ad_31, ad_35, ad_43, ad_51, ad_107, ad_131, ad_311, ml_3, ml_6, ml_7, ml_60, ml_100, ml_2471, mq_12, ar_2, ar_3, ar_4, ar_5, ar_6, of_add, of_mul, on_succ, hI.1, l1, cb, ix (by omega : i < 6) (by omega), el, ix (by omega : k < 6) (by omega), mr hρ (by omega : 12 + l < 2471), mt hτ (by omega : 16 + l < 79), i12, i16, ol_mul, ol_add]
            refine b218_161a ?_
            simp only [↓rF_I, ↓rF_L, ↓rF_R, ↓rF_N, rO_m, rB_m, ↓rI_m, wI_m, ↓rB2_m, ↓rB3_m, wB2_m, wB3_m, ↓rL_m, wL_m, ↓rQ_m, wQ_m, ↓lI_m, pI_m, pL_m, pR_m, sI_m, sBy_m, sBo_m, sL_m, sQ_m, fst_m, true_and, and_true, tg_some, ln_some, uI_1, uI_2, uL_1, uL_2, uL_3, uQ_1, uQ_2, uQ_3, rv_i, rv_l, rv_n, rv_b0, rv_b1, RMR, ne_eq, reduceCtorEq, not_false_eq_true, Option.getD_some, if_true, if_false, and_self, false_and, and_false, Nat.add_left_cancel_iff, Nat.add_eq_left, Nat.left_eq_add, Nat.one_ne_zero, Nat.reduceAdd, Nat.reduceLT, Nat.reduceLeDiff, Nat.reduceEqDiff, true_implies, false_implies, implies_true, Option.some.injEq, forall_eq', forall_eq, reduceCtorEq, brT, brF, br_s, i_10, i_01, ib_0_2, ib_1_2, tn_0, tn_1, Int32.le_refl, eq_self, rv_bN, rv_iM, RCM 81, RLY, lit_at hw, hm, ia, ol_mul, lab, z00, z10, on_succ, o1]
            exact br2 (rcx A0 B0 hA hB hB2 _) (rcx _ _ dl (by omega) (by omega) _)
        · have cb := iff_false_intro (fun q => tb ((tb64 hU (by omega : i < 6)).mp q))
          have nb : oP σ ∨ (σ.2.1 81 32 = 0 ∧ ∃ j, i + 1 ≤ j ∧ j < m ∧ U.testBit j = false) := hb.imp id (fun q => by
            obtain ⟨q0, j, j1, j2, j3⟩ := q
            refine ⟨q0, j, ?_, j2, j3⟩
            have : j ≠ i := fun e => tb (by rw [← e]; exact j3)
            omega)
          rcases hx with ⟨rfl, rfl, rfl, rfl, rfl⟩ | ⟨a, b, c, e, g, rfl, rfl, rfl, rfl, rfl⟩
          · refine b218_83 ?_
            simp only [↓br_pos, ↓br_neg, ↓rF_I, ↓rF_L, ↓rF_R, ↓rF_N, rO_m, rB_m, ↓rI_m, wI_m, ↓rB2_m, ↓rB3_m, wB2_m, wB3_m, ↓rL_m, wL_m, ↓rQ_m, wQ_m, ↓lI_m, pI_m, pL_m, pR_m, sI_m, sBy_m, sBo_m, sL_m, sQ_m, fst_m, true_and, and_true, tg_some, ln_some, uI_1, uI_2, uL_1, uL_2, uL_3, uQ_1, uQ_2, uQ_3, rv_i, rv_l, rv_n, rv_b0, rv_b1, RMR, ne_eq, reduceCtorEq, not_false_eq_true, Option.getD_some, if_true, if_false, and_self, false_and, and_false, Nat.add_left_cancel_iff, Nat.add_eq_left, Nat.left_eq_add, Nat.one_ne_zero, Nat.reduceAdd, Nat.reduceLT, Nat.reduceLeDiff, Nat.reduceEqDiff, true_implies, false_implies, implies_true, Option.some.injEq, forall_eq', forall_eq, reduceCtorEq, brT, brF, br_s, i_10, i_01, ib_0_2, ib_1_2, tn_0, tn_1, Int32.le_refl, eq_self, rv_bN, rv_iM, RCM 81, RLY, lit_at hw, hI.1, l1, cb, on_succ]
            exact ihr (i + 1) σ _ _ _ _ _ (by omega) hf nb (Or.inl ⟨rfl, rfl, rfl, rfl, rfl⟩)
          · refine b218_83a ?_
            simp only [↓br_pos, ↓br_neg, ↓rF_I, ↓rF_L, ↓rF_R, ↓rF_N, rO_m, rB_m, ↓rI_m, wI_m, ↓rB2_m, ↓rB3_m, wB2_m, wB3_m, ↓rL_m, wL_m, ↓rQ_m, wQ_m, ↓lI_m, pI_m, pL_m, pR_m, sI_m, sBy_m, sBo_m, sL_m, sQ_m, fst_m, true_and, and_true, tg_some, ln_some, uI_1, uI_2, uL_1, uL_2, uL_3, uQ_1, uQ_2, uQ_3, rv_i, rv_l, rv_n, rv_b0, rv_b1, RMR, ne_eq, reduceCtorEq, not_false_eq_true, Option.getD_some, if_true, if_false, and_self, false_and, and_false, Nat.add_left_cancel_iff, Nat.add_eq_left, Nat.left_eq_add, Nat.one_ne_zero, Nat.reduceAdd, Nat.reduceLT, Nat.reduceLeDiff, Nat.reduceEqDiff, true_implies, false_implies, implies_true, Option.some.injEq, forall_eq', forall_eq, reduceCtorEq, brT, brF, br_s, i_10, i_01, ib_0_2, ib_1_2, tn_0, tn_1, Int32.le_refl, eq_self, rv_bN, rv_iM, RCM 81, RLY, lit_at hw, hI.1, l1, cb, on_succ]
            exact b218_242 (ihr (i + 1) σ _ _ _ _ _ (by omega) hf nb (Or.inr ⟨_, _, _, _, _, rfl, rfl, rfl, rfl, rfl⟩))
    have b0 : oP σ0 ∨ (σ0.2.1 81 32 = 0 ∧ ∃ j, 0 ≤ j ∧ j < m ∧ U.testBit j = false) := by
      rcases hbu0 with q | q
      · obtain ⟨j, j1, j2⟩ := un_ex (U := U) (m := m) (by omega)
        exact Or.inr ⟨q, j, Nat.zero_le _, j1, j2⟩
      · exact Or.inl q
    refine b218_0 ?_
    simp only [↓br_pos, ↓br_neg, ↓rF_I, ↓rF_L, ↓rF_R, ↓rF_N, rO_m, rB_m, ↓rI_m, wI_m, ↓rB2_m, ↓rB3_m, wB2_m, wB3_m, ↓rL_m, wL_m, ↓rQ_m, wQ_m, ↓lI_m, pI_m, pL_m, pR_m, sI_m, sBy_m, sBo_m, sL_m, sQ_m, fst_m, true_and, and_true, tg_some, ln_some, uI_1, uI_2, uL_1, uL_2, uL_3, uQ_1, uQ_2, uQ_3, rv_i, rv_l, rv_n, rv_b0, rv_b1, RMR, ne_eq, reduceCtorEq, not_false_eq_true, Option.getD_some, if_true, if_false, and_self, false_and, and_false, Nat.add_left_cancel_iff, Nat.add_eq_left, Nat.left_eq_add, Nat.one_ne_zero, Nat.reduceAdd, Nat.reduceLT, Nat.reduceLeDiff, Nat.reduceEqDiff, true_implies, false_implies, implies_true, Option.some.injEq, forall_eq', forall_eq, reduceCtorEq, brT, brF, br_s, i_10, i_01, ib_0_2, ib_1_2, tn_0, tn_1, Int32.le_refl, eq_self, rv_bN, rv_iM, RCM 81, RLY, lit_at hw, hI0.1, ck]
    exact lpI m 0 σ0 jk jk jk jk jk (by omega) frO_rf b0 (Or.inl ⟨rfl, rfl, rfl, rfl, rfl⟩)
end
section
/-! the model's calls: layOrder, worst, way: they are safe -/
theorem sm_o {n : Nat} {f : Nat → Nat} (h : ∀ i, i < n → f i = 1) : sm n f = n := by
  induction n with
  | zero => rfl
  | succ n ih => rw [sm_s, ih (fun i hi => h i (by omega)), h n (by omega)]
theorem lp_219 {w : mT} {τ ρ : Rw} {aim d : Nat} {lots : Int32} {σ0 : mS} {Q : Option (Option Value) → Hp → Prop} (hw : lit w) (hτ0 : mTold σ0 τ) (hρ0 : mRow σ0 85 0 ρ) (hv : vTold τ) (hr : vRow τ ρ) (ha : aim ≤ 999) (hd : 7 ≤ d) (hz : ∀ σ', frZ σ0 σ' → Q (some (some (.int 0))) (mW w σ')) (hy : ∀ σ' m, frZ σ0 σ' → oI σ' τ ρ m → oP σ' → Q (some (some (.int 1))) (mW w σ')) : ∀ (r l m : Nat) (σ : mS) (a3 : Int32), l + r = τ 0 → frZ σ0 σ → oI σ τ ρ m → Wp 219 39 [.ref 81, .int lots, .int (Int32.ofNat aim), .int a3, .int (Int32.ofNat l)] [] (mW w σ) Q d := by
  have hd1 : 1 ≤ d := by omega
  have v0 := hv.1
  intro r
  induction r with
  | zero =>
    intro l m σ a3 hl hf hI
    have hτ := mT_c hτ0 (hf.1 83 (by omega) (by omega))
    have hρ := mR_c hρ0 (hf.1 85 (by omega) (by omega))
    have hl' : l = τ 0 := by omega
    subst hl'
    have m6 := hI.2.1
    refine b219_39 ?_
    by_cases z : m = 0
    · have c : (Int32.ofNat m = 0) ↔ True := iff_true_intro (by rw [z]; rfl)
      simp only [↓rF_I, ↓rF_L, ↓rF_R, ↓rF_N, rO_m, rB_m, ↓rI_m, wI_m, ↓rB2_m, ↓rB3_m, wB2_m, wB3_m, ↓rL_m, wL_m, ↓rQ_m, wQ_m, ↓lI_m, pI_m, pL_m, pR_m, sI_m, sBy_m, sBo_m, sL_m, sQ_m, fst_m, true_and, and_true, tg_some, ln_some, uI_1, uI_2, uL_1, uL_2, uL_3, uQ_1, uQ_2, uQ_3, rv_i, rv_l, rv_n, rv_b0, rv_b1, RMR, ne_eq, reduceCtorEq, not_false_eq_true, Option.getD_some, if_true, if_false, and_self, false_and, and_false, Nat.add_left_cancel_iff, Nat.add_eq_left, Nat.left_eq_add, Nat.one_ne_zero, Nat.reduceAdd, Nat.reduceLT, Nat.reduceLeDiff, Nat.reduceEqDiff, true_implies, false_implies, implies_true, Option.some.injEq, forall_eq', forall_eq, reduceCtorEq, brT, brF, br_s, i_10, i_01, ib_0_2, ib_1_2, tn_0, tn_1, Int32.le_refl, eq_self, rv_bN, rv_iM, RCM 81, RLY, lit_at hw, mt_0 hτ, Int32.le_refl, g_129 hd1, hI.1, c]
      repeat' (first | exact hz σ hf | refine br2 ?_ ?_)
    · have c : (Int32.ofNat m = 0) ↔ False := iff_false_intro (fun q => z ((of_eq0 (by omega)).mp q))
      simp only [↓rF_I, ↓rF_L, ↓rF_R, ↓rF_N, rO_m, rB_m, ↓rI_m, wI_m, ↓rB2_m, ↓rB3_m, wB2_m, wB3_m, ↓rL_m, wL_m, ↓rQ_m, wQ_m, ↓lI_m, pI_m, pL_m, pR_m, sI_m, sBy_m, sBo_m, sL_m, sQ_m, fst_m, true_and, and_true, tg_some, ln_some, uI_1, uI_2, uL_1, uL_2, uL_3, uQ_1, uQ_2, uQ_3, rv_i, rv_l, rv_n, rv_b0, rv_b1, RMR, ne_eq, reduceCtorEq, not_false_eq_true, Option.getD_some, if_true, if_false, and_self, false_and, and_false, Nat.add_left_cancel_iff, Nat.add_eq_left, Nat.left_eq_add, Nat.one_ne_zero, Nat.reduceAdd, Nat.reduceLT, Nat.reduceLeDiff, Nat.reduceEqDiff, true_implies, false_implies, implies_true, Option.some.injEq, forall_eq', forall_eq, reduceCtorEq, brT, brF, br_s, i_10, i_01, ib_0_2, ib_1_2, tn_0, tn_1, Int32.le_refl, eq_self, rv_bN, rv_iM, RCM 81, RLY, lit_at hw, mt_0 hτ, Int32.le_refl, g_129 hd1, hI.1, c]
      refine br2 (hz σ hf) ?_
      have f1 : frZ σ (uL (uI σ 81 26 (Int32.ofNat aim)) 81 32 0) := frZ_tr (frZ_0 (by omega)) (frZ_L (by omega))
      have I1 : oI (uL (uI σ 81 26 (Int32.ofNat aim)) 81 32 0) τ ρ m := ⟨by rw [uL_1, uI_1, if_neg (by omega)]; exact hI.1, hI.2.1, fun i hi => by rw [uL_1, uI_1, if_neg (by omega)]; exact hI.2.2 i hi⟩
      refine s_218 (aim := aim) (m := m) hw hv hr ha m 0 0 0 0 0 1 _ (by omega) (sm_o (fun i hi => by unfold unB; rw [Nat.zero_testBit]; rfl)) (by omega) (by omega) (by omega) (by omega) (by omega) (by omega) (mT_c hτ (f1.1 83 (by omega) (by omega))) (mR_c hρ (f1.1 85 (by omega) (by omega))) (by rw [uL_1, uI_1, if_pos ⟨rfl, rfl⟩]) I1 (Or.inl (by simp only [uL_2, and_self, if_true])) (fun σ' f P => ?_) (by omega)
      exact hy σ' m (frZ_tr hf (frZ_tr f1 (frO_Z f))) (oI_c I1 f) P
  | succ r ih =>
    intro l m σ a3 hl hf hI
    have hτ := mT_c hτ0 (hf.1 83 (by omega) (by omega))
    have hρ := mR_c hρ0 (hf.1 85 (by omega) (by omega))
    have m6 := hI.2.1
    have lf := left_lt hr (by omega : l < τ 0)
    have l1 : (Int32.ofNat (τ 0) ≤ Int32.ofNat l) ↔ False := iff_false_intro (fun q => absurd ((on_le (by omega) (by omega)).mp q) (by omega))
    have nx := fun a3 => ih (l + 1) m σ a3 (by omega) hf hI
    refine b219_39 ?_
    by_cases z : ρ (12 + l) = 0
    · have c : (Int32.ofNat (ρ (12 + l)) ≤ 0) ↔ True := iff_true_intro ((of_le0 (by omega)).mpr z)
      simp only [↓rF_I, ↓rF_L, ↓rF_R, ↓rF_N, rO_m, rB_m, ↓rI_m, wI_m, ↓rB2_m, ↓rB3_m, wB2_m, wB3_m, ↓rL_m, wL_m, ↓rQ_m, wQ_m, ↓lI_m, pI_m, pL_m, pR_m, sI_m, sBy_m, sBo_m, sL_m, sQ_m, fst_m, true_and, and_true, tg_some, ln_some, uI_1, uI_2, uL_1, uL_2, uL_3, uQ_1, uQ_2, uQ_3, rv_i, rv_l, rv_n, rv_b0, rv_b1, RMR, ne_eq, reduceCtorEq, not_false_eq_true, Option.getD_some, if_true, if_false, and_self, false_and, and_false, Nat.add_left_cancel_iff, Nat.add_eq_left, Nat.left_eq_add, Nat.one_ne_zero, Nat.reduceAdd, Nat.reduceLT, Nat.reduceLeDiff, Nat.reduceEqDiff, true_implies, false_implies, implies_true, Option.some.injEq, forall_eq', forall_eq, reduceCtorEq, brT, brF, br_s, i_10, i_01, ib_0_2, ib_1_2, tn_0, tn_1, Int32.le_refl, eq_self, rv_bN, rv_iM, RCM 81, RLY, lit_at hw, ad_2, ad_4, ad_6, ad_8, ad_10, ad_12, ad_16, ad_24, ad_27, ad_28, ad_31, ad_35, ad_43, ad_51, ad_107, ad_131, ad_311, ml_3, ml_6, ml_7, ml_60, ml_100, ml_2471, mq_12, ar_2, ar_3, ar_4, ar_5, ar_6, of_add, of_mul, on_succ, mt_0 hτ, l1, mr hρ (by omega : 12 + l < 2471), c]
      exact br2 (nx _) (nx _)
    · have c : (Int32.ofNat (ρ (12 + l)) ≤ 0) ↔ False := iff_false_intro (fun q => z ((of_le0 (by omega)).mp q))
      by_cases y : m < 6
      · have c6 : ((6 : Int32) ≤ Int32.ofNat m) ↔ False := iff_false_intro (fun q => absurd ((on_le (i := 6) (by omega) (by omega)).mp q) (by omega))
        simp only [↓rF_I, ↓rF_L, ↓rF_R, ↓rF_N, rO_m, rB_m, ↓rI_m, wI_m, ↓rB2_m, ↓rB3_m, wB2_m, wB3_m, ↓rL_m, wL_m, ↓rQ_m, wQ_m, ↓lI_m, pI_m, pL_m, pR_m, sI_m, sBy_m, sBo_m, sL_m, sQ_m, fst_m, true_and, and_true, tg_some, ln_some, uI_1, uI_2, uL_1, uL_2, uL_3, uQ_1, uQ_2, uQ_3, rv_i, rv_l, rv_n, rv_b0, rv_b1, RMR, ne_eq, reduceCtorEq, not_false_eq_true, Option.getD_some, if_true, if_false, and_self, false_and, and_false, Nat.add_left_cancel_iff, Nat.add_eq_left, Nat.left_eq_add, Nat.one_ne_zero, Nat.reduceAdd, Nat.reduceLT, Nat.reduceLeDiff, Nat.reduceEqDiff, true_implies, false_implies, implies_true, Option.some.injEq, forall_eq', forall_eq, reduceCtorEq, brT, brF, br_s, i_10, i_01, ib_0_2, ib_1_2, tn_0, tn_1, Int32.le_refl, eq_self, rv_bN, rv_iM, RCM 81, RLY, lit_at hw, ad_2, ad_4, ad_6, ad_8, ad_10, ad_12, ad_16, ad_24, ad_27, ad_28, ad_31, ad_35, ad_43, ad_51, ad_107, ad_131, ad_311, ml_3, ml_6, ml_7, ml_60, ml_100, ml_2471, mq_12, ar_2, ar_3, ar_4, ar_5, ar_6, of_add, of_mul, on_succ, mt_0 hτ, l1, mr hρ (by omega : 12 + l < 2471), c, hI.1, c6, ix (by omega : m < 6) (by omega)]
        refine br2 (nx _) (ih (l + 1) (m + 1) _ _ (by omega) (frZ_tr hf (frZ_tr (frZ_I (by omega)) (frZ_0 (by omega)))) ⟨by rw [uI_1, if_pos ⟨rfl, rfl⟩], by omega, fun i hi => ?_⟩)
        rw [uI_1, if_neg (by omega), uI_1]
        by_cases x : i = m
        · rw [if_pos ⟨rfl, x⟩]; exact ⟨l, by omega, by omega, rfl⟩
        · rw [if_neg (fun q => x q.2)]; exact hI.2.2 i (by omega)
      · have c6 : ((6 : Int32) ≤ Int32.ofNat m) ↔ True := iff_true_intro ((on_le (i := 6) (by omega) (by omega)).mpr (by omega))
        simp only [↓rF_I, ↓rF_L, ↓rF_R, ↓rF_N, rO_m, rB_m, ↓rI_m, wI_m, ↓rB2_m, ↓rB3_m, wB2_m, wB3_m, ↓rL_m, wL_m, ↓rQ_m, wQ_m, ↓lI_m, pI_m, pL_m, pR_m, sI_m, sBy_m, sBo_m, sL_m, sQ_m, fst_m, true_and, and_true, tg_some, ln_some, uI_1, uI_2, uL_1, uL_2, uL_3, uQ_1, uQ_2, uQ_3, rv_i, rv_l, rv_n, rv_b0, rv_b1, RMR, ne_eq, reduceCtorEq, not_false_eq_true, Option.getD_some, if_true, if_false, and_self, false_and, and_false, Nat.add_left_cancel_iff, Nat.add_eq_left, Nat.left_eq_add, Nat.one_ne_zero, Nat.reduceAdd, Nat.reduceLT, Nat.reduceLeDiff, Nat.reduceEqDiff, true_implies, false_implies, implies_true, Option.some.injEq, forall_eq', forall_eq, reduceCtorEq, brT, brF, br_s, i_10, i_01, ib_0_2, ib_1_2, tn_0, tn_1, Int32.le_refl, eq_self, rv_bN, rv_iM, RCM 81, RLY, lit_at hw, ad_2, ad_4, ad_6, ad_8, ad_10, ad_12, ad_16, ad_24, ad_27, ad_28, ad_31, ad_35, ad_43, ad_51, ad_107, ad_131, ad_311, ml_3, ml_6, ml_7, ml_60, ml_100, ml_2471, mq_12, ar_2, ar_3, ar_4, ar_5, ar_6, of_add, of_mul, on_succ, mt_0 hτ, l1, mr hρ (by omega : 12 + l < 2471), c, hI.1, c6]
        exact br2 (nx _) (nx _)
theorem s_219 {w : mT} {σ : mS} {τ ρ : Rw} {lots aim : Int32} {D : Nat} {K : Int32 → Hp → Prop} (hw : lit w) (hτ : mTold σ τ) (hρ : mRow σ 85 0 ρ) (hv : vTold τ) (hr : vRow τ ρ) (hz : ∀ σ', frZ σ σ' → K 0 (mW w σ')) (hy : ∀ σ' m, frZ σ σ' → oI σ' τ ρ m → oP σ' → K 1 (mW w σ')) (hD : 8 ≤ D) : wpI D 219 [.ref 81, .int lots, .int aim] (mW w σ) K := by
  refine sI_of (m := 7) (fun d hd Q hQ => ?_) rfl hD
  have hd1 : 1 ≤ d := by omega
  have fin0 := hQ _ _ (hz σ frZ_rf)
  refine b219_0 ?_
  by_cases y : 0 ≤ aim.toInt ∧ aim.toInt ≤ 999
  · obtain ⟨a, rfl, ha⟩ := ex_on (a := aim) (n := 1000) ⟨y.1, by omega⟩
    simp only [↓rF_I, ↓rF_L, ↓rF_R, ↓rF_N, rO_m, rB_m, ↓rI_m, wI_m, ↓rB2_m, ↓rB3_m, wB2_m, wB3_m, ↓rL_m, wL_m, ↓rQ_m, wQ_m, ↓lI_m, pI_m, pL_m, pR_m, sI_m, sBy_m, sBo_m, sL_m, sQ_m, fst_m, true_and, and_true, tg_some, ln_some, uI_1, uI_2, uL_1, uL_2, uL_3, uQ_1, uQ_2, uQ_3, rv_i, rv_l, rv_n, rv_b0, rv_b1, RMR, ne_eq, reduceCtorEq, not_false_eq_true, Option.getD_some, if_true, if_false, and_self, false_and, and_false, Nat.add_left_cancel_iff, Nat.add_eq_left, Nat.left_eq_add, Nat.one_ne_zero, Nat.reduceAdd, Nat.reduceLT, Nat.reduceLeDiff, Nat.reduceEqDiff, true_implies, false_implies, implies_true, Option.some.injEq, forall_eq', forall_eq, reduceCtorEq, brT, brF, br_s, i_10, i_01, ib_0_2, ib_1_2, tn_0, tn_1, Int32.le_refl, eq_self, rv_bN, rv_iM, RCM 81, RLY, lit_at hw, mt_0 hτ, g_129 hd1, vin_999, iB_t y, z10]
    have f1 : frZ σ (uI σ 81 27 0) := frZ_0 (by omega)
    refine br2 fin0 (br2 ?_ fin0)
    exact lp_219 hw (mT_c hτ (f1.1 83 (by omega) (by omega))) (mR_c hρ (f1.1 85 (by omega) (by omega))) hv hr (by omega) hd (fun σ' f => hQ _ _ (hz σ' (frZ_tr f1 f))) (fun σ' m f I P => hQ _ _ (hy σ' m (frZ_tr f1 f) I P)) (τ 0) 0 0 (uI σ 81 27 0) 0 (by omega) frZ_rf ⟨by rw [uI_1, if_pos ⟨rfl, rfl⟩]; rfl, by omega, fun i hi => by omega⟩
  · simp only [↓rF_I, ↓rF_L, ↓rF_R, ↓rF_N, rO_m, rB_m, ↓rI_m, wI_m, ↓rB2_m, ↓rB3_m, wB2_m, wB3_m, ↓rL_m, wL_m, ↓rQ_m, wQ_m, ↓lI_m, pI_m, pL_m, pR_m, sI_m, sBy_m, sBo_m, sL_m, sQ_m, fst_m, true_and, and_true, tg_some, ln_some, uI_1, uI_2, uL_1, uL_2, uL_3, uQ_1, uQ_2, uQ_3, rv_i, rv_l, rv_n, rv_b0, rv_b1, RMR, ne_eq, reduceCtorEq, not_false_eq_true, Option.getD_some, if_true, if_false, and_self, false_and, and_false, Nat.add_left_cancel_iff, Nat.add_eq_left, Nat.left_eq_add, Nat.one_ne_zero, Nat.reduceAdd, Nat.reduceLT, Nat.reduceLeDiff, Nat.reduceEqDiff, true_implies, false_implies, implies_true, Option.some.injEq, forall_eq', forall_eq, reduceCtorEq, brT, brF, br_s, i_10, i_01, ib_0_2, ib_1_2, tn_0, tn_1, Int32.le_refl, eq_self, rv_bN, rv_iM, RCM 81, RLY, lit_at hw, mt_0 hτ, g_129 hd1, vin_999, iB_f y, z00]
    repeat' (first | exact fin0 | refine br2 ?_ ?_)
theorem m_220 {w : mT} {σ : mS} {tp n : Nat} {t : Nat → Nat} {τ ρ : Rw} {bk : Nat → Rw} {has : Nat → Bool} {im : Nat → Rw} {a b c : Int32} {D : Nat} {K : Int32 → Hp → Prop} (h : mIn w σ tp t τ ρ n bk has im) (hK : ∀ v σ', frA σ σ' → mIn w σ' tp t τ ρ n bk has im → K v (mW w σ')) (hD : 9 ≤ D) : wpI D 220 [.ref 81, .int a, .int b, .int c] (mW w σ) K := by
  have M := h
  obtain ⟨hw, hτ, hρ, hv, hr, hp2, htp, htb, htl, hn, hn12, hbk, him⟩ := h
  have M0 := mIn_Z M (frZ_0 (j := 0) (x := 0) (by omega))
  obtain ⟨_, hτ0, hρ0, _, _, hp20, _, htb0, _, hn0, _, hbk0, him0⟩ := M0
  have M0 := mIn_Z M (frZ_0 (j := 0) (x := 0) (by omega))
  refine sI_of (m := 8) (fun d hd Q hQ => ?_) rfl hD
  have hd1 : 1 ≤ d := by omega
  have fin := fun (v : Int32) σ' (f : frZ (uI σ 81 0 0) σ') => hQ _ _ (hK v σ' (frZ_A (frZ_tr (frZ_0 (by omega)) f)) (mIn_Z M (frZ_tr (frZ_0 (by omega)) f)))
  refine b220_0 ?_
  have q : ∀ K2 : Int32 → Hp → Prop, (∀ σ', frZ (uI σ 81 0 0) σ' → K2 0 (mW w σ')) → (∀ σ' m, frZ (uI σ 81 0 0) σ' → oI σ' τ ρ m → oP σ' → K2 1 (mW w σ')) → wpI d 219 [.ref 81, .int a, .int b] (mW w (uI σ 81 0 0)) K2 := fun K2 z y => s_219 hw hτ0 hρ0 hv hr z y hd
  simp only [↓br_pos, ↓br_neg, ↓rF_I, ↓rF_L, ↓rF_R, ↓rF_N, rO_m, rB_m, ↓rI_m, wI_m, ↓rB2_m, ↓rB3_m, wB2_m, wB3_m, ↓rL_m, wL_m, ↓rQ_m, wQ_m, ↓lI_m, pI_m, pL_m, pR_m, sI_m, sBy_m, sBo_m, sL_m, sQ_m, fst_m, true_and, and_true, tg_some, ln_some, uI_1, uI_2, uL_1, uL_2, uL_3, uQ_1, uQ_2, uQ_3, rv_i, rv_l, rv_n, rv_b0, rv_b1, RMR, ne_eq, reduceCtorEq, not_false_eq_true, Option.getD_some, if_true, if_false, and_self, false_and, and_false, Nat.add_left_cancel_iff, Nat.add_eq_left, Nat.left_eq_add, Nat.one_ne_zero, Nat.reduceAdd, Nat.reduceLT, Nat.reduceLeDiff, Nat.reduceEqDiff, true_implies, false_implies, implies_true, Option.some.injEq, forall_eq', forall_eq, reduceCtorEq, brT, brF, br_s, i_10, i_01, ib_0_2, ib_1_2, tn_0, tn_1, Int32.le_refl, eq_self, rv_bN, rv_iM, RCM 81, RLY, lit_at hw]
  refine q _ (fun σ' f => ?_) (fun σ' m f I P => ?_)
  · simp only [↓br_pos, ↓br_neg, ↓rF_I, ↓rF_L, ↓rF_R, ↓rF_N, rO_m, rB_m, ↓rI_m, wI_m, ↓rB2_m, ↓rB3_m, wB2_m, wB3_m, ↓rL_m, wL_m, ↓rQ_m, wQ_m, ↓lI_m, pI_m, pL_m, pR_m, sI_m, sBy_m, sBo_m, sL_m, sQ_m, fst_m, true_and, and_true, tg_some, ln_some, uI_1, uI_2, uL_1, uL_2, uL_3, uQ_1, uQ_2, uQ_3, rv_i, rv_l, rv_n, rv_b0, rv_b1, RMR, ne_eq, reduceCtorEq, not_false_eq_true, Option.getD_some, if_true, if_false, and_self, false_and, and_false, Nat.add_left_cancel_iff, Nat.add_eq_left, Nat.left_eq_add, Nat.one_ne_zero, Nat.reduceAdd, Nat.reduceLT, Nat.reduceLeDiff, Nat.reduceEqDiff, true_implies, false_implies, implies_true, Option.some.injEq, forall_eq', forall_eq, reduceCtorEq, brT, brF, br_s, i_10, i_01, ib_0_2, ib_1_2, tn_0, tn_1, Int32.le_refl, eq_self, rv_bN, rv_iM, z00]
    exact fin _ σ' f
  · have m6 := I.2.1
    have vb := vin_n (a := c) (n := m) (by omega)
    rcases bN_01 (a := c) (n := m) with z | z
    · rw [z] at vb
      simp only [↓br_pos, ↓br_neg, ↓rF_I, ↓rF_L, ↓rF_R, ↓rF_N, rO_m, rB_m, ↓rI_m, wI_m, ↓rB2_m, ↓rB3_m, wB2_m, wB3_m, ↓rL_m, wL_m, ↓rQ_m, wQ_m, ↓lI_m, pI_m, pL_m, pR_m, sI_m, sBy_m, sBo_m, sL_m, sQ_m, fst_m, true_and, and_true, tg_some, ln_some, uI_1, uI_2, uL_1, uL_2, uL_3, uQ_1, uQ_2, uQ_3, rv_i, rv_l, rv_n, rv_b0, rv_b1, RMR, ne_eq, reduceCtorEq, not_false_eq_true, Option.getD_some, if_true, if_false, and_self, false_and, and_false, Nat.add_left_cancel_iff, Nat.add_eq_left, Nat.left_eq_add, Nat.one_ne_zero, Nat.reduceAdd, Nat.reduceLT, Nat.reduceLeDiff, Nat.reduceEqDiff, true_implies, false_implies, implies_true, Option.some.injEq, forall_eq', forall_eq, reduceCtorEq, brT, brF, br_s, i_10, i_01, ib_0_2, ib_1_2, tn_0, tn_1, Int32.le_refl, eq_self, rv_bN, rv_iM, RCM 81, RLY, lit_at hw, z10, z00, I.1, g_129 hd1, vb]
      exact fin _ σ' f
    · rw [z] at vb
      obtain ⟨i, rfl, hi⟩ := bN_ex z
      simp only [↓br_pos, ↓br_neg, ↓rF_I, ↓rF_L, ↓rF_R, ↓rF_N, rO_m, rB_m, ↓rI_m, wI_m, ↓rB2_m, ↓rB3_m, wB2_m, wB3_m, ↓rL_m, wL_m, ↓rQ_m, wQ_m, ↓lI_m, pI_m, pL_m, pR_m, sI_m, sBy_m, sBo_m, sL_m, sQ_m, fst_m, true_and, and_true, tg_some, ln_some, uI_1, uI_2, uL_1, uL_2, uL_3, uQ_1, uQ_2, uQ_3, rv_i, rv_l, rv_n, rv_b0, rv_b1, RMR, ne_eq, reduceCtorEq, not_false_eq_true, Option.getD_some, if_true, if_false, and_self, false_and, and_false, Nat.add_left_cancel_iff, Nat.add_eq_left, Nat.left_eq_add, Nat.one_ne_zero, Nat.reduceAdd, Nat.reduceLT, Nat.reduceLeDiff, Nat.reduceEqDiff, true_implies, false_implies, implies_true, Option.some.injEq, forall_eq', forall_eq, reduceCtorEq, brT, brF, br_s, i_10, i_01, ib_0_2, ib_1_2, tn_0, tn_1, Int32.le_refl, eq_self, rv_bN, rv_iM, RCM 81, RLY, lit_at hw, z10, I.1, g_129 hd1, vb, ix (by omega : i < 6) (by omega)]
      exact fin _ σ' f
theorem m_221 {w : mT} {σ : mS} {tp n : Nat} {t : Nat → Nat} {τ ρ : Rw} {bk : Nat → Rw} {has : Nat → Bool} {im : Nat → Rw} {a b : Int32} {D : Nat} {K : Int64 → Hp → Prop} (h : mIn w σ tp t τ ρ n bk has im) (hK : ∀ v σ', frA σ σ' → mIn w σ' tp t τ ρ n bk has im → K v (mW w σ')) (hD : 9 ≤ D) : wpL D 221 [.ref 81, .int a, .int b] (mW w σ) K := by
  have M := h
  obtain ⟨hw, hτ, hρ, hv, hr, hp2, htp, htb, htl, hn, hn12, hbk, him⟩ := h
  have M0 := mIn_Z M (frZ_0 (j := 0) (x := 0) (by omega))
  obtain ⟨_, hτ0, hρ0, _, _, hp20, _, htb0, _, hn0, _, hbk0, him0⟩ := M0
  have M0 := mIn_Z M (frZ_0 (j := 0) (x := 0) (by omega))
  refine sL_of (m := 8) (fun d hd Q hQ => ?_) rfl hD
  have hd1 : 1 ≤ d := by omega
  have fin := fun (v : Int64) σ' (f : frZ (uI σ 81 0 0) σ') => hQ _ _ (hK v σ' (frZ_A (frZ_tr (frZ_0 (by omega)) f)) (mIn_Z M (frZ_tr (frZ_0 (by omega)) f)))
  refine b221_0 ?_
  have q : ∀ K2 : Int32 → Hp → Prop, (∀ σ', frZ (uI σ 81 0 0) σ' → K2 0 (mW w σ')) → (∀ σ' m, frZ (uI σ 81 0 0) σ' → oI σ' τ ρ m → oP σ' → K2 1 (mW w σ')) → wpI d 219 [.ref 81, .int a, .int b] (mW w (uI σ 81 0 0)) K2 := fun K2 z y => s_219 hw hτ0 hρ0 hv hr z y hd
  simp only [↓br_pos, ↓br_neg, ↓rF_I, ↓rF_L, ↓rF_R, ↓rF_N, rO_m, rB_m, ↓rI_m, wI_m, ↓rB2_m, ↓rB3_m, wB2_m, wB3_m, ↓rL_m, wL_m, ↓rQ_m, wQ_m, ↓lI_m, pI_m, pL_m, pR_m, sI_m, sBy_m, sBo_m, sL_m, sQ_m, fst_m, true_and, and_true, tg_some, ln_some, uI_1, uI_2, uL_1, uL_2, uL_3, uQ_1, uQ_2, uQ_3, rv_i, rv_l, rv_n, rv_b0, rv_b1, RMR, ne_eq, reduceCtorEq, not_false_eq_true, Option.getD_some, if_true, if_false, and_self, false_and, and_false, Nat.add_left_cancel_iff, Nat.add_eq_left, Nat.left_eq_add, Nat.one_ne_zero, Nat.reduceAdd, Nat.reduceLT, Nat.reduceLeDiff, Nat.reduceEqDiff, true_implies, false_implies, implies_true, Option.some.injEq, forall_eq', forall_eq, reduceCtorEq, brT, brF, br_s, i_10, i_01, ib_0_2, ib_1_2, tn_0, tn_1, Int32.le_refl, eq_self, rv_bN, rv_iM, RCM 81, RLY, lit_at hw]
  refine q _ (fun σ' f => ?_) (fun σ' m f I P => ?_)
  · simp only [↓br_pos, ↓br_neg, ↓rF_I, ↓rF_L, ↓rF_R, ↓rF_N, rO_m, rB_m, ↓rI_m, wI_m, ↓rB2_m, ↓rB3_m, wB2_m, wB3_m, ↓rL_m, wL_m, ↓rQ_m, wQ_m, ↓lI_m, pI_m, pL_m, pR_m, sI_m, sBy_m, sBo_m, sL_m, sQ_m, fst_m, true_and, and_true, tg_some, ln_some, uI_1, uI_2, uL_1, uL_2, uL_3, uQ_1, uQ_2, uQ_3, rv_i, rv_l, rv_n, rv_b0, rv_b1, RMR, ne_eq, reduceCtorEq, not_false_eq_true, Option.getD_some, if_true, if_false, and_self, false_and, and_false, Nat.add_left_cancel_iff, Nat.add_eq_left, Nat.left_eq_add, Nat.one_ne_zero, Nat.reduceAdd, Nat.reduceLT, Nat.reduceLeDiff, Nat.reduceEqDiff, true_implies, false_implies, implies_true, Option.some.injEq, forall_eq', forall_eq, reduceCtorEq, brT, brF, br_s, i_10, i_01, ib_0_2, ib_1_2, tn_0, tn_1, Int32.le_refl, eq_self, rv_bN, rv_iM, z00]
    exact fin _ σ' f
  · obtain ⟨x, y, ex, ey, hy0, hx1, hy1⟩ := P
    have gp := Nat.gcd_pos_of_pos_right x hy0
    have gl : Nat.gcd x y ≤ y := Nat.gcd_le_right x hy0
    have cg : (Int64.ofNat (Nat.gcd x y) = 0) ↔ False := iff_false_intro (fun q => absurd ((ol_inj (b := 0) (by omega) (by omega)).mp q) (by omega))
    simp only [↓br_pos, ↓br_neg, ↓rF_I, ↓rF_L, ↓rF_R, ↓rF_N, rO_m, rB_m, ↓rI_m, wI_m, ↓rB2_m, ↓rB3_m, wB2_m, wB3_m, ↓rL_m, wL_m, ↓rQ_m, wQ_m, ↓lI_m, pI_m, pL_m, pR_m, sI_m, sBy_m, sBo_m, sL_m, sQ_m, fst_m, true_and, and_true, tg_some, ln_some, uI_1, uI_2, uL_1, uL_2, uL_3, uQ_1, uQ_2, uQ_3, rv_i, rv_l, rv_n, rv_b0, rv_b1, RMR, ne_eq, reduceCtorEq, not_false_eq_true, Option.getD_some, if_true, if_false, and_self, false_and, and_false, Nat.add_left_cancel_iff, Nat.add_eq_left, Nat.left_eq_add, Nat.one_ne_zero, Nat.reduceAdd, Nat.reduceLT, Nat.reduceLeDiff, Nat.reduceEqDiff, true_implies, false_implies, implies_true, Option.some.injEq, forall_eq', forall_eq, reduceCtorEq, brT, brF, br_s, i_10, i_01, ib_0_2, ib_1_2, tn_0, tn_1, Int32.le_refl, eq_self, rv_bN, rv_iM, RCM 81, RLY, lit_at hw, z10, ex, ey, g_207 (by omega : x < 9223372036854775808) (by omega : y < 9223372036854775808) hd1, cg]
    exact fin _ _ (frZ_tr f (frZ_L (by omega)))
def ckV (s : Nat) : Bool := decide ((Int32.ofNat s >>> (Int32.ofNat (ctz 12 s) &&& 31)) &&& (1 : Int32) = 1)
set_option maxRecDepth 100000 in
theorem ckV_all : ckA ckV 4095 = true := by decide +kernel
theorem ctz_b {s : Nat} (h1 : 1 ≤ s) (h2 : s < 4096) : (Int32.ofNat s >>> (Int32.ofNat (ctz 12 s) &&& 31)) &&& (1 : Int32) = 1 := of_decide_eq_true (ckA_t ckV_all s h1 (by omega))
theorem ctz_l {s L : Nat} (h1 : 1 ≤ s) (h2 : s < 4096) (h3 : s < 2 ^ L) : ctz 12 s < L := by
  obtain ⟨_, _, ka, _, _⟩ := nz_all h1 h2
  have pk : 0 < 2 ^ ctz 12 s := Nat.pow_pos (by omega)
  have k1 : 2 ^ ctz 12 s ≤ s := Decidable.byContradiction (fun q => by rw [Nat.mod_eq_of_lt (by omega)] at ka; omega)
  apply Decidable.byContradiction
  intro q
  have := Nat.pow_le_pow_right (n := 2) (by omega) (by omega : L ≤ ctz 12 s)
  omega
theorem s_190 {w : mT} {σ : mS} {τ : Rw} {s D : Nat} {a b : Int32} {K : Int32 → Hp → Prop} (hw : lit w) (hτ : mTold σ τ) (hs : s < 8) (hK : ∀ x, K x (mW w σ)) (hD : 2 ≤ D) : wpI D 190 [.ref 81, .int (Int32.ofNat s), .int a, .int b] (mW w σ) K := by
  refine sI_of (m := 1) (fun d hd Q hQ => ?_) rfl hD
  have fin := fun x : Int32 => hQ _ _ (hK x)
  have g1 := fun {K : Int32 → Hp → Prop} => g_155 (K := K) (s := s) (x := 1) (a := 1) hw hτ rfl (by omega) hd
  have g2 := fun {K : Int32 → Hp → Prop} => g_155 (K := K) (s := s) (x := 2) (a := 2) hw hτ rfl (by omega) hd
  refine b190_0 ?_
  simp only [↓rF_I, ↓rF_L, ↓rF_R, ↓rF_N, rO_m, rB_m, ↓rI_m, wI_m, ↓rB2_m, ↓rB3_m, wB2_m, wB3_m, ↓rL_m, wL_m, ↓rQ_m, wQ_m, ↓lI_m, pI_m, pL_m, pR_m, sI_m, sBy_m, sBo_m, sL_m, sQ_m, fst_m, true_and, and_true, tg_some, ln_some, uI_1, uI_2, uL_1, uL_2, uL_3, uQ_1, uQ_2, uQ_3, rv_i, rv_l, rv_n, rv_b0, rv_b1, RMR, ne_eq, reduceCtorEq, not_false_eq_true, Option.getD_some, if_true, if_false, and_self, false_and, and_false, Nat.add_left_cancel_iff, Nat.add_eq_left, Nat.left_eq_add, Nat.one_ne_zero, Nat.reduceAdd, Nat.reduceLT, Nat.reduceLeDiff, Nat.reduceEqDiff, true_implies, false_implies, implies_true, Option.some.injEq, forall_eq', forall_eq, reduceCtorEq, brT, brF, br_s, i_10, i_01, ib_0_2, ib_1_2, tn_0, tn_1, Int32.le_refl, eq_self, rv_bN, rv_iM, RCM 81, RLY, lit_at hw, g1, g2]
  repeat' (first | exact fin _ | refine br2 ?_ ?_)
theorem lp_225 {hp : Hp} {d : Nat} {a : Int32} {Q : Option (Option Value) → Hp → Prop} (hQ : ∀ x : Int32, Q (some (some (.int x))) hp) : ∀ (r i : Nat) (x : Int32), i + r = 12 → Wp 225 4 [.int a, .int x, .int (Int32.ofNat i)] [] hp Q d := by
  intro r
  induction r with
  | zero =>
    intro i x hi
    have hi' : i = 12 := by omega
    subst hi'
    have c : ((12 : Int32) ≤ Int32.ofNat 12) ↔ True := by decide
    refine b225_4 ?_
    simp only [↓br_pos, ↓br_neg, ↓rF_I, ↓rF_L, ↓rF_R, ↓rF_N, rO_m, rB_m, ↓rI_m, wI_m, ↓rB2_m, ↓rB3_m, wB2_m, wB3_m, ↓rL_m, wL_m, ↓rQ_m, wQ_m, ↓lI_m, pI_m, pL_m, pR_m, sI_m, sBy_m, sBo_m, sL_m, sQ_m, fst_m, true_and, and_true, tg_some, ln_some, uI_1, uI_2, uL_1, uL_2, uL_3, uQ_1, uQ_2, uQ_3, rv_i, rv_l, rv_n, rv_b0, rv_b1, RMR, ne_eq, reduceCtorEq, not_false_eq_true, Option.getD_some, if_true, if_false, and_self, false_and, and_false, Nat.add_left_cancel_iff, Nat.add_eq_left, Nat.left_eq_add, Nat.one_ne_zero, Nat.reduceAdd, Nat.reduceLT, Nat.reduceLeDiff, Nat.reduceEqDiff, true_implies, false_implies, implies_true, Option.some.injEq, forall_eq', forall_eq, reduceCtorEq, brT, brF, br_s, i_10, i_01, ib_0_2, ib_1_2, tn_0, tn_1, Int32.le_refl, eq_self, rv_bN, rv_iM, c]
    exact hQ x
  | succ r ih =>
    intro i x hi
    have c : ((12 : Int32) ≤ Int32.ofNat i) ↔ False := iff_false_intro (fun q => absurd ((on_le (i := 12) (by omega) (by omega)).mp q) (by omega))
    refine b225_4 ?_
    simp only [↓br_pos, ↓br_neg, ↓rF_I, ↓rF_L, ↓rF_R, ↓rF_N, rO_m, rB_m, ↓rI_m, wI_m, ↓rB2_m, ↓rB3_m, wB2_m, wB3_m, ↓rL_m, wL_m, ↓rQ_m, wQ_m, ↓lI_m, pI_m, pL_m, pR_m, sI_m, sBy_m, sBo_m, sL_m, sQ_m, fst_m, true_and, and_true, tg_some, ln_some, uI_1, uI_2, uL_1, uL_2, uL_3, uQ_1, uQ_2, uQ_3, rv_i, rv_l, rv_n, rv_b0, rv_b1, RMR, ne_eq, reduceCtorEq, not_false_eq_true, Option.getD_some, if_true, if_false, and_self, false_and, and_false, Nat.add_left_cancel_iff, Nat.add_eq_left, Nat.left_eq_add, Nat.one_ne_zero, Nat.reduceAdd, Nat.reduceLT, Nat.reduceLeDiff, Nat.reduceEqDiff, true_implies, false_implies, implies_true, Option.some.injEq, forall_eq', forall_eq, reduceCtorEq, brT, brF, br_s, i_10, i_01, ib_0_2, ib_1_2, tn_0, tn_1, Int32.le_refl, eq_self, rv_bN, rv_iM, c, on_succ]
    exact ih (i + 1) _ (by omega)
theorem s_225 {hp : Hp} {D : Nat} {a : Int32} {K : Int32 → Hp → Prop} (hK : ∀ x, K x hp) (hD : 1 ≤ D) : wpI D 225 [.int a] hp K := by
  refine sI_of (m := 0) (fun d hd Q hQ => ?_) rfl hD
  exact b225_0 (lp_225 (fun x => hQ _ _ (hK x)) 12 0 0 (by omega))
theorem s_224 {w : mT} {σ : mS} {τ ρ : Rw} {p a b D : Nat} {K : Hp → Prop} (hw : lit w) (hρ : mRow σ 85 0 ρ) (hv : vTold τ) (hr : vRow τ ρ) (hp : p < 1000) (ha : a < 12) (hb : b < 12) (hK : ∀ σ' q, frZ σ σ' → q < 12 → σ'.1 81 36 = Int32.ofNat q → K (mW w σ')) (hD : 2 ≤ D) : wpV D 224 [.ref 81, .int (Int32.ofNat p), .int (Int32.ofNat a), .int (Int32.ofNat b)] (mW w σ) K := by
  refine sV_of (m := 1) (fun d hd Q hQ => ?_) rfl hD
  have hs : ρ 3 < 1000 := onP_lt hv (vR_on hr (by omega : 1 < 2))
  have fin : ∀ (x : Int32) q, q < 12 → Q (some none) (mW w (uI (uI σ 81 35 x) 81 36 (Int32.ofNat q))) := fun x q hq => hQ _ (hK _ q (frZ_tr (frZ_0 (by omega)) (frZ_0 (by omega))) hq (by rw [uI_1, if_pos ⟨rfl, rfl⟩]))
  have g0 : ∀ {K : Int32 → Hp → Prop}, wpI d 170 [.ref 81, .int (1 : Int32), .int (Int32.ofNat p)] (mW w σ) K ↔ K (iB (onAtD ρ 1 p = true)) (mW w σ) := fun {K} => g_170 (m := 1) hw hρ (by omega) hs hp hd
  refine b224_0 ?_
  by_cases ho : onAtD ρ 1 p = true
  · have y0 := (of_decide_eq_true ho).1
    have g1 : ∀ {K : Int32 → Hp → Prop}, wpI d 171 [.ref 81, .int (1 : Int32)] (mW w σ) K ↔ K (Int32.ofNat (cellAt ρ 1)) (mW w σ) := fun {K} => g_171 (m := 1) hw hρ (by omega) y0 hs hd
    simp only [↓rF_I, ↓rF_L, ↓rF_R, ↓rF_N, rO_m, rB_m, ↓rI_m, wI_m, ↓rB2_m, ↓rB3_m, wB2_m, wB3_m, ↓rL_m, wL_m, ↓rQ_m, wQ_m, ↓lI_m, pI_m, pL_m, pR_m, sI_m, sBy_m, sBo_m, sL_m, sQ_m, fst_m, true_and, and_true, tg_some, ln_some, uI_1, uI_2, uL_1, uL_2, uL_3, uQ_1, uQ_2, uQ_3, rv_i, rv_l, rv_n, rv_b0, rv_b1, RMR, ne_eq, reduceCtorEq, not_false_eq_true, Option.getD_some, if_true, if_false, and_self, false_and, and_false, Nat.add_left_cancel_iff, Nat.add_eq_left, Nat.left_eq_add, Nat.one_ne_zero, Nat.reduceAdd, Nat.reduceLT, Nat.reduceLeDiff, Nat.reduceEqDiff, true_implies, false_implies, implies_true, Option.some.injEq, forall_eq', forall_eq, reduceCtorEq, brT, brF, br_s, i_10, i_01, ib_0_2, ib_1_2, tn_0, tn_1, Int32.le_refl, eq_self, rv_bN, rv_iM, RCM 81, RLY, lit_at hw, g0, iB_t ho, z10, g1]
    exact br2 (fin _ a ha) (fin _ b hb)
  · simp only [↓rF_I, ↓rF_L, ↓rF_R, ↓rF_N, rO_m, rB_m, ↓rI_m, wI_m, ↓rB2_m, ↓rB3_m, wB2_m, wB3_m, ↓rL_m, wL_m, ↓rQ_m, wQ_m, ↓lI_m, pI_m, pL_m, pR_m, sI_m, sBy_m, sBo_m, sL_m, sQ_m, fst_m, true_and, and_true, tg_some, ln_some, uI_1, uI_2, uL_1, uL_2, uL_3, uQ_1, uQ_2, uQ_3, rv_i, rv_l, rv_n, rv_b0, rv_b1, RMR, ne_eq, reduceCtorEq, not_false_eq_true, Option.getD_some, if_true, if_false, and_self, false_and, and_false, Nat.add_left_cancel_iff, Nat.add_eq_left, Nat.left_eq_add, Nat.one_ne_zero, Nat.reduceAdd, Nat.reduceLT, Nat.reduceLeDiff, Nat.reduceEqDiff, true_implies, false_implies, implies_true, Option.some.injEq, forall_eq', forall_eq, reduceCtorEq, brT, brF, br_s, i_10, i_01, ib_0_2, ib_1_2, tn_0, tn_1, Int32.le_refl, eq_self, rv_bN, rv_iM, RCM 81, RLY, lit_at hw, g0, iB_f ho, z00]
    exact fin _ b hb
theorem lp_226 {w : mT} {τ ρ : Rw} {s p S d : Nat} {σ0 : mS} {Q : Option (Option Value) → Hp → Prop} (hw : lit w) (hτ0 : mTold σ0 τ) (hρ0 : mRow σ0 85 0 ρ) (hv : vTold τ) (hr : vRow τ ρ) (hs : s < τ 2) (hp : p < τ 1) (hS : 1 ≤ S) (hS2 : S < 2 ^ τ (28 + p)) (hd : 2 ≤ d) (hQ : ∀ (x : Int32) σ', frZ σ0 σ' → Q (some (some (.int x))) (mW w σ')) : ∀ (r c : Nat) (σ : mS) (a4 a5 a6 : Int32), c + r = τ (28 + p) → frZ σ0 σ → ((a4 = -1 ∧ c ≤ ctz 12 S) ∨ ∃ a b, a < 12 ∧ b < 12 ∧ a4 = Int32.ofNat a ∧ a5 = Int32.ofNat b) → Wp 226 33 [.ref 81, .int (Int32.ofNat s), .int (Int32.ofNat p), .int (Int32.ofNat S), .int a4, .int a5, .int a6, .int (Int32.ofNat c)] [] (mW w σ) Q d := by
  have hd1 : 1 ≤ d := by omega
  have v1 := hv.2.1
  have v2 := hv.2.2.1
  have v3 := (hv.2.2.2.2.2.1 p hp).2
  have p12 : 2 ^ τ (28 + p) ≤ 2 ^ 12 := Nat.pow_le_pow_right (by omega) v3
  have cl := ctz_l hS (by omega) hS2
  have cb := ctz_b hS (by omega)
  intro r
  induction r with
  | zero =>
    intro c σ a4 a5 a6 hc hf hx
    have hτ := mT_c hτ0 (hf.1 83 (by omega) (by omega))
    have hρ := mR_c hρ0 (hf.1 85 (by omega) (by omega))
    have hc' : c = τ (28 + p) := by omega
    subst hc'
    obtain ⟨a, b, ha, hb, rfl, rfl⟩ := hx.resolve_left (fun q => by omega)
    have fin := fun x => hQ x σ hf
    refine b226_33 ?_
    simp only [↓rF_I, ↓rF_L, ↓rF_R, ↓rF_N, rO_m, rB_m, ↓rI_m, wI_m, ↓rB2_m, ↓rB3_m, wB2_m, wB3_m, ↓rL_m, wL_m, ↓rQ_m, wQ_m, ↓lI_m, pI_m, pL_m, pR_m, sI_m, sBy_m, sBo_m, sL_m, sQ_m, fst_m, true_and, and_true, tg_some, ln_some, uI_1, uI_2, uL_1, uL_2, uL_3, uQ_1, uQ_2, uQ_3, rv_i, rv_l, rv_n, rv_b0, rv_b1, RMR, ne_eq, reduceCtorEq, not_false_eq_true, Option.getD_some, if_true, if_false, and_self, false_and, and_false, Nat.add_left_cancel_iff, Nat.add_eq_left, Nat.left_eq_add, Nat.one_ne_zero, Nat.reduceAdd, Nat.reduceLT, Nat.reduceLeDiff, Nat.reduceEqDiff, true_implies, false_implies, implies_true, Option.some.injEq, forall_eq', forall_eq, reduceCtorEq, brT, brF, br_s, i_10, i_01, ib_0_2, ib_1_2, tn_0, tn_1, Int32.le_refl, eq_self, rv_bN, rv_iM, RCM 81, RLY, lit_at hw, ad_2, ad_4, ad_6, ad_8, ad_10, ad_12, ad_16, ad_24, ad_27, ad_28, ad_31, ad_35, ad_43, ad_51, ad_107, ad_131, ad_311, ml_3, ml_6, ml_7, ml_60, ml_100, ml_2471, mq_12, ar_2, ar_3, ar_4, ar_5, ar_6, of_add, of_mul, on_succ, mt hτ (by omega : 28 + p < 79), Int32.le_refl]
    refine s_224 hw hρ hv hr (by omega) ha hb (fun σ' q f hq e => ?_) hd
    have hτ' := mT_c hτ (f.1 83 (by omega) (by omega))
    have fin := fun x => hQ x σ' (frZ_tr hf f)
    have g1 := fun {K : Int32 → Hp → Prop} => g_155 (K := K) (s := s) (x := 0) (a := 0) hw hτ' rfl (by omega) hd1
    simp only [↓rF_I, ↓rF_L, ↓rF_R, ↓rF_N, rO_m, rB_m, ↓rI_m, wI_m, ↓rB2_m, ↓rB3_m, wB2_m, wB3_m, ↓rL_m, wL_m, ↓rQ_m, wQ_m, ↓lI_m, pI_m, pL_m, pR_m, sI_m, sBy_m, sBo_m, sL_m, sQ_m, fst_m, true_and, and_true, tg_some, ln_some, uI_1, uI_2, uL_1, uL_2, uL_3, uQ_1, uQ_2, uQ_3, rv_i, rv_l, rv_n, rv_b0, rv_b1, RMR, ne_eq, reduceCtorEq, not_false_eq_true, Option.getD_some, if_true, if_false, and_self, false_and, and_false, Nat.add_left_cancel_iff, Nat.add_eq_left, Nat.left_eq_add, Nat.one_ne_zero, Nat.reduceAdd, Nat.reduceLT, Nat.reduceLeDiff, Nat.reduceEqDiff, true_implies, false_implies, implies_true, Option.some.injEq, forall_eq', forall_eq, reduceCtorEq, brT, brF, br_s, i_10, i_01, ib_0_2, ib_1_2, tn_0, tn_1, Int32.le_refl, eq_self, rv_bN, rv_iM, RCM 81, RLY, lit_at hw, g1, e, ix (by omega : q < 12) (by omega)]
    refine br2 (fin _) (br2 (fin _) ?_)
    refine s_190 hw hτ' (by omega) (fun x => ?_) hd
    exact br2 (fin _) (fin _)
  | succ r ih =>
    intro c σ a4 a5 a6 hc hf hx
    have hτ := mT_c hτ0 (hf.1 83 (by omega) (by omega))
    have l1 : (Int32.ofNat (τ (28 + p)) ≤ Int32.ofNat c) ↔ False := iff_false_intro (fun q => absurd ((on_le (by omega) (by omega)).mp q) (by omega))
    have fin := fun x => hQ x σ hf
    refine b226_33 ?_
    by_cases z : (Int32.ofNat S >>> (Int32.ofNat c &&& 31)) &&& (1 : Int32) = 1
    · rcases hx with ⟨rfl, _⟩ | ⟨a, b, ha, hb, rfl, rfl⟩
      · have c1 : ((-1 : Int32) = -1) ↔ True := iff_true_intro rfl
        simp only [↓rF_I, ↓rF_L, ↓rF_R, ↓rF_N, rO_m, rB_m, ↓rI_m, wI_m, ↓rB2_m, ↓rB3_m, wB2_m, wB3_m, ↓rL_m, wL_m, ↓rQ_m, wQ_m, ↓lI_m, pI_m, pL_m, pR_m, sI_m, sBy_m, sBo_m, sL_m, sQ_m, fst_m, true_and, and_true, tg_some, ln_some, uI_1, uI_2, uL_1, uL_2, uL_3, uQ_1, uQ_2, uQ_3, rv_i, rv_l, rv_n, rv_b0, rv_b1, RMR, ne_eq, reduceCtorEq, not_false_eq_true, Option.getD_some, if_true, if_false, and_self, false_and, and_false, Nat.add_left_cancel_iff, Nat.add_eq_left, Nat.left_eq_add, Nat.one_ne_zero, Nat.reduceAdd, Nat.reduceLT, Nat.reduceLeDiff, Nat.reduceEqDiff, true_implies, false_implies, implies_true, Option.some.injEq, forall_eq', forall_eq, reduceCtorEq, brT, brF, br_s, i_10, i_01, ib_0_2, ib_1_2, tn_0, tn_1, Int32.le_refl, eq_self, rv_bN, rv_iM, RCM 81, RLY, lit_at hw, ad_2, ad_4, ad_6, ad_8, ad_10, ad_12, ad_16, ad_24, ad_27, ad_28, ad_31, ad_35, ad_43, ad_51, ad_107, ad_131, ad_311, ml_3, ml_6, ml_7, ml_60, ml_100, ml_2471, mq_12, ar_2, ar_3, ar_4, ar_5, ar_6, of_add, of_mul, on_succ, mt hτ (by omega : 28 + p < 79), l1, z, ix (by omega : c < 12) (by omega), c1]
        refine br2 (fin _) (b226_116 ?_)
        rw [on_succ]
        exact ih (c + 1) _ _ _ _ (by omega) (frZ_tr hf (frZ_0 (by omega))) (Or.inr ⟨c, c, by omega, by omega, rfl, rfl⟩)
      · have c1 : (Int32.ofNat a = (-1 : Int32)) ↔ False := on_m1 (by omega)
        simp only [↓rF_I, ↓rF_L, ↓rF_R, ↓rF_N, rO_m, rB_m, ↓rI_m, wI_m, ↓rB2_m, ↓rB3_m, wB2_m, wB3_m, ↓rL_m, wL_m, ↓rQ_m, wQ_m, ↓lI_m, pI_m, pL_m, pR_m, sI_m, sBy_m, sBo_m, sL_m, sQ_m, fst_m, true_and, and_true, tg_some, ln_some, uI_1, uI_2, uL_1, uL_2, uL_3, uQ_1, uQ_2, uQ_3, rv_i, rv_l, rv_n, rv_b0, rv_b1, RMR, ne_eq, reduceCtorEq, not_false_eq_true, Option.getD_some, if_true, if_false, and_self, false_and, and_false, Nat.add_left_cancel_iff, Nat.add_eq_left, Nat.left_eq_add, Nat.one_ne_zero, Nat.reduceAdd, Nat.reduceLT, Nat.reduceLeDiff, Nat.reduceEqDiff, true_implies, false_implies, implies_true, Option.some.injEq, forall_eq', forall_eq, reduceCtorEq, brT, brF, br_s, i_10, i_01, ib_0_2, ib_1_2, tn_0, tn_1, Int32.le_refl, eq_self, rv_bN, rv_iM, RCM 81, RLY, lit_at hw, ad_2, ad_4, ad_6, ad_8, ad_10, ad_12, ad_16, ad_24, ad_27, ad_28, ad_31, ad_35, ad_43, ad_51, ad_107, ad_131, ad_311, ml_3, ml_6, ml_7, ml_60, ml_100, ml_2471, mq_12, ar_2, ar_3, ar_4, ar_5, ar_6, of_add, of_mul, on_succ, mt hτ (by omega : 28 + p < 79), l1, z, ix (by omega : c < 12) (by omega), c1]
        refine br2 (fin _) (b226_116 ?_)
        rw [on_succ]
        exact ih (c + 1) _ _ _ _ (by omega) (frZ_tr hf (frZ_0 (by omega))) (Or.inr ⟨a, c, ha, by omega, rfl, rfl⟩)
    · simp only [↓rF_I, ↓rF_L, ↓rF_R, ↓rF_N, rO_m, rB_m, ↓rI_m, wI_m, ↓rB2_m, ↓rB3_m, wB2_m, wB3_m, ↓rL_m, wL_m, ↓rQ_m, wQ_m, ↓lI_m, pI_m, pL_m, pR_m, sI_m, sBy_m, sBo_m, sL_m, sQ_m, fst_m, true_and, and_true, tg_some, ln_some, uI_1, uI_2, uL_1, uL_2, uL_3, uQ_1, uQ_2, uQ_3, rv_i, rv_l, rv_n, rv_b0, rv_b1, RMR, ne_eq, reduceCtorEq, not_false_eq_true, Option.getD_some, if_true, if_false, and_self, false_and, and_false, Nat.add_left_cancel_iff, Nat.add_eq_left, Nat.left_eq_add, Nat.one_ne_zero, Nat.reduceAdd, Nat.reduceLT, Nat.reduceLeDiff, Nat.reduceEqDiff, true_implies, false_implies, implies_true, Option.some.injEq, forall_eq', forall_eq, reduceCtorEq, brT, brF, br_s, i_10, i_01, ib_0_2, ib_1_2, tn_0, tn_1, Int32.le_refl, eq_self, rv_bN, rv_iM, RCM 81, RLY, lit_at hw, ad_2, ad_4, ad_6, ad_8, ad_10, ad_12, ad_16, ad_24, ad_27, ad_28, ad_31, ad_35, ad_43, ad_51, ad_107, ad_131, ad_311, ml_3, ml_6, ml_7, ml_60, ml_100, ml_2471, mq_12, ar_2, ar_3, ar_4, ar_5, ar_6, of_add, of_mul, on_succ, mt hτ (by omega : 28 + p < 79), l1, z]
      refine b226_116 ?_
      rw [on_succ]
      refine ih (c + 1) σ _ _ _ (by omega) hf (hx.imp (fun q => ⟨q.1, ?_⟩) id)
      have : c ≠ ctz 12 S := fun e => z (by rw [e]; exact cb)
      omega
theorem s_226 {w : mT} {σ : mS} {τ ρ : Rw} {s p S D : Nat} {K : Int32 → Hp → Prop} (hw : lit w) (hτ : mTold σ τ) (hρ : mRow σ 85 0 ρ) (hv : vTold τ) (hr : vRow τ ρ) (hs : s < τ 2) (hp : p < τ 1) (hS : 1 ≤ S) (hS2 : S < 2 ^ τ (28 + p)) (hK : ∀ (x : Int32) σ', frZ σ σ' → K x (mW w σ')) (hD : 3 ≤ D) : wpI D 226 [.ref 81, .int (Int32.ofNat s), .int (Int32.ofNat p), .int (Int32.ofNat S)] (mW w σ) K := by
  refine sI_of (m := 2) (fun d hd Q hQ => ?_) rfl hD
  have v2 := hv.2.2.1
  refine b226_0 ?_
  have f1 := fun x : Int32 => (frZ_0 (by omega) : frZ σ (uI σ 81 37 x))
  simp only [↓rF_I, ↓rF_L, ↓rF_R, ↓rF_N, rO_m, rB_m, ↓rI_m, wI_m, ↓rB2_m, ↓rB3_m, wB2_m, wB3_m, ↓rL_m, wL_m, ↓rQ_m, wQ_m, ↓lI_m, pI_m, pL_m, pR_m, sI_m, sBy_m, sBo_m, sL_m, sQ_m, fst_m, true_and, and_true, tg_some, ln_some, uI_1, uI_2, uL_1, uL_2, uL_3, uQ_1, uQ_2, uQ_3, rv_i, rv_l, rv_n, rv_b0, rv_b1, RMR, ne_eq, reduceCtorEq, not_false_eq_true, Option.getD_some, if_true, if_false, and_self, false_and, and_false, Nat.add_left_cancel_iff, Nat.add_eq_left, Nat.left_eq_add, Nat.one_ne_zero, Nat.reduceAdd, Nat.reduceLT, Nat.reduceLeDiff, Nat.reduceEqDiff, true_implies, false_implies, implies_true, Option.some.injEq, forall_eq', forall_eq, reduceCtorEq, brT, brF, br_s, i_10, i_01, ib_0_2, ib_1_2, tn_0, tn_1, Int32.le_refl, eq_self, rv_bN, rv_iM, RCM 81, RLY, lit_at hw, ad_2, ad_4, ad_6, ad_8, ad_10, ad_12, ad_16, ad_24, ad_27, ad_28, ad_31, ad_35, ad_43, ad_51, ad_107, ad_131, ad_311, ml_3, ml_6, ml_7, ml_60, ml_100, ml_2471, mq_12, ar_2, ar_3, ar_4, ar_5, ar_6, of_add, of_mul, on_succ, mr hρ (by omega : 27 + s < 2471), mr hρ (by omega : 35 + s < 2471)]
  exact b226_30 (lp_226 (a4 := -1) hw (mT_c hτ ((f1 _).1 83 (by omega) (by omega))) (mR_c hρ ((f1 _).1 85 (by omega) (by omega))) hv hr hs hp hS hS2 hd (fun x σ' f => hQ _ _ (hK x σ' (frZ_tr (f1 _) f))) (τ (28 + p)) 0 _ _ _ (by omega) frZ_rf (Or.inl ⟨rfl, Nat.zero_le _⟩))
theorem lp_227b {w : mT} {τ ρ : Rw} {s p d : Nat} {a3 : Int32} {σ0 : mS} {Q : Option (Option Value) → Hp → Prop} (hw : lit w) (hτ0 : mTold σ0 τ) (hρ0 : mRow σ0 85 0 ρ) (hv : vTold τ) (hr : vRow τ ρ) (hs : s < τ 2) (hp : p < τ 1) (hd : 3 ≤ d) (hQ : ∀ (x : Int32) σ', frZ σ0 σ' → Q (some (some (.int x))) (mW w σ')) : ∀ (r S : Nat) (σ : mS) (a4 a5 a6 : Int32), S + r = 2 ^ τ (28 + p) → 1 ≤ S → frZ σ0 σ → Wp 227 121 [.ref 81, .int (Int32.ofNat s), .int (Int32.ofNat p), .int a3, .int a4, .int a5, .int a6, .int (Int32.ofNat S)] [] (mW w σ) Q d := by
  have hd1 : 1 ≤ d := by omega
  have v1 := hv.2.1
  have v3 := (hv.2.2.2.2.2.1 p hp).2
  have p12 : 2 ^ τ (28 + p) ≤ 2 ^ 12 := Nat.pow_le_pow_right (by omega) v3
  intro r
  induction r with
  | zero =>
    intro S σ a4 a5 a6 hS h1 hf
    have hτ := mT_c hτ0 (hf.1 83 (by omega) (by omega))
    have hS' : S = 2 ^ τ (28 + p) := by omega
    have c : (Int32.ofNat (2 ^ τ (28 + p)) ≤ Int32.ofNat S) ↔ True := iff_true_intro ((on_le (by omega) (by omega)).mpr (by omega))
    have fin := fun x => hQ x σ hf
    refine b227_121 ?_
    simp only [↓rF_I, ↓rF_L, ↓rF_R, ↓rF_N, rO_m, rB_m, ↓rI_m, wI_m, ↓rB2_m, ↓rB3_m, wB2_m, wB3_m, ↓rL_m, wL_m, ↓rQ_m, wQ_m, ↓lI_m, pI_m, pL_m, pR_m, sI_m, sBy_m, sBo_m, sL_m, sQ_m, fst_m, true_and, and_true, tg_some, ln_some, uI_1, uI_2, uL_1, uL_2, uL_3, uQ_1, uQ_2, uQ_3, rv_i, rv_l, rv_n, rv_b0, rv_b1, RMR, ne_eq, reduceCtorEq, not_false_eq_true, Option.getD_some, if_true, if_false, and_self, false_and, and_false, Nat.add_left_cancel_iff, Nat.add_eq_left, Nat.left_eq_add, Nat.one_ne_zero, Nat.reduceAdd, Nat.reduceLT, Nat.reduceLeDiff, Nat.reduceEqDiff, true_implies, false_implies, implies_true, Option.some.injEq, forall_eq', forall_eq, reduceCtorEq, brT, brF, br_s, i_10, i_01, ib_0_2, ib_1_2, tn_0, tn_1, Int32.le_refl, eq_self, rv_bN, rv_iM, RCM 81, RLY, lit_at hw, ad_2, ad_4, ad_6, ad_8, ad_10, ad_12, ad_16, ad_24, ad_27, ad_28, ad_31, ad_35, ad_43, ad_51, ad_107, ad_131, ad_311, ml_3, ml_6, ml_7, ml_60, ml_100, ml_2471, mq_12, ar_2, ar_3, ar_4, ar_5, ar_6, of_add, of_mul, on_succ, mt hτ (by omega : 28 + p < 79), shl12 v3, c]
    repeat' (first | exact fin _ | refine br2 ?_ ?_)
  | succ r ih =>
    intro S σ a4 a5 a6 hS h1 hf
    have hτ := mT_c hτ0 (hf.1 83 (by omega) (by omega))
    have hρ := mR_c hρ0 (hf.1 85 (by omega) (by omega))
    have c : (Int32.ofNat (2 ^ τ (28 + p)) ≤ Int32.ofNat S) ↔ False := iff_false_intro (fun q => absurd ((on_le (by omega) (by omega)).mp q) (by omega))
    refine b227_121 ?_
    simp only [↓rF_I, ↓rF_L, ↓rF_R, ↓rF_N, rO_m, rB_m, ↓rI_m, wI_m, ↓rB2_m, ↓rB3_m, wB2_m, wB3_m, ↓rL_m, wL_m, ↓rQ_m, wQ_m, ↓lI_m, pI_m, pL_m, pR_m, sI_m, sBy_m, sBo_m, sL_m, sQ_m, fst_m, true_and, and_true, tg_some, ln_some, uI_1, uI_2, uL_1, uL_2, uL_3, uQ_1, uQ_2, uQ_3, rv_i, rv_l, rv_n, rv_b0, rv_b1, RMR, ne_eq, reduceCtorEq, not_false_eq_true, Option.getD_some, if_true, if_false, and_self, false_and, and_false, Nat.add_left_cancel_iff, Nat.add_eq_left, Nat.left_eq_add, Nat.one_ne_zero, Nat.reduceAdd, Nat.reduceLT, Nat.reduceLeDiff, Nat.reduceEqDiff, true_implies, false_implies, implies_true, Option.some.injEq, forall_eq', forall_eq, reduceCtorEq, brT, brF, br_s, i_10, i_01, ib_0_2, ib_1_2, tn_0, tn_1, Int32.le_refl, eq_self, rv_bN, rv_iM, RCM 81, RLY, lit_at hw, ad_2, ad_4, ad_6, ad_8, ad_10, ad_12, ad_16, ad_24, ad_27, ad_28, ad_31, ad_35, ad_43, ad_51, ad_107, ad_131, ad_311, ml_3, ml_6, ml_7, ml_60, ml_100, ml_2471, mq_12, ar_2, ar_3, ar_4, ar_5, ar_6, of_add, of_mul, on_succ, mt hτ (by omega : 28 + p < 79), shl12 v3, c]
    refine s_226 hw hτ hρ hv hr hs hp h1 (by omega) (fun x σ' f => ?_) hd
    have nx := fun a4 a5 a6 => ih (S + 1) σ' a4 a5 a6 (by omega) (by omega) (frZ_tr hf f)
    have nx' : ∀ a4 a5 a6, Wp 227 203 [.ref 81, .int (Int32.ofNat s), .int (Int32.ofNat p), .int a3, .int a4, .int a5, .int a6, .int (Int32.ofNat S)] [] (mW w σ') Q d := fun a4 a5 a6 => b227_203 (by rw [on_succ]; exact nx a4 a5 a6)
    simp only [↓rF_I, ↓rF_L, ↓rF_R, ↓rF_N, rO_m, rB_m, ↓rI_m, wI_m, ↓rB2_m, ↓rB3_m, wB2_m, wB3_m, ↓rL_m, wL_m, ↓rQ_m, wQ_m, ↓lI_m, pI_m, pL_m, pR_m, sI_m, sBy_m, sBo_m, sL_m, sQ_m, fst_m, true_and, and_true, tg_some, ln_some, uI_1, uI_2, uL_1, uL_2, uL_3, uQ_1, uQ_2, uQ_3, rv_i, rv_l, rv_n, rv_b0, rv_b1, RMR, ne_eq, reduceCtorEq, not_false_eq_true, Option.getD_some, if_true, if_false, and_self, false_and, and_false, Nat.add_left_cancel_iff, Nat.add_eq_left, Nat.left_eq_add, Nat.one_ne_zero, Nat.reduceAdd, Nat.reduceLT, Nat.reduceLeDiff, Nat.reduceEqDiff, true_implies, false_implies, implies_true, Option.some.injEq, forall_eq', forall_eq, reduceCtorEq, brT, brF, br_s, i_10, i_01, ib_0_2, ib_1_2, tn_0, tn_1, Int32.le_refl, eq_self, rv_bN, rv_iM, RCM 81, RLY, lit_at hw]
    have two : wpI d 225 [.int (Int32.ofNat S)] (mW w σ') (fun x12 h11 => (wpI d 225 [.int a4] h11 (fun x14 h13 => br (x14 ≤ x12) (Wp 227 203 [.ref 81, .int (Int32.ofNat s), .int (Int32.ofNat p), .int a3, .int a4, .int a5, .int a6, .int (Int32.ofNat S)] [] h13 Q d) (∃ x15 : Int32, hF h13 81 8 35 (.int x15) ∧ (∃ x16 : Int32, hF h13 81 8 37 (.int x16) ∧ (Wp 227 203 [.ref 81, .int (Int32.ofNat s), .int (Int32.ofNat p), .int a3, .int (Int32.ofNat S), .int x15, .int x16, .int (Int32.ofNat S)] [] h13 Q d)))))) := by
      refine s_225 (fun x => ?_) hd1
      refine s_225 (fun y => ?_) hd1
      simp only [↓rF_I, ↓rF_L, ↓rF_R, ↓rF_N, rO_m, rB_m, ↓rI_m, wI_m, ↓rB2_m, ↓rB3_m, wB2_m, wB3_m, ↓rL_m, wL_m, ↓rQ_m, wQ_m, ↓lI_m, pI_m, pL_m, pR_m, sI_m, sBy_m, sBo_m, sL_m, sQ_m, fst_m, true_and, and_true, tg_some, ln_some, uI_1, uI_2, uL_1, uL_2, uL_3, uQ_1, uQ_2, uQ_3, rv_i, rv_l, rv_n, rv_b0, rv_b1, RMR, ne_eq, reduceCtorEq, not_false_eq_true, Option.getD_some, if_true, if_false, and_self, false_and, and_false, Nat.add_left_cancel_iff, Nat.add_eq_left, Nat.left_eq_add, Nat.one_ne_zero, Nat.reduceAdd, Nat.reduceLT, Nat.reduceLeDiff, Nat.reduceEqDiff, true_implies, false_implies, implies_true, Option.some.injEq, forall_eq', forall_eq, reduceCtorEq, brT, brF, br_s, i_10, i_01, ib_0_2, ib_1_2, tn_0, tn_1, Int32.le_refl, eq_self, rv_bN, rv_iM, RCM 81, RLY, lit_at hw]
      exact br2 (nx' _ _ _) (nx' _ _ _)
    repeat' (first | exact nx' _ _ _ | exact two | refine br2 ?_ ?_)
theorem lp_227a {w : mT} {τ ρ : Rw} {s p d : Nat} {a3 : Int32} {σ0 : mS} {Q : Option (Option Value) → Hp → Prop} (hw : lit w) (hτ0 : mTold σ0 τ) (hρ0 : mRow σ0 85 0 ρ) (hv : vTold τ) (hr : vRow τ ρ) (hs : s < τ 2) (hp : p < τ 1) (hd : 3 ≤ d) (hQ : ∀ (x : Int32) σ', frZ σ0 σ' → Q (some (some (.int x))) (mW w σ')) : ∀ (r c : Nat) (σ : mS), c + r = τ (28 + p) → frZ σ0 σ → Wp 227 58 [.ref 81, .int (Int32.ofNat s), .int (Int32.ofNat p), .int a3, .int (Int32.ofNat c), jk, jk, jk] [] (mW w σ) Q d := by
  have hd2 : 2 ≤ d := by omega
  have v1 := hv.2.1
  have v3 := (hv.2.2.2.2.2.1 p hp).2
  intro r
  induction r with
  | zero =>
    intro c σ hc hf
    have hτ := mT_c hτ0 (hf.1 83 (by omega) (by omega))
    have hρ := mR_c hρ0 (hf.1 85 (by omega) (by omega))
    have hc' : c = τ (28 + p) := by omega
    subst hc'
    have p1 : 1 ≤ 2 ^ τ (28 + p) := Nat.pow_pos (by omega)
    refine b227_58 ?_
    simp only [↓rF_I, ↓rF_L, ↓rF_R, ↓rF_N, rO_m, rB_m, ↓rI_m, wI_m, ↓rB2_m, ↓rB3_m, wB2_m, wB3_m, ↓rL_m, wL_m, ↓rQ_m, wQ_m, ↓lI_m, pI_m, pL_m, pR_m, sI_m, sBy_m, sBo_m, sL_m, sQ_m, fst_m, true_and, and_true, tg_some, ln_some, uI_1, uI_2, uL_1, uL_2, uL_3, uQ_1, uQ_2, uQ_3, rv_i, rv_l, rv_n, rv_b0, rv_b1, RMR, ne_eq, reduceCtorEq, not_false_eq_true, Option.getD_some, if_true, if_false, and_self, false_and, and_false, Nat.add_left_cancel_iff, Nat.add_eq_left, Nat.left_eq_add, Nat.one_ne_zero, Nat.reduceAdd, Nat.reduceLT, Nat.reduceLeDiff, Nat.reduceEqDiff, true_implies, false_implies, implies_true, Option.some.injEq, forall_eq', forall_eq, reduceCtorEq, brT, brF, br_s, i_10, i_01, ib_0_2, ib_1_2, tn_0, tn_1, Int32.le_refl, eq_self, rv_bN, rv_iM, RCM 81, RLY, lit_at hw, ad_2, ad_4, ad_6, ad_8, ad_10, ad_12, ad_16, ad_24, ad_27, ad_28, ad_31, ad_35, ad_43, ad_51, ad_107, ad_131, ad_311, ml_3, ml_6, ml_7, ml_60, ml_100, ml_2471, mq_12, ar_2, ar_3, ar_4, ar_5, ar_6, of_add, of_mul, on_succ, mt hτ (by omega : 28 + p < 79), Int32.le_refl]
    exact b227_118 (lp_227b hw hτ hρ hv hr hs hp hd (fun x σ' f => hQ x σ' (frZ_tr hf f)) (2 ^ τ (28 + p) - 1) 1 σ _ _ _ (by omega) (by omega) frZ_rf)
  | succ r ih =>
    intro c σ hc hf
    have hτ := mT_c hτ0 (hf.1 83 (by omega) (by omega))
    have hρ := mR_c hρ0 (hf.1 85 (by omega) (by omega))
    have l1 : (Int32.ofNat (τ (28 + p)) ≤ Int32.ofNat c) ↔ False := iff_false_intro (fun q => absurd ((on_le (by omega) (by omega)).mp q) (by omega))
    refine b227_58 ?_
    simp only [↓rF_I, ↓rF_L, ↓rF_R, ↓rF_N, rO_m, rB_m, ↓rI_m, wI_m, ↓rB2_m, ↓rB3_m, wB2_m, wB3_m, ↓rL_m, wL_m, ↓rQ_m, wQ_m, ↓lI_m, pI_m, pL_m, pR_m, sI_m, sBy_m, sBo_m, sL_m, sQ_m, fst_m, true_and, and_true, tg_some, ln_some, uI_1, uI_2, uL_1, uL_2, uL_3, uQ_1, uQ_2, uQ_3, rv_i, rv_l, rv_n, rv_b0, rv_b1, RMR, ne_eq, reduceCtorEq, not_false_eq_true, Option.getD_some, if_true, if_false, and_self, false_and, and_false, Nat.add_left_cancel_iff, Nat.add_eq_left, Nat.left_eq_add, Nat.one_ne_zero, Nat.reduceAdd, Nat.reduceLT, Nat.reduceLeDiff, Nat.reduceEqDiff, true_implies, false_implies, implies_true, Option.some.injEq, forall_eq', forall_eq, reduceCtorEq, brT, brF, br_s, i_10, i_01, ib_0_2, ib_1_2, tn_0, tn_1, Int32.le_refl, eq_self, rv_bN, rv_iM, RCM 81, RLY, lit_at hw, ad_2, ad_4, ad_6, ad_8, ad_10, ad_12, ad_16, ad_24, ad_27, ad_28, ad_31, ad_35, ad_43, ad_51, ad_107, ad_131, ad_311, ml_3, ml_6, ml_7, ml_60, ml_100, ml_2471, mq_12, ar_2, ar_3, ar_4, ar_5, ar_6, of_add, of_mul, on_succ, mt hτ (by omega : 28 + p < 79), l1, g_158c hw hτ hρ hv hr (by omega : p < 3) (by omega : c < 12) hd2, ix (by omega : c < 12) (by omega)]
    exact ih (c + 1) _ (by omega) (frZ_tr hf (frZ_tr frZ_su (frZ_tr (frZ_I (by omega)) (frZ_I (by omega)))))
theorem m_227 {w : mT} {σ : mS} {tp n : Nat} {t : Nat → Nat} {τ ρ : Rw} {bk : Nat → Rw} {has : Nat → Bool} {im : Nat → Rw} {a b c : Int32} {D : Nat} {K : Int32 → Hp → Prop} (h : mIn w σ tp t τ ρ n bk has im) (hK : ∀ v σ', frA σ σ' → mIn w σ' tp t τ ρ n bk has im → K v (mW w σ')) (hD : 4 ≤ D) : wpI D 227 [.ref 81, .int a, .int b, .int c] (mW w σ) K := by
  have M := h
  obtain ⟨hw, hτ, hρ, hv, hr, hp2, htp, htb, htl, hn, hn12, hbk, him⟩ := h
  have M0 := mIn_Z M (frZ_0 (j := 0) (x := 0) (by omega))
  obtain ⟨_, hτ0, hρ0, _, _, hp20, _, htb0, _, hn0, _, hbk0, him0⟩ := M0
  have M0 := mIn_Z M (frZ_0 (j := 0) (x := 0) (by omega))
  refine sI_of (m := 3) (fun d hd Q hQ => ?_) rfl hD
  have hd1 : 1 ≤ d := by omega
  have hd2 : 2 ≤ d := by omega
  have v1 := hv.2.1
  have v2 := hv.2.2.1
  have fin := fun (v : Int32) σ' (f : frZ (uI σ 81 0 0) σ') => hQ _ _ (hK v σ' (frZ_A (frZ_tr (frZ_0 (by omega)) f)) (mIn_Z M (frZ_tr (frZ_0 (by omega)) f)))
  have fin0 := fun v => fin v _ frZ_rf
  refine b227_0 ?_
  rcases bN_01 (a := a) (n := τ 2) with z | z
  · simp only [↓br_pos, ↓br_neg, ↓rF_I, ↓rF_L, ↓rF_R, ↓rF_N, rO_m, rB_m, ↓rI_m, wI_m, ↓rB2_m, ↓rB3_m, wB2_m, wB3_m, ↓rL_m, wL_m, ↓rQ_m, wQ_m, ↓lI_m, pI_m, pL_m, pR_m, sI_m, sBy_m, sBo_m, sL_m, sQ_m, fst_m, true_and, and_true, tg_some, ln_some, uI_1, uI_2, uL_1, uL_2, uL_3, uQ_1, uQ_2, uQ_3, rv_i, rv_l, rv_n, rv_b0, rv_b1, RMR, ne_eq, reduceCtorEq, not_false_eq_true, Option.getD_some, if_true, if_false, and_self, false_and, and_false, Nat.add_left_cancel_iff, Nat.add_eq_left, Nat.left_eq_add, Nat.one_ne_zero, Nat.reduceAdd, Nat.reduceLT, Nat.reduceLeDiff, Nat.reduceEqDiff, true_implies, false_implies, implies_true, Option.some.injEq, forall_eq', forall_eq, reduceCtorEq, brT, brF, br_s, i_10, i_01, ib_0_2, ib_1_2, tn_0, tn_1, Int32.le_refl, eq_self, rv_bN, rv_iM, RCM 81, RLY, lit_at hw, g_153 hw hτ0 hv hd2, z, z00]
    exact fin0 _
  · rcases bN_01 (a := b) (n := τ 1) with y | y
    · simp only [↓br_pos, ↓br_neg, ↓rF_I, ↓rF_L, ↓rF_R, ↓rF_N, rO_m, rB_m, ↓rI_m, wI_m, ↓rB2_m, ↓rB3_m, wB2_m, wB3_m, ↓rL_m, wL_m, ↓rQ_m, wQ_m, ↓lI_m, pI_m, pL_m, pR_m, sI_m, sBy_m, sBo_m, sL_m, sQ_m, fst_m, true_and, and_true, tg_some, ln_some, uI_1, uI_2, uL_1, uL_2, uL_3, uQ_1, uQ_2, uQ_3, rv_i, rv_l, rv_n, rv_b0, rv_b1, RMR, ne_eq, reduceCtorEq, not_false_eq_true, Option.getD_some, if_true, if_false, and_self, false_and, and_false, Nat.add_left_cancel_iff, Nat.add_eq_left, Nat.left_eq_add, Nat.one_ne_zero, Nat.reduceAdd, Nat.reduceLT, Nat.reduceLeDiff, Nat.reduceEqDiff, true_implies, false_implies, implies_true, Option.some.injEq, forall_eq', forall_eq, reduceCtorEq, brT, brF, br_s, i_10, i_01, ib_0_2, ib_1_2, tn_0, tn_1, Int32.le_refl, eq_self, rv_bN, rv_iM, RCM 81, RLY, lit_at hw, g_153 hw hτ0 hv hd2, z, z00, z10, g_152 hw hτ0 hv hd2, y]
      exact fin0 _
    · obtain ⟨s, rfl, hs⟩ := bN_ex z
      obtain ⟨p, rfl, hp⟩ := bN_ex y
      have hh := hold_lt hr hs
      have body := lp_227a (a3 := c) (s := s) hw hτ0 hρ0 hv hr hs hp hd (fun x σ' f => fin x σ' f) (τ (28 + p)) 0 (uI σ 81 0 0) (by omega) frZ_rf
      simp only [↓rF_I, ↓rF_L, ↓rF_R, ↓rF_N, rO_m, rB_m, ↓rI_m, wI_m, ↓rB2_m, ↓rB3_m, wB2_m, wB3_m, ↓rL_m, wL_m, ↓rQ_m, wQ_m, ↓lI_m, pI_m, pL_m, pR_m, sI_m, sBy_m, sBo_m, sL_m, sQ_m, fst_m, true_and, and_true, tg_some, ln_some, uI_1, uI_2, uL_1, uL_2, uL_3, uQ_1, uQ_2, uQ_3, rv_i, rv_l, rv_n, rv_b0, rv_b1, RMR, ne_eq, reduceCtorEq, not_false_eq_true, Option.getD_some, if_true, if_false, and_self, false_and, and_false, Nat.add_left_cancel_iff, Nat.add_eq_left, Nat.left_eq_add, Nat.one_ne_zero, Nat.reduceAdd, Nat.reduceLT, Nat.reduceLeDiff, Nat.reduceEqDiff, true_implies, false_implies, implies_true, Option.some.injEq, forall_eq', forall_eq, reduceCtorEq, brT, brF, br_s, i_10, i_01, ib_0_2, ib_1_2, tn_0, tn_1, Int32.le_refl, eq_self, rv_bN, rv_iM, RCM 81, RLY, lit_at hw, ad_2, ad_4, ad_6, ad_8, ad_10, ad_12, ad_16, ad_24, ad_27, ad_28, ad_31, ad_35, ad_43, ad_51, ad_107, ad_131, ad_311, ml_3, ml_6, ml_7, ml_60, ml_100, ml_2471, mq_12, ar_2, ar_3, ar_4, ar_5, ar_6, of_add, of_mul, on_succ, g_153 hw hτ0 hv hd2, z, z10, g_152 hw hτ0 hv hd2, y, g_129 hd1, mr hρ (by omega : 43 + s < 2471), g_159 hw hτ0 hρ0 hv hs hh hd2]
      repeat' (first | exact fin0 _ | exact body | refine br2 ?_ ?_)
end
section
/-! the model's calls: fewest, order, ready, cost: they are safe -/
theorem nb0 : vp_nar .boolean (0 : Int32) = 0 := by decide
theorem g_228 {w : mT} {σ : mS} {τ ρ : Rw} {s : Nat} {D : Nat} {K : Int32 → Hp → Prop} (hw : lit w) (hρ : mRow σ 85 0 ρ) (hr : vRow τ ρ) (hs : s < τ 2) (hs8 : s < 8) (hD : 1 ≤ D) : wpI D 228 [.ref 81, .int (Int32.ofNat s)] (mW w σ) K ↔ K (iB (ρ (43 + s) = 0)) (mW w σ) := by
  refine cI_of (m := 0) (fun d hd Q hQ => ?_) rfl hD
  have rs := vR_sa hr s hs
  refine b228_0 ?_
  by_cases z : ρ (43 + s) = 0
  · have c : (Int32.ofNat (ρ (43 + s)) = 0) ↔ True := iff_true_intro (by rw [z]; rfl)
    rw [iB_t z] at hQ
    simp only [↓br_pos, ↓br_neg, ↓rF_I, ↓rF_L, ↓rF_R, ↓rF_N, rO_m, rB_m, ↓rI_m, wI_m, ↓rB2_m, ↓rB3_m, wB2_m, wB3_m, ↓rL_m, wL_m, ↓rQ_m, wQ_m, ↓lI_m, pI_m, pL_m, pR_m, sI_m, sBy_m, sBo_m, sL_m, sQ_m, fst_m, true_and, and_true, tg_some, ln_some, uI_1, uI_2, uL_1, uL_2, uL_3, uQ_1, uQ_2, uQ_3, rv_i, rv_l, rv_n, rv_b0, rv_b1, RMR, ne_eq, reduceCtorEq, not_false_eq_true, Option.getD_some, if_true, if_false, and_self, false_and, and_false, Nat.add_left_cancel_iff, Nat.add_eq_left, Nat.left_eq_add, Nat.one_ne_zero, Nat.reduceAdd, Nat.reduceLT, Nat.reduceLeDiff, Nat.reduceEqDiff, true_implies, false_implies, implies_true, Option.some.injEq, forall_eq', forall_eq, reduceCtorEq, brT, brF, br_s, i_10, i_01, ib_0_2, ib_1_2, tn_0, tn_1, Int32.le_refl, eq_self, rv_bN, rv_iM, RCM 81, RLY, lit_at hw, ad_2, ad_4, ad_6, ad_8, ad_10, ad_12, ad_16, ad_24, ad_27, ad_28, ad_31, ad_35, ad_43, ad_51, ad_107, ad_131, ad_311, ml_3, ml_6, ml_7, ml_60, ml_100, ml_2471, mq_12, ar_2, ar_3, ar_4, ar_5, ar_6, of_add, of_mul, on_succ, mr hρ (by omega : 43 + s < 2471), c]
    exact hQ
  · have c : (Int32.ofNat (ρ (43 + s)) = 0) ↔ False := iff_false_intro (fun q => z ((of_eq0 (by omega)).mp q))
    rw [iB_f z] at hQ
    simp only [↓br_pos, ↓br_neg, ↓rF_I, ↓rF_L, ↓rF_R, ↓rF_N, rO_m, rB_m, ↓rI_m, wI_m, ↓rB2_m, ↓rB3_m, wB2_m, wB3_m, ↓rL_m, wL_m, ↓rQ_m, wQ_m, ↓lI_m, pI_m, pL_m, pR_m, sI_m, sBy_m, sBo_m, sL_m, sQ_m, fst_m, true_and, and_true, tg_some, ln_some, uI_1, uI_2, uL_1, uL_2, uL_3, uQ_1, uQ_2, uQ_3, rv_i, rv_l, rv_n, rv_b0, rv_b1, RMR, ne_eq, reduceCtorEq, not_false_eq_true, Option.getD_some, if_true, if_false, and_self, false_and, and_false, Nat.add_left_cancel_iff, Nat.add_eq_left, Nat.left_eq_add, Nat.one_ne_zero, Nat.reduceAdd, Nat.reduceLT, Nat.reduceLeDiff, Nat.reduceEqDiff, true_implies, false_implies, implies_true, Option.some.injEq, forall_eq', forall_eq, reduceCtorEq, brT, brF, br_s, i_10, i_01, ib_0_2, ib_1_2, tn_0, tn_1, Int32.le_refl, eq_self, rv_bN, rv_iM, RCM 81, RLY, lit_at hw, ad_2, ad_4, ad_6, ad_8, ad_10, ad_12, ad_16, ad_24, ad_27, ad_28, ad_31, ad_35, ad_43, ad_51, ad_107, ad_131, ad_311, ml_3, ml_6, ml_7, ml_60, ml_100, ml_2471, mq_12, ar_2, ar_3, ar_4, ar_5, ar_6, of_add, of_mul, on_succ, mr hρ (by omega : 43 + s < 2471), c]
    exact hQ
theorem lp_229 {w : mT} {σ : mS} {τ ρ : Rw} {d : Nat} {Q : Option (Option Value) → Hp → Prop} (hw : lit w) (hτ : mTold σ τ) (hρ : mRow σ 85 0 ρ) (hv : vTold τ) (hr : vRow τ ρ) (hd : 1 ≤ d) (h1 : Q (some (some (.int (-1)))) (mW w σ)) (h2 : ∀ s, s < τ 2 → σ.1 96 s = 0 → Q (some (some (.int (Int32.ofNat s)))) (mW w σ)) : ∀ (r i : Nat) (a1 : Int32), i + r = τ 2 → (a1 = -1 ∨ ∃ s, s < τ 2 ∧ σ.1 96 s = 0 ∧ a1 = Int32.ofNat s) → Wp 229 4 [.ref 81, .int a1, .int (Int32.ofNat i)] [] (mW w σ) Q d := by
  have v2 := hv.2.2.1
  intro r
  induction r with
  | zero =>
    intro i a1 hi ha
    have hi' : i = τ 2 := by omega
    subst hi'
    refine b229_4 ?_
    simp only [↓br_pos, ↓br_neg, ↓rF_I, ↓rF_L, ↓rF_R, ↓rF_N, rO_m, rB_m, ↓rI_m, wI_m, ↓rB2_m, ↓rB3_m, wB2_m, wB3_m, ↓rL_m, wL_m, ↓rQ_m, wQ_m, ↓lI_m, pI_m, pL_m, pR_m, sI_m, sBy_m, sBo_m, sL_m, sQ_m, fst_m, true_and, and_true, tg_some, ln_some, uI_1, uI_2, uL_1, uL_2, uL_3, uQ_1, uQ_2, uQ_3, rv_i, rv_l, rv_n, rv_b0, rv_b1, RMR, ne_eq, reduceCtorEq, not_false_eq_true, Option.getD_some, if_true, if_false, and_self, false_and, and_false, Nat.add_left_cancel_iff, Nat.add_eq_left, Nat.left_eq_add, Nat.one_ne_zero, Nat.reduceAdd, Nat.reduceLT, Nat.reduceLeDiff, Nat.reduceEqDiff, true_implies, false_implies, implies_true, Option.some.injEq, forall_eq', forall_eq, reduceCtorEq, brT, brF, br_s, i_10, i_01, ib_0_2, ib_1_2, tn_0, tn_1, Int32.le_refl, eq_self, rv_bN, rv_iM, RCM 81, RLY, lit_at hw, mt_2 hτ, Int32.le_refl]
    rcases ha with rfl | ⟨s, hs, ht, rfl⟩
    · exact h1
    · exact h2 s hs ht
  | succ r ih =>
    intro i a1 hi ha
    have l1 : (Int32.ofNat (τ 2) ≤ Int32.ofNat i) ↔ False := iff_false_intro (fun q => absurd ((on_le (by omega) (by omega)).mp q) (by omega))
    have nx := ih (i + 1) a1 (by omega) ha
    have g8 := fun {K : Int32 → Hp → Prop} => g_228 (K := K) hw hρ hr (by omega : i < τ 2) (by omega : i < 8) hd
    refine b229_4 ?_
    by_cases z : ρ (43 + i) = 0
    · by_cases y : σ.1 96 i = 0
      · have ny := ih (i + 1) (Int32.ofNat i) (by omega) (Or.inr ⟨i, by omega, y, rfl⟩)
        rcases ha with rfl | ⟨s, hs, ht, rfl⟩
        · have c1 : ((-1 : Int32) = -1) ↔ True := iff_true_intro rfl
          simp only [↓br_pos, ↓br_neg, ↓rF_I, ↓rF_L, ↓rF_R, ↓rF_N, rO_m, rB_m, ↓rI_m, wI_m, ↓rB2_m, ↓rB3_m, wB2_m, wB3_m, ↓rL_m, wL_m, ↓rQ_m, wQ_m, ↓lI_m, pI_m, pL_m, pR_m, sI_m, sBy_m, sBo_m, sL_m, sQ_m, fst_m, true_and, and_true, tg_some, ln_some, uI_1, uI_2, uL_1, uL_2, uL_3, uQ_1, uQ_2, uQ_3, rv_i, rv_l, rv_n, rv_b0, rv_b1, RMR, ne_eq, reduceCtorEq, not_false_eq_true, Option.getD_some, if_true, if_false, and_self, false_and, and_false, Nat.add_left_cancel_iff, Nat.add_eq_left, Nat.left_eq_add, Nat.one_ne_zero, Nat.reduceAdd, Nat.reduceLT, Nat.reduceLeDiff, Nat.reduceEqDiff, true_implies, false_implies, implies_true, Option.some.injEq, forall_eq', forall_eq, reduceCtorEq, brT, brF, br_s, i_10, i_01, ib_0_2, ib_1_2, tn_0, tn_1, Int32.le_refl, eq_self, rv_bN, rv_iM, RCM 81, RLY, lit_at hw, mt_2 hτ, l1, g8, iB_t z, z10, ix (by omega : i < 8) (by omega), y, c1, on_succ]
          exact ny
        · have c1 : (Int32.ofNat s = (-1 : Int32)) ↔ False := on_m1 (by omega)
          have g1 := fun {K : Int32 → Hp → Prop} => g_155 (K := K) (s := i) (x := 3) (a := 3) hw hτ rfl (by omega) hd
          have g2 := fun {K : Int32 → Hp → Prop} => g_155 (K := K) (s := s) (x := 3) (a := 3) hw hτ rfl (by omega) hd
          simp only [↓rF_I, ↓rF_L, ↓rF_R, ↓rF_N, rO_m, rB_m, ↓rI_m, wI_m, ↓rB2_m, ↓rB3_m, wB2_m, wB3_m, ↓rL_m, wL_m, ↓rQ_m, wQ_m, ↓lI_m, pI_m, pL_m, pR_m, sI_m, sBy_m, sBo_m, sL_m, sQ_m, fst_m, true_and, and_true, tg_some, ln_some, uI_1, uI_2, uL_1, uL_2, uL_3, uQ_1, uQ_2, uQ_3, rv_i, rv_l, rv_n, rv_b0, rv_b1, RMR, ne_eq, reduceCtorEq, not_false_eq_true, Option.getD_some, if_true, if_false, and_self, false_and, and_false, Nat.add_left_cancel_iff, Nat.add_eq_left, Nat.left_eq_add, Nat.one_ne_zero, Nat.reduceAdd, Nat.reduceLT, Nat.reduceLeDiff, Nat.reduceEqDiff, true_implies, false_implies, implies_true, Option.some.injEq, forall_eq', forall_eq, reduceCtorEq, brT, brF, br_s, i_10, i_01, ib_0_2, ib_1_2, tn_0, tn_1, Int32.le_refl, eq_self, rv_bN, rv_iM, RCM 81, RLY, lit_at hw, mt_2 hτ, l1, g8, iB_t z, z10, ix (by omega : i < 8) (by omega), y, c1, g1, g2, on_succ]
          exact br2 nx ny
      · simp only [↓br_pos, ↓br_neg, ↓rF_I, ↓rF_L, ↓rF_R, ↓rF_N, rO_m, rB_m, ↓rI_m, wI_m, ↓rB2_m, ↓rB3_m, wB2_m, wB3_m, ↓rL_m, wL_m, ↓rQ_m, wQ_m, ↓lI_m, pI_m, pL_m, pR_m, sI_m, sBy_m, sBo_m, sL_m, sQ_m, fst_m, true_and, and_true, tg_some, ln_some, uI_1, uI_2, uL_1, uL_2, uL_3, uQ_1, uQ_2, uQ_3, rv_i, rv_l, rv_n, rv_b0, rv_b1, RMR, ne_eq, reduceCtorEq, not_false_eq_true, Option.getD_some, if_true, if_false, and_self, false_and, and_false, Nat.add_left_cancel_iff, Nat.add_eq_left, Nat.left_eq_add, Nat.one_ne_zero, Nat.reduceAdd, Nat.reduceLT, Nat.reduceLeDiff, Nat.reduceEqDiff, true_implies, false_implies, implies_true, Option.some.injEq, forall_eq', forall_eq, reduceCtorEq, brT, brF, br_s, i_10, i_01, ib_0_2, ib_1_2, tn_0, tn_1, Int32.le_refl, eq_self, rv_bN, rv_iM, RCM 81, RLY, lit_at hw, mt_2 hτ, l1, g8, iB_t z, z10, ix (by omega : i < 8) (by omega), y, on_succ]
        exact nx
    · simp only [↓br_pos, ↓br_neg, ↓rF_I, ↓rF_L, ↓rF_R, ↓rF_N, rO_m, rB_m, ↓rI_m, wI_m, ↓rB2_m, ↓rB3_m, wB2_m, wB3_m, ↓rL_m, wL_m, ↓rQ_m, wQ_m, ↓lI_m, pI_m, pL_m, pR_m, sI_m, sBy_m, sBo_m, sL_m, sQ_m, fst_m, true_and, and_true, tg_some, ln_some, uI_1, uI_2, uL_1, uL_2, uL_3, uQ_1, uQ_2, uQ_3, rv_i, rv_l, rv_n, rv_b0, rv_b1, RMR, ne_eq, reduceCtorEq, not_false_eq_true, Option.getD_some, if_true, if_false, and_self, false_and, and_false, Nat.add_left_cancel_iff, Nat.add_eq_left, Nat.left_eq_add, Nat.one_ne_zero, Nat.reduceAdd, Nat.reduceLT, Nat.reduceLeDiff, Nat.reduceEqDiff, true_implies, false_implies, implies_true, Option.some.injEq, forall_eq', forall_eq, reduceCtorEq, brT, brF, br_s, i_10, i_01, ib_0_2, ib_1_2, tn_0, tn_1, Int32.le_refl, eq_self, rv_bN, rv_iM, RCM 81, RLY, lit_at hw, mt_2 hτ, l1, g8, iB_f z, z00, on_succ]
      exact nx
theorem s_229 {w : mT} {σ : mS} {τ ρ : Rw} {D : Nat} {K : Int32 → Hp → Prop} (hw : lit w) (hτ : mTold σ τ) (hρ : mRow σ 85 0 ρ) (hv : vTold τ) (hr : vRow τ ρ) (h1 : K (-1) (mW w σ)) (h2 : ∀ s, s < τ 2 → σ.1 96 s = 0 → K (Int32.ofNat s) (mW w σ)) (hD : 2 ≤ D) : wpI D 229 [.ref 81] (mW w σ) K := by
  refine sI_of (m := 1) (fun d hd Q hQ => ?_) rfl hD
  exact b229_0 (lp_229 hw hτ hρ hv hr hd (hQ _ _ h1) (fun s hs ht => hQ _ _ (h2 s hs ht)) (τ 2) 0 (-1) (by omega) (Or.inl rfl))
theorem lp_230 {w : mT} {σ : mS} {τ ρ : Rw} {d : Nat} {Q : Option (Option Value) → Hp → Prop} (hw : lit w) (hτ : mTold σ τ) (hρ : mRow σ 85 0 ρ) (hv : vTold τ) (hr : vRow τ ρ) (hd : 1 ≤ d) (h2 : ∀ s, s < τ 2 → σ.1 96 s ≠ 0 → σ.1 95 s = 0 → Q (some (some (.int (Int32.ofNat s)))) (mW w σ)) : ∀ (r i : Nat) (a1 : Int32), i + r = τ 2 → ((a1 = -1 ∧ ∃ j, i ≤ j ∧ j < τ 2 ∧ σ.1 96 j ≠ 0 ∧ σ.1 95 j = 0) ∨ ∃ s, s < τ 2 ∧ σ.1 96 s ≠ 0 ∧ σ.1 95 s = 0 ∧ a1 = Int32.ofNat s) → Wp 230 4 [.ref 81, .int a1, .int (Int32.ofNat i)] [] (mW w σ) Q d := by
  have v2 := hv.2.2.1
  intro r
  induction r with
  | zero =>
    intro i a1 hi ha
    have hi' : i = τ 2 := by omega
    subst hi'
    refine b230_4 ?_
    simp only [↓br_pos, ↓br_neg, ↓rF_I, ↓rF_L, ↓rF_R, ↓rF_N, rO_m, rB_m, ↓rI_m, wI_m, ↓rB2_m, ↓rB3_m, wB2_m, wB3_m, ↓rL_m, wL_m, ↓rQ_m, wQ_m, ↓lI_m, pI_m, pL_m, pR_m, sI_m, sBy_m, sBo_m, sL_m, sQ_m, fst_m, true_and, and_true, tg_some, ln_some, uI_1, uI_2, uL_1, uL_2, uL_3, uQ_1, uQ_2, uQ_3, rv_i, rv_l, rv_n, rv_b0, rv_b1, RMR, ne_eq, reduceCtorEq, not_false_eq_true, Option.getD_some, if_true, if_false, and_self, false_and, and_false, Nat.add_left_cancel_iff, Nat.add_eq_left, Nat.left_eq_add, Nat.one_ne_zero, Nat.reduceAdd, Nat.reduceLT, Nat.reduceLeDiff, Nat.reduceEqDiff, true_implies, false_implies, implies_true, Option.some.injEq, forall_eq', forall_eq, reduceCtorEq, brT, brF, br_s, i_10, i_01, ib_0_2, ib_1_2, tn_0, tn_1, Int32.le_refl, eq_self, rv_bN, rv_iM, RCM 81, RLY, lit_at hw, mt_2 hτ, Int32.le_refl]
    rcases ha with ⟨_, j, j1, j2, _⟩ | ⟨s, hs, ht, hu, rfl⟩
    · omega
    · exact h2 s hs ht hu
  | succ r ih =>
    intro i a1 hi ha
    have l1 : (Int32.ofNat (τ 2) ≤ Int32.ofNat i) ↔ False := iff_false_intro (fun q => absurd ((on_le (by omega) (by omega)).mp q) (by omega))
    have nx : ¬ (σ.1 96 i ≠ 0 ∧ σ.1 95 i = 0) → Wp 230 4 [.ref 81, .int a1, .int (Int32.ofNat (i + 1))] [] (mW w σ) Q d := fun q => ih (i + 1) a1 (by omega) (ha.imp (fun p => by
      obtain ⟨p0, j, j1, j2, j3, j4⟩ := p
      refine ⟨p0, j, ?_, j2, j3, j4⟩
      have : j ≠ i := fun e => q (by rw [← e]; exact ⟨j3, j4⟩)
      omega) id)
    refine b230_4 ?_
    by_cases z : σ.1 96 i = 0
    · simp only [↓br_pos, ↓br_neg, ↓rF_I, ↓rF_L, ↓rF_R, ↓rF_N, rO_m, rB_m, ↓rI_m, wI_m, ↓rB2_m, ↓rB3_m, wB2_m, wB3_m, ↓rL_m, wL_m, ↓rQ_m, wQ_m, ↓lI_m, pI_m, pL_m, pR_m, sI_m, sBy_m, sBo_m, sL_m, sQ_m, fst_m, true_and, and_true, tg_some, ln_some, uI_1, uI_2, uL_1, uL_2, uL_3, uQ_1, uQ_2, uQ_3, rv_i, rv_l, rv_n, rv_b0, rv_b1, RMR, ne_eq, reduceCtorEq, not_false_eq_true, Option.getD_some, if_true, if_false, and_self, false_and, and_false, Nat.add_left_cancel_iff, Nat.add_eq_left, Nat.left_eq_add, Nat.one_ne_zero, Nat.reduceAdd, Nat.reduceLT, Nat.reduceLeDiff, Nat.reduceEqDiff, true_implies, false_implies, implies_true, Option.some.injEq, forall_eq', forall_eq, reduceCtorEq, brT, brF, br_s, i_10, i_01, ib_0_2, ib_1_2, tn_0, tn_1, Int32.le_refl, eq_self, rv_bN, rv_iM, RCM 81, RLY, lit_at hw, mt_2 hτ, l1, ix (by omega : i < 8) (by omega), z, on_succ]
      exact nx (fun q => q.1 z)
    · by_cases y : σ.1 95 i = 0
      · have ny := ih (i + 1) (Int32.ofNat i) (by omega) (Or.inr ⟨i, by omega, z, y, rfl⟩)
        rcases ha with ⟨rfl, _⟩ | ⟨s, hs, ht, hu, rfl⟩
        · have c1 : ((-1 : Int32) = -1) ↔ True := iff_true_intro rfl
          simp only [↓br_pos, ↓br_neg, ↓rF_I, ↓rF_L, ↓rF_R, ↓rF_N, rO_m, rB_m, ↓rI_m, wI_m, ↓rB2_m, ↓rB3_m, wB2_m, wB3_m, ↓rL_m, wL_m, ↓rQ_m, wQ_m, ↓lI_m, pI_m, pL_m, pR_m, sI_m, sBy_m, sBo_m, sL_m, sQ_m, fst_m, true_and, and_true, tg_some, ln_some, uI_1, uI_2, uL_1, uL_2, uL_3, uQ_1, uQ_2, uQ_3, rv_i, rv_l, rv_n, rv_b0, rv_b1, RMR, ne_eq, reduceCtorEq, not_false_eq_true, Option.getD_some, if_true, if_false, and_self, false_and, and_false, Nat.add_left_cancel_iff, Nat.add_eq_left, Nat.left_eq_add, Nat.one_ne_zero, Nat.reduceAdd, Nat.reduceLT, Nat.reduceLeDiff, Nat.reduceEqDiff, true_implies, false_implies, implies_true, Option.some.injEq, forall_eq', forall_eq, reduceCtorEq, brT, brF, br_s, i_10, i_01, ib_0_2, ib_1_2, tn_0, tn_1, Int32.le_refl, eq_self, rv_bN, rv_iM, RCM 81, RLY, lit_at hw, mt_2 hτ, l1, ix (by omega : i < 8) (by omega), z, y, c1, on_succ]
          exact ny
        · have nz := ih (i + 1) (Int32.ofNat s) (by omega) (Or.inr ⟨s, hs, ht, hu, rfl⟩)
          have c1 : (Int32.ofNat s = (-1 : Int32)) ↔ False := on_m1 (by omega)
          have g1 := fun {K : Int32 → Hp → Prop} => g_155 (K := K) (s := i) (x := 4) (a := 4) hw hτ rfl (by omega) hd
          have g2 := fun {K : Int32 → Hp → Prop} => g_155 (K := K) (s := s) (x := 4) (a := 4) hw hτ rfl (by omega) hd
          simp only [↓rF_I, ↓rF_L, ↓rF_R, ↓rF_N, rO_m, rB_m, ↓rI_m, wI_m, ↓rB2_m, ↓rB3_m, wB2_m, wB3_m, ↓rL_m, wL_m, ↓rQ_m, wQ_m, ↓lI_m, pI_m, pL_m, pR_m, sI_m, sBy_m, sBo_m, sL_m, sQ_m, fst_m, true_and, and_true, tg_some, ln_some, uI_1, uI_2, uL_1, uL_2, uL_3, uQ_1, uQ_2, uQ_3, rv_i, rv_l, rv_n, rv_b0, rv_b1, RMR, ne_eq, reduceCtorEq, not_false_eq_true, Option.getD_some, if_true, if_false, and_self, false_and, and_false, Nat.add_left_cancel_iff, Nat.add_eq_left, Nat.left_eq_add, Nat.one_ne_zero, Nat.reduceAdd, Nat.reduceLT, Nat.reduceLeDiff, Nat.reduceEqDiff, true_implies, false_implies, implies_true, Option.some.injEq, forall_eq', forall_eq, reduceCtorEq, brT, brF, br_s, i_10, i_01, ib_0_2, ib_1_2, tn_0, tn_1, Int32.le_refl, eq_self, rv_bN, rv_iM, RCM 81, RLY, lit_at hw, mt_2 hτ, l1, ix (by omega : i < 8) (by omega), z, y, c1, g1, g2, on_succ]
          exact br2 nz ny
      · simp only [↓br_pos, ↓br_neg, ↓rF_I, ↓rF_L, ↓rF_R, ↓rF_N, rO_m, rB_m, ↓rI_m, wI_m, ↓rB2_m, ↓rB3_m, wB2_m, wB3_m, ↓rL_m, wL_m, ↓rQ_m, wQ_m, ↓lI_m, pI_m, pL_m, pR_m, sI_m, sBy_m, sBo_m, sL_m, sQ_m, fst_m, true_and, and_true, tg_some, ln_some, uI_1, uI_2, uL_1, uL_2, uL_3, uQ_1, uQ_2, uQ_3, rv_i, rv_l, rv_n, rv_b0, rv_b1, RMR, ne_eq, reduceCtorEq, not_false_eq_true, Option.getD_some, if_true, if_false, and_self, false_and, and_false, Nat.add_left_cancel_iff, Nat.add_eq_left, Nat.left_eq_add, Nat.one_ne_zero, Nat.reduceAdd, Nat.reduceLT, Nat.reduceLeDiff, Nat.reduceEqDiff, true_implies, false_implies, implies_true, Option.some.injEq, forall_eq', forall_eq, reduceCtorEq, brT, brF, br_s, i_10, i_01, ib_0_2, ib_1_2, tn_0, tn_1, Int32.le_refl, eq_self, rv_bN, rv_iM, RCM 81, RLY, lit_at hw, mt_2 hτ, l1, ix (by omega : i < 8) (by omega), z, y, on_succ]
        exact nx (fun q => y q.2)
theorem s_230 {w : mT} {σ : mS} {τ ρ : Rw} {D : Nat} {K : Int32 → Hp → Prop} (hw : lit w) (hτ : mTold σ τ) (hρ : mRow σ 85 0 ρ) (hv : vTold τ) (hr : vRow τ ρ) (he : ∃ j, j < τ 2 ∧ σ.1 96 j ≠ 0 ∧ σ.1 95 j = 0) (h2 : ∀ s, s < τ 2 → σ.1 96 s ≠ 0 → σ.1 95 s = 0 → K (Int32.ofNat s) (mW w σ)) (hD : 2 ≤ D) : wpI D 230 [.ref 81] (mW w σ) K := by
  refine sI_of (m := 1) (fun d hd Q hQ => ?_) rfl hD
  obtain ⟨j, j1, j2, j3⟩ := he
  exact b230_0 (lp_230 hw hτ hρ hv hr hd (fun s hs ht hu => hQ _ _ (h2 s hs ht hu)) (τ 2) 0 (-1) (by omega) (Or.inl ⟨rfl, j, Nat.zero_le _, j1, j2, j3⟩))
/-- how many are not taken; are taken and not put off; are put off from i on -/
def uk (σ : mS) : Nat := sm 8 (fun s => if σ.1 96 s = 0 then 1 else 0)
def n1 (σ : mS) : Nat := sm 8 (fun s => if σ.1 96 s ≠ 0 ∧ σ.1 95 s = 0 then 1 else 0)
def ofc (σ : mS) (i : Nat) : Nat := sm 8 (fun s => if i ≤ s ∧ σ.1 95 s ≠ 0 then 1 else 0)
theorem u96 {σ : mS} {s j : Nat} {x : Int32} : (uI σ 96 s x).1 96 j = if j = s then x else σ.1 96 j := by
  rw [uI_1]
  by_cases e : j = s
  · rw [if_pos ⟨rfl, e⟩, if_pos e]
  · rw [if_neg (fun q => e q.2), if_neg e]
theorem uk_t {σ : mS} {s : Nat} (hs : s < 8) (h : σ.1 96 s = 0) : uk (uI σ 96 s 1) + 1 = uk σ := by
  have := sm_up (n := 8) (i := s) (x := 0) (f := fun s => if σ.1 96 s = 0 then 1 else 0) (g := fun j => if (uI σ 96 s 1).1 96 j = 0 then 1 else 0) hs (fun j hj => by
    have q := u96 (σ := σ) (s := s) (j := j) (x := 1)
    by_cases e : j = s
    · rw [if_pos e] at q
      rw [q, if_pos e, if_neg (by decide)]
    · rw [if_neg e] at q
      rw [q, if_neg e])
  have e : (if σ.1 96 s = 0 then 1 else 0 : Nat) = 1 := if_pos h
  rw [e] at this
  exact this
theorem uk_c {σ σ' : mS} (h : σ'.1 96 = σ.1 96) : uk σ' = uk σ := by unfold uk; rw [h]
theorem n1_c {σ σ' : mS} (h : σ'.1 96 = σ.1 96) (h' : σ'.1 95 = σ.1 95) : n1 σ' = n1 σ := by unfold n1; rw [h, h']
theorem n1_t {σ : mS} {s : Nat} (hs : s < 8) (h : σ.1 96 s = 0) : n1 (uI σ 96 s 1) = n1 σ + (if σ.1 95 s = 0 then 1 else 0) := by
  have := sm_up (n := 8) (i := s) (x := if σ.1 95 s = 0 then 1 else 0) (f := fun s => if σ.1 96 s ≠ 0 ∧ σ.1 95 s = 0 then 1 else 0) (g := fun j => if (uI σ 96 s 1).1 96 j ≠ 0 ∧ (uI σ 96 s 1).1 95 j = 0 then 1 else 0) hs (fun j hj => by
    have e95 : (uI σ 96 s 1).1 95 j = σ.1 95 j := by rw [uI_1, if_neg (by omega)]
    have q := u96 (σ := σ) (s := s) (j := j) (x := 1)
    rw [e95]
    by_cases e : j = s
    · rw [if_pos e] at q
      rw [q, if_pos e, e]
      by_cases y : σ.1 95 s = 0
      · rw [if_pos ⟨by decide, y⟩, if_pos y]
      · rw [if_neg (fun q => y q.2), if_neg y]
    · rw [if_neg e] at q
      rw [q, if_neg e])
  have e : (if σ.1 96 s ≠ 0 ∧ σ.1 95 s = 0 then 1 else 0 : Nat) = 0 := if_neg (fun q => q.1 h)
  rw [e] at this
  exact this
theorem n1_8 {σ : mS} : n1 σ + ofc σ 0 ≤ 8 := by
  unfold n1 ofc
  rw [← sm_add]
  have := sm_le (n := 8) (f := fun i => (if σ.1 96 i ≠ 0 ∧ σ.1 95 i = 0 then 1 else 0) + (if 0 ≤ i ∧ σ.1 95 i ≠ 0 then 1 else 0)) (g := fun _ => 1) (fun i _ => by
    by_cases y : σ.1 95 i = 0
    · rw [if_neg (fun q : 0 ≤ i ∧ σ.1 95 i ≠ 0 => q.2 y)]; split <;> omega
    · rw [if_neg (fun q : σ.1 96 i ≠ 0 ∧ σ.1 95 i = 0 => y q.2)]; split <;> omega)
  rw [sm_o (n := 8) (f := fun _ => 1) (fun _ _ => rfl)] at this
  exact this
theorem ofc_y {σ : mS} {i : Nat} (hi : i < 8) (h : σ.1 95 i ≠ 0) : ofc σ (i + 1) + 1 = ofc σ i := by
  have := sm_up (n := 8) (i := i) (x := 0) (f := fun s => if i ≤ s ∧ σ.1 95 s ≠ 0 then 1 else 0) (g := fun s => if i + 1 ≤ s ∧ σ.1 95 s ≠ 0 then 1 else 0) hi (fun j hj => by
    by_cases e : j = i
    · rw [if_pos e, if_neg (fun q => by omega)]
    · rw [if_neg e]
      by_cases y : i ≤ j ∧ σ.1 95 j ≠ 0
      · rw [if_pos y, if_pos ⟨by omega, y.2⟩]
      · rw [if_neg y, if_neg (fun q => y ⟨by omega, q.2⟩)])
  have e : (if i ≤ i ∧ σ.1 95 i ≠ 0 then 1 else 0 : Nat) = 1 := if_pos ⟨Nat.le_refl _, h⟩
  rw [e] at this
  exact this
theorem ofc_n {σ : mS} {i : Nat} (h : σ.1 95 i = 0) : ofc σ (i + 1) = ofc σ i := by
  unfold ofc
  refine sm_eq (fun j _ => ?_)
  by_cases y : i ≤ j ∧ σ.1 95 j ≠ 0
  · have : j ≠ i := fun e => y.2 (by rw [e]; exact h)
    rw [if_pos y, if_pos ⟨by omega, y.2⟩]
  · rw [if_neg y, if_neg (fun q => y ⟨by omega, q.2⟩)]
theorem ofc_c {σ σ' : mS} {i : Nat} (h : σ'.1 95 = σ.1 95) : ofc σ' i = ofc σ i := by unfold ofc; rw [h]
/-- a plan -/
def plI (σ : mS) (m : Nat) : Prop := σ.1 81 41 = Int32.ofNat m ∧ m ≤ 8 ∧ ∀ i, i < m → ∃ s, s < 8 ∧ σ.1 97 i = Int32.ofNat s
theorem lp_231d {w : mT} {τ ρ : Rw} {d : Nat} {a1 : Int32} {σ0 : mS} {Q : Option (Option Value) → Hp → Prop} (hw : lit w) (hτ0 : mTold σ0 τ) (hv : vTold τ) (hQ : ∀ σ' m, frZ σ0 σ' → plI σ' m → Q (some none) (mW w σ')) : ∀ (r i m : Nat) (σ : mS) (x : Value), i + r = τ 2 → frZ σ0 σ → plI σ m → m + ofc σ i ≤ 8 → (x = jk ∨ ∃ u : Int32, x = .int u) → Wp 231 199 [.ref 81, .int a1, .int (Int32.ofNat i), x] [] (mW w σ) Q d := by
  have v2 := hv.2.2.1
  intro r
  induction r with
  | zero =>
    intro i m σ x hi hf hp hm hx
    have hτ := mT_c hτ0 (hf.1 83 (by omega) (by omega))
    have hi' : i = τ 2 := by omega
    subst hi'
    rcases hx with rfl | ⟨u, rfl⟩
    · refine b231_199a ?_
      simp only [↓br_pos, ↓br_neg, ↓rF_I, ↓rF_L, ↓rF_R, ↓rF_N, rO_m, rB_m, ↓rI_m, wI_m, ↓rB2_m, ↓rB3_m, wB2_m, wB3_m, ↓rL_m, wL_m, ↓rQ_m, wQ_m, ↓lI_m, pI_m, pL_m, pR_m, sI_m, sBy_m, sBo_m, sL_m, sQ_m, fst_m, true_and, and_true, tg_some, ln_some, uI_1, uI_2, uL_1, uL_2, uL_3, uQ_1, uQ_2, uQ_3, rv_i, rv_l, rv_n, rv_b0, rv_b1, RMR, ne_eq, reduceCtorEq, not_false_eq_true, Option.getD_some, if_true, if_false, and_self, false_and, and_false, Nat.add_left_cancel_iff, Nat.add_eq_left, Nat.left_eq_add, Nat.one_ne_zero, Nat.reduceAdd, Nat.reduceLT, Nat.reduceLeDiff, Nat.reduceEqDiff, true_implies, false_implies, implies_true, Option.some.injEq, forall_eq', forall_eq, reduceCtorEq, brT, brF, br_s, i_10, i_01, ib_0_2, ib_1_2, tn_0, tn_1, Int32.le_refl, eq_self, rv_bN, rv_iM, RCM 81, RLY, lit_at hw, mt_2 hτ, Int32.le_refl]
      exact hQ σ m hf hp
    · refine b231_199 ?_
      simp only [↓br_pos, ↓br_neg, ↓rF_I, ↓rF_L, ↓rF_R, ↓rF_N, rO_m, rB_m, ↓rI_m, wI_m, ↓rB2_m, ↓rB3_m, wB2_m, wB3_m, ↓rL_m, wL_m, ↓rQ_m, wQ_m, ↓lI_m, pI_m, pL_m, pR_m, sI_m, sBy_m, sBo_m, sL_m, sQ_m, fst_m, true_and, and_true, tg_some, ln_some, uI_1, uI_2, uL_1, uL_2, uL_3, uQ_1, uQ_2, uQ_3, rv_i, rv_l, rv_n, rv_b0, rv_b1, RMR, ne_eq, reduceCtorEq, not_false_eq_true, Option.getD_some, if_true, if_false, and_self, false_and, and_false, Nat.add_left_cancel_iff, Nat.add_eq_left, Nat.left_eq_add, Nat.one_ne_zero, Nat.reduceAdd, Nat.reduceLT, Nat.reduceLeDiff, Nat.reduceEqDiff, true_implies, false_implies, implies_true, Option.some.injEq, forall_eq', forall_eq, reduceCtorEq, brT, brF, br_s, i_10, i_01, ib_0_2, ib_1_2, tn_0, tn_1, Int32.le_refl, eq_self, rv_bN, rv_iM, RCM 81, RLY, lit_at hw, mt_2 hτ, Int32.le_refl]
      exact hQ σ m hf hp
  | succ r ih =>
    intro i m σ x hi hf hp hm hx
    have hτ := mT_c hτ0 (hf.1 83 (by omega) (by omega))
    have l1 : (Int32.ofNat (τ 2) ≤ Int32.ofNat i) ↔ False := iff_false_intro (fun q => absurd ((on_le (by omega) (by omega)).mp q) (by omega))
    by_cases z : σ.1 95 i = 0
    · have nx := ih (i + 1) m σ x (by omega) hf hp (by rw [ofc_n z]; exact hm) hx
      rcases hx with rfl | ⟨u, rfl⟩
      · refine b231_199a ?_
        simp only [↓br_pos, ↓br_neg, ↓rF_I, ↓rF_L, ↓rF_R, ↓rF_N, rO_m, rB_m, ↓rI_m, wI_m, ↓rB2_m, ↓rB3_m, wB2_m, wB3_m, ↓rL_m, wL_m, ↓rQ_m, wQ_m, ↓lI_m, pI_m, pL_m, pR_m, sI_m, sBy_m, sBo_m, sL_m, sQ_m, fst_m, true_and, and_true, tg_some, ln_some, uI_1, uI_2, uL_1, uL_2, uL_3, uQ_1, uQ_2, uQ_3, rv_i, rv_l, rv_n, rv_b0, rv_b1, RMR, ne_eq, reduceCtorEq, not_false_eq_true, Option.getD_some, if_true, if_false, and_self, false_and, and_false, Nat.add_left_cancel_iff, Nat.add_eq_left, Nat.left_eq_add, Nat.one_ne_zero, Nat.reduceAdd, Nat.reduceLT, Nat.reduceLeDiff, Nat.reduceEqDiff, true_implies, false_implies, implies_true, Option.some.injEq, forall_eq', forall_eq, reduceCtorEq, brT, brF, br_s, i_10, i_01, ib_0_2, ib_1_2, tn_0, tn_1, Int32.le_refl, eq_self, rv_bN, rv_iM, RCM 81, RLY, lit_at hw, mt_2 hτ, l1, ix (by omega : i < 8) (by omega), z, on_succ]
        exact nx
      · refine b231_199 ?_
        simp only [↓br_pos, ↓br_neg, ↓rF_I, ↓rF_L, ↓rF_R, ↓rF_N, rO_m, rB_m, ↓rI_m, wI_m, ↓rB2_m, ↓rB3_m, wB2_m, wB3_m, ↓rL_m, wL_m, ↓rQ_m, wQ_m, ↓lI_m, pI_m, pL_m, pR_m, sI_m, sBy_m, sBo_m, sL_m, sQ_m, fst_m, true_and, and_true, tg_some, ln_some, uI_1, uI_2, uL_1, uL_2, uL_3, uQ_1, uQ_2, uQ_3, rv_i, rv_l, rv_n, rv_b0, rv_b1, RMR, ne_eq, reduceCtorEq, not_false_eq_true, Option.getD_some, if_true, if_false, and_self, false_and, and_false, Nat.add_left_cancel_iff, Nat.add_eq_left, Nat.left_eq_add, Nat.one_ne_zero, Nat.reduceAdd, Nat.reduceLT, Nat.reduceLeDiff, Nat.reduceEqDiff, true_implies, false_implies, implies_true, Option.some.injEq, forall_eq', forall_eq, reduceCtorEq, brT, brF, br_s, i_10, i_01, ib_0_2, ib_1_2, tn_0, tn_1, Int32.le_refl, eq_self, rv_bN, rv_iM, RCM 81, RLY, lit_at hw, mt_2 hτ, l1, ix (by omega : i < 8) (by omega), z, on_succ]
        exact nx
    · have oy := ofc_y (by omega : i < 8) z
      have nx := ih (i + 1) (m + 1) (uI (uI σ 97 m (Int32.ofNat i)) 81 41 (Int32.ofNat (m + 1))) x (by omega) (frZ_tr hf (frZ_tr (frZ_I (by omega)) (frZ_0 (by omega)))) ⟨by rw [uI_1, if_pos ⟨rfl, rfl⟩], by omega, fun j hj => by
        rw [uI_1, if_neg (by omega), uI_1]
        by_cases e : j = m
        · rw [if_pos ⟨rfl, e⟩]; exact ⟨i, by omega, rfl⟩
        · rw [if_neg (fun q => e q.2)]; exact hp.2.2 j (by omega)⟩ (by rw [ofc_c (σ := σ) (by rw [uI_o (by omega), uI_o (by omega)])]; omega) hx
      rcases hx with rfl | ⟨u, rfl⟩
      · refine b231_199a ?_
        simp only [↓br_pos, ↓br_neg, ↓rF_I, ↓rF_L, ↓rF_R, ↓rF_N, rO_m, rB_m, ↓rI_m, wI_m, ↓rB2_m, ↓rB3_m, wB2_m, wB3_m, ↓rL_m, wL_m, ↓rQ_m, wQ_m, ↓lI_m, pI_m, pL_m, pR_m, sI_m, sBy_m, sBo_m, sL_m, sQ_m, fst_m, true_and, and_true, tg_some, ln_some, uI_1, uI_2, uL_1, uL_2, uL_3, uQ_1, uQ_2, uQ_3, rv_i, rv_l, rv_n, rv_b0, rv_b1, RMR, ne_eq, reduceCtorEq, not_false_eq_true, Option.getD_some, if_true, if_false, and_self, false_and, and_false, Nat.add_left_cancel_iff, Nat.add_eq_left, Nat.left_eq_add, Nat.one_ne_zero, Nat.reduceAdd, Nat.reduceLT, Nat.reduceLeDiff, Nat.reduceEqDiff, true_implies, false_implies, implies_true, Option.some.injEq, forall_eq', forall_eq, reduceCtorEq, brT, brF, br_s, i_10, i_01, ib_0_2, ib_1_2, tn_0, tn_1, Int32.le_refl, eq_self, rv_bN, rv_iM, RCM 81, RLY, lit_at hw, mt_2 hτ, l1, ix (by omega : i < 8) (by omega), z, hp.1, ix (by omega : m < 8) (by omega), on_succ]
        exact nx
      · refine b231_199 ?_
        simp only [↓br_pos, ↓br_neg, ↓rF_I, ↓rF_L, ↓rF_R, ↓rF_N, rO_m, rB_m, ↓rI_m, wI_m, ↓rB2_m, ↓rB3_m, wB2_m, wB3_m, ↓rL_m, wL_m, ↓rQ_m, wQ_m, ↓lI_m, pI_m, pL_m, pR_m, sI_m, sBy_m, sBo_m, sL_m, sQ_m, fst_m, true_and, and_true, tg_some, ln_some, uI_1, uI_2, uL_1, uL_2, uL_3, uQ_1, uQ_2, uQ_3, rv_i, rv_l, rv_n, rv_b0, rv_b1, RMR, ne_eq, reduceCtorEq, not_false_eq_true, Option.getD_some, if_true, if_false, and_self, false_and, and_false, Nat.add_left_cancel_iff, Nat.add_eq_left, Nat.left_eq_add, Nat.one_ne_zero, Nat.reduceAdd, Nat.reduceLT, Nat.reduceLeDiff, Nat.reduceEqDiff, true_implies, false_implies, implies_true, Option.some.injEq, forall_eq', forall_eq, reduceCtorEq, brT, brF, br_s, i_10, i_01, ib_0_2, ib_1_2, tn_0, tn_1, Int32.le_refl, eq_self, rv_bN, rv_iM, RCM 81, RLY, lit_at hw, mt_2 hτ, l1, ix (by omega : i < 8) (by omega), z, hp.1, ix (by omega : m < 8) (by omega), on_succ]
        exact nx
theorem lp_231c {w : mT} {τ ρ : Rw} {d : Nat} {a1 : Int32} {σ0 : mS} {Q : Option (Option Value) → Hp → Prop} (hw : lit w) (hτ0 : mTold σ0 τ) (hρ0 : mRow σ0 85 0 ρ) (hv : vTold τ) (hr : vRow τ ρ) (hd : 2 ≤ d) (hQ : ∀ σ' m, frZ σ0 σ' → plI σ' m → Q (some none) (mW w σ')) : ∀ (f : Nat) (σ : mS) (a2 : Int32) (x : Value), uk σ ≤ f → frZ σ0 σ → plI σ (n1 σ) → (a2 = -1 ∨ ∃ s, s < τ 2 ∧ σ.1 96 s = 0 ∧ a2 = Int32.ofNat s) → (x = jk ∨ ∃ u : Int32, x = .int u) → Wp 231 148 [.ref 81, .int a1, .int a2, x] [] (mW w σ) Q d := by
  have v2 := hv.2.2.1
  intro f
  induction f with
  | zero =>
    intro σ a2 x hu hf hp ha hx
    rcases ha with rfl | ⟨s, hs, ht, rfl⟩
    · have c1 : ((-1 : Int32) = -1) ↔ True := iff_true_intro rfl
      have fin := lp_231d (a1 := a1) (d := d) (τ := τ) (ρ := ρ) hw (mT_c hτ0 (hf.1 83 (by omega) (by omega))) hv (fun σ' m f' p' => hQ σ' m (frZ_tr hf f') p') (τ 2) 0 (n1 σ) σ x (by omega) frZ_rf hp n1_8 hx
      rcases hx with rfl | ⟨u, rfl⟩
      · refine b231_148a ?_
        simp only [↓br_pos, ↓br_neg, ↓rF_I, ↓rF_L, ↓rF_R, ↓rF_N, rO_m, rB_m, ↓rI_m, wI_m, ↓rB2_m, ↓rB3_m, wB2_m, wB3_m, ↓rL_m, wL_m, ↓rQ_m, wQ_m, ↓lI_m, pI_m, pL_m, pR_m, sI_m, sBy_m, sBo_m, sL_m, sQ_m, fst_m, true_and, and_true, tg_some, ln_some, uI_1, uI_2, uL_1, uL_2, uL_3, uQ_1, uQ_2, uQ_3, rv_i, rv_l, rv_n, rv_b0, rv_b1, RMR, ne_eq, reduceCtorEq, not_false_eq_true, Option.getD_some, if_true, if_false, and_self, false_and, and_false, Nat.add_left_cancel_iff, Nat.add_eq_left, Nat.left_eq_add, Nat.one_ne_zero, Nat.reduceAdd, Nat.reduceLT, Nat.reduceLeDiff, Nat.reduceEqDiff, true_implies, false_implies, implies_true, Option.some.injEq, forall_eq', forall_eq, reduceCtorEq, brT, brF, br_s, i_10, i_01, ib_0_2, ib_1_2, tn_0, tn_1, Int32.le_refl, eq_self, rv_bN, rv_iM, c1]
        exact fin
      · refine b231_148 ?_
        simp only [↓br_pos, ↓br_neg, ↓rF_I, ↓rF_L, ↓rF_R, ↓rF_N, rO_m, rB_m, ↓rI_m, wI_m, ↓rB2_m, ↓rB3_m, wB2_m, wB3_m, ↓rL_m, wL_m, ↓rQ_m, wQ_m, ↓lI_m, pI_m, pL_m, pR_m, sI_m, sBy_m, sBo_m, sL_m, sQ_m, fst_m, true_and, and_true, tg_some, ln_some, uI_1, uI_2, uL_1, uL_2, uL_3, uQ_1, uQ_2, uQ_3, rv_i, rv_l, rv_n, rv_b0, rv_b1, RMR, ne_eq, reduceCtorEq, not_false_eq_true, Option.getD_some, if_true, if_false, and_self, false_and, and_false, Nat.add_left_cancel_iff, Nat.add_eq_left, Nat.left_eq_add, Nat.one_ne_zero, Nat.reduceAdd, Nat.reduceLT, Nat.reduceLeDiff, Nat.reduceEqDiff, true_implies, false_implies, implies_true, Option.some.injEq, forall_eq', forall_eq, reduceCtorEq, brT, brF, br_s, i_10, i_01, ib_0_2, ib_1_2, tn_0, tn_1, Int32.le_refl, eq_self, rv_bN, rv_iM, c1]
        exact fin
    · have := uk_t (by omega : s < 8) ht
      omega
  | succ f ih =>
    intro σ a2 x hu hf hp ha hx
    rcases ha with rfl | ⟨s, hs, ht, rfl⟩
    · have c1 : ((-1 : Int32) = -1) ↔ True := iff_true_intro rfl
      have fin := lp_231d (a1 := a1) (d := d) (τ := τ) (ρ := ρ) hw (mT_c hτ0 (hf.1 83 (by omega) (by omega))) hv (fun σ' m f' p' => hQ σ' m (frZ_tr hf f') p') (τ 2) 0 (n1 σ) σ x (by omega) frZ_rf hp n1_8 hx
      rcases hx with rfl | ⟨u, rfl⟩
      · refine b231_148a ?_
        simp only [↓br_pos, ↓br_neg, ↓rF_I, ↓rF_L, ↓rF_R, ↓rF_N, rO_m, rB_m, ↓rI_m, wI_m, ↓rB2_m, ↓rB3_m, wB2_m, wB3_m, ↓rL_m, wL_m, ↓rQ_m, wQ_m, ↓lI_m, pI_m, pL_m, pR_m, sI_m, sBy_m, sBo_m, sL_m, sQ_m, fst_m, true_and, and_true, tg_some, ln_some, uI_1, uI_2, uL_1, uL_2, uL_3, uQ_1, uQ_2, uQ_3, rv_i, rv_l, rv_n, rv_b0, rv_b1, RMR, ne_eq, reduceCtorEq, not_false_eq_true, Option.getD_some, if_true, if_false, and_self, false_and, and_false, Nat.add_left_cancel_iff, Nat.add_eq_left, Nat.left_eq_add, Nat.one_ne_zero, Nat.reduceAdd, Nat.reduceLT, Nat.reduceLeDiff, Nat.reduceEqDiff, true_implies, false_implies, implies_true, Option.some.injEq, forall_eq', forall_eq, reduceCtorEq, brT, brF, br_s, i_10, i_01, ib_0_2, ib_1_2, tn_0, tn_1, Int32.le_refl, eq_self, rv_bN, rv_iM, c1]
        exact fin
      · refine b231_148 ?_
        simp only [↓br_pos, ↓br_neg, ↓rF_I, ↓rF_L, ↓rF_R, ↓rF_N, rO_m, rB_m, ↓rI_m, wI_m, ↓rB2_m, ↓rB3_m, wB2_m, wB3_m, ↓rL_m, wL_m, ↓rQ_m, wQ_m, ↓lI_m, pI_m, pL_m, pR_m, sI_m, sBy_m, sBo_m, sL_m, sQ_m, fst_m, true_and, and_true, tg_some, ln_some, uI_1, uI_2, uL_1, uL_2, uL_3, uQ_1, uQ_2, uQ_3, rv_i, rv_l, rv_n, rv_b0, rv_b1, RMR, ne_eq, reduceCtorEq, not_false_eq_true, Option.getD_some, if_true, if_false, and_self, false_and, and_false, Nat.add_left_cancel_iff, Nat.add_eq_left, Nat.left_eq_add, Nat.one_ne_zero, Nat.reduceAdd, Nat.reduceLT, Nat.reduceLeDiff, Nat.reduceEqDiff, true_implies, false_implies, implies_true, Option.some.injEq, forall_eq', forall_eq, reduceCtorEq, brT, brF, br_s, i_10, i_01, ib_0_2, ib_1_2, tn_0, tn_1, Int32.le_refl, eq_self, rv_bN, rv_iM, c1]
        exact fin
    · have ut := uk_t (by omega : s < 8) ht
      have nt := n1_t (by omega : s < 8) ht
      have c1 : (Int32.ofNat s = (-1 : Int32)) ↔ False := on_m1 (by omega)
      have f1 : frZ σ (uI σ 96 s 1) := frZ_I (by omega)
      by_cases z : σ.1 95 s = 0
      · rw [if_pos z] at nt
        have b8 := n1_8 (σ := uI σ 96 s 1)
        have f2 : frZ σ (uI (uI (uI σ 96 s 1) 97 (n1 σ) (Int32.ofNat s)) 81 41 (Int32.ofNat (n1 σ + 1))) := frZ_tr f1 (frZ_tr (frZ_I (by omega)) (frZ_0 (by omega)))
        have en : n1 (uI (uI (uI σ 96 s 1) 97 (n1 σ) (Int32.ofNat s)) 81 41 (Int32.ofNat (n1 σ + 1))) = n1 σ + 1 := by rw [n1_c (σ := uI σ 96 s 1) (by rw [uI_o (by omega), uI_o (by omega)]) (by rw [uI_o (by omega), uI_o (by omega)])]; exact nt
        have eu : uk (uI (uI (uI σ 96 s 1) 97 (n1 σ) (Int32.ofNat s)) 81 41 (Int32.ofNat (n1 σ + 1))) = uk (uI σ 96 s 1) := uk_c (by rw [uI_o (by omega), uI_o (by omega)])
        have p2 : plI (uI (uI (uI σ 96 s 1) 97 (n1 σ) (Int32.ofNat s)) 81 41 (Int32.ofNat (n1 σ + 1))) (n1 (uI (uI (uI σ 96 s 1) 97 (n1 σ) (Int32.ofNat s)) 81 41 (Int32.ofNat (n1 σ + 1)))) := by
          rw [en]
          refine ⟨by rw [uI_1, if_pos ⟨rfl, rfl⟩], by omega, fun j hj => ?_⟩
          rw [uI_1, if_neg (by omega), uI_1]
          by_cases e : j = n1 σ
          · rw [if_pos ⟨rfl, e⟩]; exact ⟨s, by omega, rfl⟩
          · rw [if_neg (fun q => e q.2), uI_1, if_neg (by omega)]; exact hp.2.2 j (by omega)
        have fin : wpI d 229 [.ref 81] (mW w (uI (uI (uI σ 96 s 1) 97 (n1 σ) (Int32.ofNat s)) 81 41 (Int32.ofNat (n1 σ + 1)))) (fun x8 h7 => Wp 231 148 [.ref 81, .int a1, .int x8, x] [] h7 Q d) := by
          refine s_229 hw (mT_c hτ0 ((frZ_tr hf f2).1 83 (by omega) (by omega))) (mR_c hρ0 ((frZ_tr hf f2).1 85 (by omega) (by omega))) hv hr ?_ (fun s' hs' ht' => ?_) hd
          · exact ih _ _ _ (by omega) (frZ_tr hf f2) p2 (Or.inl rfl) hx
          · exact ih _ _ _ (by omega) (frZ_tr hf f2) p2 (Or.inr ⟨s', hs', ht', rfl⟩) hx
        rcases hx with rfl | ⟨u, rfl⟩
        · refine b231_148a ?_
          simp only [↓br_pos, ↓br_neg, ↓rF_I, ↓rF_L, ↓rF_R, ↓rF_N, rO_m, rB_m, ↓rI_m, wI_m, ↓rB2_m, ↓rB3_m, wB2_m, wB3_m, ↓rL_m, wL_m, ↓rQ_m, wQ_m, ↓lI_m, pI_m, pL_m, pR_m, sI_m, sBy_m, sBo_m, sL_m, sQ_m, fst_m, true_and, and_true, tg_some, ln_some, uI_1, uI_2, uL_1, uL_2, uL_3, uQ_1, uQ_2, uQ_3, rv_i, rv_l, rv_n, rv_b0, rv_b1, RMR, ne_eq, reduceCtorEq, not_false_eq_true, Option.getD_some, if_true, if_false, and_self, false_and, and_false, Nat.add_left_cancel_iff, Nat.add_eq_left, Nat.left_eq_add, Nat.one_ne_zero, Nat.reduceAdd, Nat.reduceLT, Nat.reduceLeDiff, Nat.reduceEqDiff, true_implies, false_implies, implies_true, Option.some.injEq, forall_eq', forall_eq, reduceCtorEq, brT, brF, br_s, i_10, i_01, ib_0_2, ib_1_2, tn_0, tn_1, Int32.le_refl, eq_self, rv_bN, rv_iM, RCM 81, RLY, lit_at hw, c1, ix (by omega : s < 8) (by omega), nb1, z, hp.1, ix (by omega : n1 σ < 8) (by omega), on_succ]
          exact fin
        · refine b231_148 ?_
          simp only [↓br_pos, ↓br_neg, ↓rF_I, ↓rF_L, ↓rF_R, ↓rF_N, rO_m, rB_m, ↓rI_m, wI_m, ↓rB2_m, ↓rB3_m, wB2_m, wB3_m, ↓rL_m, wL_m, ↓rQ_m, wQ_m, ↓lI_m, pI_m, pL_m, pR_m, sI_m, sBy_m, sBo_m, sL_m, sQ_m, fst_m, true_and, and_true, tg_some, ln_some, uI_1, uI_2, uL_1, uL_2, uL_3, uQ_1, uQ_2, uQ_3, rv_i, rv_l, rv_n, rv_b0, rv_b1, RMR, ne_eq, reduceCtorEq, not_false_eq_true, Option.getD_some, if_true, if_false, and_self, false_and, and_false, Nat.add_left_cancel_iff, Nat.add_eq_left, Nat.left_eq_add, Nat.one_ne_zero, Nat.reduceAdd, Nat.reduceLT, Nat.reduceLeDiff, Nat.reduceEqDiff, true_implies, false_implies, implies_true, Option.some.injEq, forall_eq', forall_eq, reduceCtorEq, brT, brF, br_s, i_10, i_01, ib_0_2, ib_1_2, tn_0, tn_1, Int32.le_refl, eq_self, rv_bN, rv_iM, RCM 81, RLY, lit_at hw, c1, ix (by omega : s < 8) (by omega), nb1, z, hp.1, ix (by omega : n1 σ < 8) (by omega), on_succ]
          exact fin
      · rw [if_neg z, Nat.add_zero] at nt
        have p2 : plI (uI σ 96 s 1) (n1 (uI σ 96 s 1)) := by
          rw [nt]
          exact ⟨by rw [uI_1, if_neg (by omega)]; exact hp.1, hp.2.1, fun j hj => by rw [uI_1, if_neg (by omega)]; exact hp.2.2 j hj⟩
        have fin : wpI d 229 [.ref 81] (mW w (uI σ 96 s 1)) (fun x8 h7 => Wp 231 148 [.ref 81, .int a1, .int x8, x] [] h7 Q d) := by
          refine s_229 hw (mT_c hτ0 ((frZ_tr hf f1).1 83 (by omega) (by omega))) (mR_c hρ0 ((frZ_tr hf f1).1 85 (by omega) (by omega))) hv hr ?_ (fun s' hs' ht' => ?_) hd
          · exact ih _ _ _ (by omega) (frZ_tr hf f1) p2 (Or.inl rfl) hx
          · exact ih _ _ _ (by omega) (frZ_tr hf f1) p2 (Or.inr ⟨s', hs', ht', rfl⟩) hx
        rcases hx with rfl | ⟨u, rfl⟩
        · refine b231_148a ?_
          simp only [↓br_pos, ↓br_neg, ↓rF_I, ↓rF_L, ↓rF_R, ↓rF_N, rO_m, rB_m, ↓rI_m, wI_m, ↓rB2_m, ↓rB3_m, wB2_m, wB3_m, ↓rL_m, wL_m, ↓rQ_m, wQ_m, ↓lI_m, pI_m, pL_m, pR_m, sI_m, sBy_m, sBo_m, sL_m, sQ_m, fst_m, true_and, and_true, tg_some, ln_some, uI_1, uI_2, uL_1, uL_2, uL_3, uQ_1, uQ_2, uQ_3, rv_i, rv_l, rv_n, rv_b0, rv_b1, RMR, ne_eq, reduceCtorEq, not_false_eq_true, Option.getD_some, if_true, if_false, and_self, false_and, and_false, Nat.add_left_cancel_iff, Nat.add_eq_left, Nat.left_eq_add, Nat.one_ne_zero, Nat.reduceAdd, Nat.reduceLT, Nat.reduceLeDiff, Nat.reduceEqDiff, true_implies, false_implies, implies_true, Option.some.injEq, forall_eq', forall_eq, reduceCtorEq, brT, brF, br_s, i_10, i_01, ib_0_2, ib_1_2, tn_0, tn_1, Int32.le_refl, eq_self, rv_bN, rv_iM, RCM 81, RLY, lit_at hw, c1, ix (by omega : s < 8) (by omega), nb1, z]
          exact fin
        · refine b231_148 ?_
          simp only [↓br_pos, ↓br_neg, ↓rF_I, ↓rF_L, ↓rF_R, ↓rF_N, rO_m, rB_m, ↓rI_m, wI_m, ↓rB2_m, ↓rB3_m, wB2_m, wB3_m, ↓rL_m, wL_m, ↓rQ_m, wQ_m, ↓lI_m, pI_m, pL_m, pR_m, sI_m, sBy_m, sBo_m, sL_m, sQ_m, fst_m, true_and, and_true, tg_some, ln_some, uI_1, uI_2, uL_1, uL_2, uL_3, uQ_1, uQ_2, uQ_3, rv_i, rv_l, rv_n, rv_b0, rv_b1, RMR, ne_eq, reduceCtorEq, not_false_eq_true, Option.getD_some, if_true, if_false, and_self, false_and, and_false, Nat.add_left_cancel_iff, Nat.add_eq_left, Nat.left_eq_add, Nat.one_ne_zero, Nat.reduceAdd, Nat.reduceLT, Nat.reduceLeDiff, Nat.reduceEqDiff, true_implies, false_implies, implies_true, Option.some.injEq, forall_eq', forall_eq, reduceCtorEq, brT, brF, br_s, i_10, i_01, ib_0_2, ib_1_2, tn_0, tn_1, Int32.le_refl, eq_self, rv_bN, rv_iM, RCM 81, RLY, lit_at hw, c1, ix (by omega : s < 8) (by omega), nb1, z]
          exact fin
theorem lp_231b {w : mT} {τ ρ : Rw} {d : Nat} {a1 : Int32} {σ0 : mS} {Q : Option (Option Value) → Hp → Prop} (hw : lit w) (hτ0 : mTold σ0 τ) (hρ0 : mRow σ0 85 0 ρ) (hv : vTold τ) (hr : vRow τ ρ) (hd : 2 ≤ d) (hQ : ∀ σ' m, frZ σ0 σ' → plI σ' m → Q (some none) (mW w σ')) : ∀ (r i : Nat) (σ : mS) (x : Value), i + r = 8 → frZ σ0 σ → σ.1 81 41 = 0 → (∀ j, j < i → σ.1 96 j = 0) → (x = jk ∨ ∃ u : Int32, x = .int u) → Wp 231 124 [.ref 81, .int a1, .int (Int32.ofNat i), x] [] (mW w σ) Q d := by
  intro r
  induction r with
  | zero =>
    intro i σ x hi hf h41 hz hx
    have hi' : i = 8 := by omega
    subst hi'
    have c8 : ((8 : Int32) ≤ Int32.ofNat 8) ↔ True := by decide
    have en : n1 σ = 0 := sm_z (fun j hj => if_neg (fun q => q.1 (hz j hj)))
    have hp : plI σ (n1 σ) := by rw [en]; exact ⟨h41, by omega, fun j hj => by omega⟩
    have fin : wpI d 229 [.ref 81] (mW w σ) (fun x2 h1 => Wp 231 148 [.ref 81, .int a1, .int x2, x] [] h1 Q d) := by
      refine s_229 hw (mT_c hτ0 (hf.1 83 (by omega) (by omega))) (mR_c hρ0 (hf.1 85 (by omega) (by omega))) hv hr ?_ (fun s' hs' ht' => ?_) hd
      · exact lp_231c hw hτ0 hρ0 hv hr hd hQ _ σ _ _ (Nat.le_refl _) hf hp (Or.inl rfl) hx
      · exact lp_231c hw hτ0 hρ0 hv hr hd hQ _ σ _ _ (Nat.le_refl _) hf hp (Or.inr ⟨s', hs', ht', rfl⟩) hx
    rcases hx with rfl | ⟨u, rfl⟩
    · refine b231_124a ?_
      simp only [↓br_pos, ↓br_neg, ↓rF_I, ↓rF_L, ↓rF_R, ↓rF_N, rO_m, rB_m, ↓rI_m, wI_m, ↓rB2_m, ↓rB3_m, wB2_m, wB3_m, ↓rL_m, wL_m, ↓rQ_m, wQ_m, ↓lI_m, pI_m, pL_m, pR_m, sI_m, sBy_m, sBo_m, sL_m, sQ_m, fst_m, true_and, and_true, tg_some, ln_some, uI_1, uI_2, uL_1, uL_2, uL_3, uQ_1, uQ_2, uQ_3, rv_i, rv_l, rv_n, rv_b0, rv_b1, RMR, ne_eq, reduceCtorEq, not_false_eq_true, Option.getD_some, if_true, if_false, and_self, false_and, and_false, Nat.add_left_cancel_iff, Nat.add_eq_left, Nat.left_eq_add, Nat.one_ne_zero, Nat.reduceAdd, Nat.reduceLT, Nat.reduceLeDiff, Nat.reduceEqDiff, true_implies, false_implies, implies_true, Option.some.injEq, forall_eq', forall_eq, reduceCtorEq, brT, brF, br_s, i_10, i_01, ib_0_2, ib_1_2, tn_0, tn_1, Int32.le_refl, eq_self, rv_bN, rv_iM, RCM 81, RLY, lit_at hw, c8]
      exact fin
    · refine b231_124 ?_
      simp only [↓br_pos, ↓br_neg, ↓rF_I, ↓rF_L, ↓rF_R, ↓rF_N, rO_m, rB_m, ↓rI_m, wI_m, ↓rB2_m, ↓rB3_m, wB2_m, wB3_m, ↓rL_m, wL_m, ↓rQ_m, wQ_m, ↓lI_m, pI_m, pL_m, pR_m, sI_m, sBy_m, sBo_m, sL_m, sQ_m, fst_m, true_and, and_true, tg_some, ln_some, uI_1, uI_2, uL_1, uL_2, uL_3, uQ_1, uQ_2, uQ_3, rv_i, rv_l, rv_n, rv_b0, rv_b1, RMR, ne_eq, reduceCtorEq, not_false_eq_true, Option.getD_some, if_true, if_false, and_self, false_and, and_false, Nat.add_left_cancel_iff, Nat.add_eq_left, Nat.left_eq_add, Nat.one_ne_zero, Nat.reduceAdd, Nat.reduceLT, Nat.reduceLeDiff, Nat.reduceEqDiff, true_implies, false_implies, implies_true, Option.some.injEq, forall_eq', forall_eq, reduceCtorEq, brT, brF, br_s, i_10, i_01, ib_0_2, ib_1_2, tn_0, tn_1, Int32.le_refl, eq_self, rv_bN, rv_iM, RCM 81, RLY, lit_at hw, c8]
      exact fin
  | succ r ih =>
    intro i σ x hi hf h41 hz hx
    have c8 : ((8 : Int32) ≤ Int32.ofNat i) ↔ False := iff_false_intro (fun q => absurd ((on_le (i := 8) (by omega) (by omega)).mp q) (by omega))
    have nx := ih (i + 1) (uI σ 96 i 0) x (by omega) (frZ_tr hf (frZ_I (by omega))) (by rw [uI_1, if_neg (by omega)]; exact h41) (fun j hj => by
      rw [uI_1]
      by_cases e : j = i
      · rw [if_pos ⟨rfl, e⟩]
      · rw [if_neg (fun q => e q.2)]; exact hz j (by omega)) hx
    rcases hx with rfl | ⟨u, rfl⟩
    · refine b231_124a ?_
      simp only [↓br_pos, ↓br_neg, ↓rF_I, ↓rF_L, ↓rF_R, ↓rF_N, rO_m, rB_m, ↓rI_m, wI_m, ↓rB2_m, ↓rB3_m, wB2_m, wB3_m, ↓rL_m, wL_m, ↓rQ_m, wQ_m, ↓lI_m, pI_m, pL_m, pR_m, sI_m, sBy_m, sBo_m, sL_m, sQ_m, fst_m, true_and, and_true, tg_some, ln_some, uI_1, uI_2, uL_1, uL_2, uL_3, uQ_1, uQ_2, uQ_3, rv_i, rv_l, rv_n, rv_b0, rv_b1, RMR, ne_eq, reduceCtorEq, not_false_eq_true, Option.getD_some, if_true, if_false, and_self, false_and, and_false, Nat.add_left_cancel_iff, Nat.add_eq_left, Nat.left_eq_add, Nat.one_ne_zero, Nat.reduceAdd, Nat.reduceLT, Nat.reduceLeDiff, Nat.reduceEqDiff, true_implies, false_implies, implies_true, Option.some.injEq, forall_eq', forall_eq, reduceCtorEq, brT, brF, br_s, i_10, i_01, ib_0_2, ib_1_2, tn_0, tn_1, Int32.le_refl, eq_self, rv_bN, rv_iM, RCM 81, RLY, lit_at hw, c8, ix (by omega : i < 8) (by omega), nb0, on_succ]
      exact nx
    · refine b231_124 ?_
      simp only [↓br_pos, ↓br_neg, ↓rF_I, ↓rF_L, ↓rF_R, ↓rF_N, rO_m, rB_m, ↓rI_m, wI_m, ↓rB2_m, ↓rB3_m, wB2_m, wB3_m, ↓rL_m, wL_m, ↓rQ_m, wQ_m, ↓lI_m, pI_m, pL_m, pR_m, sI_m, sBy_m, sBo_m, sL_m, sQ_m, fst_m, true_and, and_true, tg_some, ln_some, uI_1, uI_2, uL_1, uL_2, uL_3, uQ_1, uQ_2, uQ_3, rv_i, rv_l, rv_n, rv_b0, rv_b1, RMR, ne_eq, reduceCtorEq, not_false_eq_true, Option.getD_some, if_true, if_false, and_self, false_and, and_false, Nat.add_left_cancel_iff, Nat.add_eq_left, Nat.left_eq_add, Nat.one_ne_zero, Nat.reduceAdd, Nat.reduceLT, Nat.reduceLeDiff, Nat.reduceEqDiff, true_implies, false_implies, implies_true, Option.some.injEq, forall_eq', forall_eq, reduceCtorEq, brT, brF, br_s, i_10, i_01, ib_0_2, ib_1_2, tn_0, tn_1, Int32.le_refl, eq_self, rv_bN, rv_iM, RCM 81, RLY, lit_at hw, c8, ix (by omega : i < 8) (by omega), nb0, on_succ]
      exact nx
theorem lp_231a {w : mT} {τ ρ : Rw} {d : Nat} {σ0 : mS} {Q : Option (Option Value) → Hp → Prop} (hw : lit w) (hτ0 : mTold σ0 τ) (hρ0 : mRow σ0 85 0 ρ) (hv : vTold τ) (hr : vRow τ ρ) (hd : 2 ≤ d) (hQ : ∀ σ' m, frZ σ0 σ' → plI σ' m → Q (some none) (mW w σ')) : ∀ (f : Nat) (σ : mS) (a1 a2 : Int32) (x : Value), uk σ ≤ f → frZ σ0 σ → (∀ j, j < 8 → σ.1 95 j ≠ 0 → σ.1 96 j ≠ 0) → (a2 = -1 ∨ ∃ s, s < τ 2 ∧ σ.1 96 s = 0 ∧ a2 = Int32.ofNat s) → (x = jk ∨ ∃ u : Int32, x = .int u) → Wp 231 47 [.ref 81, .int a1, .int a2, x] [] (mW w σ) Q d := by
  have hd1 : 1 ≤ d := by omega
  have v2 := hv.2.2.1
  have base : ∀ (σ : mS) (a1 : Int32) (x : Value), frZ σ0 σ → (x = jk ∨ ∃ u : Int32, x = .int u) → Wp 231 47 [.ref 81, .int a1, .int (-1 : Int32), x] [] (mW w σ) Q d := fun σ a1 x hf hx => by
    have c1 : ((-1 : Int32) = -1) ↔ True := iff_true_intro rfl
    have f1 : frZ σ (uI σ 81 41 0) := frZ_0 (by omega)
    have fin := lp_231b (a1 := a1) (d := d) hw hτ0 hρ0 hv hr hd hQ 8 0 (uI σ 81 41 0) x (by omega) (frZ_tr hf f1) (by rw [uI_1, if_pos ⟨rfl, rfl⟩]) (fun j hj => by omega) hx
    rcases hx with rfl | ⟨u, rfl⟩
    · refine b231_47 ?_
      simp only [↓br_pos, ↓br_neg, ↓rF_I, ↓rF_L, ↓rF_R, ↓rF_N, rO_m, rB_m, ↓rI_m, wI_m, ↓rB2_m, ↓rB3_m, wB2_m, wB3_m, ↓rL_m, wL_m, ↓rQ_m, wQ_m, ↓lI_m, pI_m, pL_m, pR_m, sI_m, sBy_m, sBo_m, sL_m, sQ_m, fst_m, true_and, and_true, tg_some, ln_some, uI_1, uI_2, uL_1, uL_2, uL_3, uQ_1, uQ_2, uQ_3, rv_i, rv_l, rv_n, rv_b0, rv_b1, RMR, ne_eq, reduceCtorEq, not_false_eq_true, Option.getD_some, if_true, if_false, and_self, false_and, and_false, Nat.add_left_cancel_iff, Nat.add_eq_left, Nat.left_eq_add, Nat.one_ne_zero, Nat.reduceAdd, Nat.reduceLT, Nat.reduceLeDiff, Nat.reduceEqDiff, true_implies, false_implies, implies_true, Option.some.injEq, forall_eq', forall_eq, reduceCtorEq, brT, brF, br_s, i_10, i_01, ib_0_2, ib_1_2, tn_0, tn_1, Int32.le_refl, eq_self, rv_bN, rv_iM, RCM 81, RLY, lit_at hw, c1]
      exact fin
    · refine b231_47a ?_
      simp only [↓br_pos, ↓br_neg, ↓rF_I, ↓rF_L, ↓rF_R, ↓rF_N, rO_m, rB_m, ↓rI_m, wI_m, ↓rB2_m, ↓rB3_m, wB2_m, wB3_m, ↓rL_m, wL_m, ↓rQ_m, wQ_m, ↓lI_m, pI_m, pL_m, pR_m, sI_m, sBy_m, sBo_m, sL_m, sQ_m, fst_m, true_and, and_true, tg_some, ln_some, uI_1, uI_2, uL_1, uL_2, uL_3, uQ_1, uQ_2, uQ_3, rv_i, rv_l, rv_n, rv_b0, rv_b1, RMR, ne_eq, reduceCtorEq, not_false_eq_true, Option.getD_some, if_true, if_false, and_self, false_and, and_false, Nat.add_left_cancel_iff, Nat.add_eq_left, Nat.left_eq_add, Nat.one_ne_zero, Nat.reduceAdd, Nat.reduceLT, Nat.reduceLeDiff, Nat.reduceEqDiff, true_implies, false_implies, implies_true, Option.some.injEq, forall_eq', forall_eq, reduceCtorEq, brT, brF, br_s, i_10, i_01, ib_0_2, ib_1_2, tn_0, tn_1, Int32.le_refl, eq_self, rv_bN, rv_iM, RCM 81, RLY, lit_at hw, c1]
      exact fin
  intro f
  induction f with
  | zero =>
    intro σ a1 a2 x hu hf hI ha hx
    rcases ha with rfl | ⟨s, hs, ht, rfl⟩
    · exact base σ a1 x hf hx
    · have := uk_t (by omega : s < 8) ht
      omega
  | succ f ih =>
    intro σ a1 a2 x hu hf hI ha hx
    rcases ha with rfl | ⟨s, hs, ht, rfl⟩
    · exact base σ a1 x hf hx
    have ut := uk_t (by omega : s < 8) ht
    have c1 : (Int32.ofNat s = (-1 : Int32)) ↔ False := on_m1 (by omega)
    have f1 : frZ σ (uI σ 96 s 1) := frZ_I (by omega)
    have hτ1 := mT_c hτ0 ((frZ_tr hf f1).1 83 (by omega) (by omega))
    have hρ1 := mR_c hρ0 ((frZ_tr hf f1).1 85 (by omega) (by omega))
    have o0 : σ.1 95 s = 0 := by
      apply Decidable.byContradiction
      intro q
      exact hI s (by omega) q ht
    have I1 : ∀ j, j < 8 → (uI σ 96 s 1).1 95 j ≠ 0 → (uI σ 96 s 1).1 96 j ≠ 0 := fun j hj hz => by
      rw [uI_1, if_neg (by omega)] at hz
      rw [uI_1]
      by_cases e : j = s
      · rw [if_pos ⟨rfl, e⟩]; decide
      · rw [if_neg (fun q => e q.2)]; exact hI j hj hz
    have g4 := fun {K : Int32 → Hp → Prop} => g_155 (K := K) (s := s) (x := 4) (a := 4) hw hτ1 rfl (by omega) hd1
    have g3 := fun {K : Int32 → Hp → Prop} => g_155 (K := K) (s := s) (x := 3) (a := 3) hw hτ1 rfl (by omega) hd1
    rcases hx with rfl | ⟨u, rfl⟩
    · skip
      refine b231_47 ?_
      simp only [↓rF_I, ↓rF_L, ↓rF_R, ↓rF_N, rO_m, rB_m, ↓rI_m, wI_m, ↓rB2_m, ↓rB3_m, wB2_m, wB3_m, ↓rL_m, wL_m, ↓rQ_m, wQ_m, ↓lI_m, pI_m, pL_m, pR_m, sI_m, sBy_m, sBo_m, sL_m, sQ_m, fst_m, true_and, and_true, tg_some, ln_some, uI_1, uI_2, uL_1, uL_2, uL_3, uQ_1, uQ_2, uQ_3, rv_i, rv_l, rv_n, rv_b0, rv_b1, RMR, ne_eq, reduceCtorEq, not_false_eq_true, Option.getD_some, if_true, if_false, and_self, false_and, and_false, Nat.add_left_cancel_iff, Nat.add_eq_left, Nat.left_eq_add, Nat.one_ne_zero, Nat.reduceAdd, Nat.reduceLT, Nat.reduceLeDiff, Nat.reduceEqDiff, true_implies, false_implies, implies_true, Option.some.injEq, forall_eq', forall_eq, reduceCtorEq, brT, brF, br_s, i_10, i_01, ib_0_2, ib_1_2, tn_0, tn_1, Int32.le_refl, eq_self, rv_bN, rv_iM, RCM 81, RLY, lit_at hw, c1, ix (by omega : s < 8) (by omega), nb1, g4, g3]
      refine br2 ?_ ?_
      · refine s_229 hw hτ1 hρ1 hv hr ?_ (fun s' hs' ht' => ?_) hd
        · exact ih _ _ _ _ (by omega) (frZ_tr hf f1) I1 (Or.inl rfl) (Or.inl rfl)
        · exact ih _ _ _ _ (by omega) (frZ_tr hf f1) I1 (Or.inr ⟨s', hs', ht', rfl⟩) (Or.inl rfl)
      · refine s_230 hw hτ1 hρ1 hv hr ⟨s, hs, by rw [uI_1, if_pos ⟨rfl, rfl⟩]; decide, by rw [uI_1, if_neg (by omega)]; exact o0⟩ (fun q hq tq oq => ?_) hd
        have f3 := fun x : Int32 => (frZ_tr f1 (frZ_tr (frZ_I (by omega)) (frZ_0 (by omega))) : frZ σ (uI (uI (uI σ 96 s 1) 95 q 1) 81 42 x))
        have I3 : ∀ (x : Int32) j, j < 8 → (uI (uI (uI σ 96 s 1) 95 q 1) 81 42 x).1 95 j ≠ 0 → (uI (uI (uI σ 96 s 1) 95 q 1) 81 42 x).1 96 j ≠ 0 := fun x j hj hz => by
          rw [uI_1, if_neg (by omega), uI_1] at hz
          rw [uI_1, if_neg (by omega), uI_1, if_neg (by omega)]
          by_cases e : j = q
          · rw [e]; exact tq
          · rw [if_neg (fun q => e q.2)] at hz; exact I1 j hj hz
        have u3 : ∀ x : Int32, uk (uI (uI (uI σ 96 s 1) 95 q 1) 81 42 x) = uk (uI σ 96 s 1) := fun x => uk_c (by rw [uI_o (by omega), uI_o (by omega)])
        have g5 := fun {x : Int32} {K : Int32 → Hp → Prop} => g_155 (K := K) (s := q) (x := 4) (a := 4) hw (mT_c hτ0 ((frZ_tr hf (f3 x)).1 83 (by omega) (by omega))) rfl (by omega) hd1
        simp only [↓rF_I, ↓rF_L, ↓rF_R, ↓rF_N, rO_m, rB_m, ↓rI_m, wI_m, ↓rB2_m, ↓rB3_m, wB2_m, wB3_m, ↓rL_m, wL_m, ↓rQ_m, wQ_m, ↓lI_m, pI_m, pL_m, pR_m, sI_m, sBy_m, sBo_m, sL_m, sQ_m, fst_m, true_and, and_true, tg_some, ln_some, uI_1, uI_2, uL_1, uL_2, uL_3, uQ_1, uQ_2, uQ_3, rv_i, rv_l, rv_n, rv_b0, rv_b1, RMR, ne_eq, reduceCtorEq, not_false_eq_true, Option.getD_some, if_true, if_false, and_self, false_and, and_false, Nat.add_left_cancel_iff, Nat.add_eq_left, Nat.left_eq_add, Nat.one_ne_zero, Nat.reduceAdd, Nat.reduceLT, Nat.reduceLeDiff, Nat.reduceEqDiff, true_implies, false_implies, implies_true, Option.some.injEq, forall_eq', forall_eq, reduceCtorEq, brT, brF, br_s, i_10, i_01, ib_0_2, ib_1_2, tn_0, tn_1, Int32.le_refl, eq_self, rv_bN, rv_iM, RCM 81, RLY, lit_at hw, ix (by omega : q < 8) (by omega), nb1, g5]
        refine s_229 hw (mT_c hτ0 ((frZ_tr hf (f3 _)).1 83 (by omega) (by omega))) (mR_c hρ0 ((frZ_tr hf (f3 _)).1 85 (by omega) (by omega))) hv hr ?_ (fun s' hs' ht' => ?_) hd
        · exact ih _ _ _ _ (by rw [u3]; omega) (frZ_tr hf (f3 _)) (I3 _) (Or.inl rfl) (Or.inr ⟨_, rfl⟩)
        · exact ih _ _ _ _ (by rw [u3]; omega) (frZ_tr hf (f3 _)) (I3 _) (Or.inr ⟨s', hs', ht', rfl⟩) (Or.inr ⟨_, rfl⟩)
    · skip
      refine b231_47a ?_
      simp only [↓rF_I, ↓rF_L, ↓rF_R, ↓rF_N, rO_m, rB_m, ↓rI_m, wI_m, ↓rB2_m, ↓rB3_m, wB2_m, wB3_m, ↓rL_m, wL_m, ↓rQ_m, wQ_m, ↓lI_m, pI_m, pL_m, pR_m, sI_m, sBy_m, sBo_m, sL_m, sQ_m, fst_m, true_and, and_true, tg_some, ln_some, uI_1, uI_2, uL_1, uL_2, uL_3, uQ_1, uQ_2, uQ_3, rv_i, rv_l, rv_n, rv_b0, rv_b1, RMR, ne_eq, reduceCtorEq, not_false_eq_true, Option.getD_some, if_true, if_false, and_self, false_and, and_false, Nat.add_left_cancel_iff, Nat.add_eq_left, Nat.left_eq_add, Nat.one_ne_zero, Nat.reduceAdd, Nat.reduceLT, Nat.reduceLeDiff, Nat.reduceEqDiff, true_implies, false_implies, implies_true, Option.some.injEq, forall_eq', forall_eq, reduceCtorEq, brT, brF, br_s, i_10, i_01, ib_0_2, ib_1_2, tn_0, tn_1, Int32.le_refl, eq_self, rv_bN, rv_iM, RCM 81, RLY, lit_at hw, c1, ix (by omega : s < 8) (by omega), nb1, g4, g3]
      refine br2 ?_ ?_
      · refine s_229 hw hτ1 hρ1 hv hr ?_ (fun s' hs' ht' => ?_) hd
        · exact ih _ _ _ _ (by omega) (frZ_tr hf f1) I1 (Or.inl rfl) (Or.inr ⟨_, rfl⟩)
        · exact ih _ _ _ _ (by omega) (frZ_tr hf f1) I1 (Or.inr ⟨s', hs', ht', rfl⟩) (Or.inr ⟨_, rfl⟩)
      · refine s_230 hw hτ1 hρ1 hv hr ⟨s, hs, by rw [uI_1, if_pos ⟨rfl, rfl⟩]; decide, by rw [uI_1, if_neg (by omega)]; exact o0⟩ (fun q hq tq oq => ?_) hd
        have f3 := fun x : Int32 => (frZ_tr f1 (frZ_tr (frZ_I (by omega)) (frZ_0 (by omega))) : frZ σ (uI (uI (uI σ 96 s 1) 95 q 1) 81 42 x))
        have I3 : ∀ (x : Int32) j, j < 8 → (uI (uI (uI σ 96 s 1) 95 q 1) 81 42 x).1 95 j ≠ 0 → (uI (uI (uI σ 96 s 1) 95 q 1) 81 42 x).1 96 j ≠ 0 := fun x j hj hz => by
          rw [uI_1, if_neg (by omega), uI_1] at hz
          rw [uI_1, if_neg (by omega), uI_1, if_neg (by omega)]
          by_cases e : j = q
          · rw [e]; exact tq
          · rw [if_neg (fun q => e q.2)] at hz; exact I1 j hj hz
        have u3 : ∀ x : Int32, uk (uI (uI (uI σ 96 s 1) 95 q 1) 81 42 x) = uk (uI σ 96 s 1) := fun x => uk_c (by rw [uI_o (by omega), uI_o (by omega)])
        have g5 := fun {x : Int32} {K : Int32 → Hp → Prop} => g_155 (K := K) (s := q) (x := 4) (a := 4) hw (mT_c hτ0 ((frZ_tr hf (f3 x)).1 83 (by omega) (by omega))) rfl (by omega) hd1
        simp only [↓rF_I, ↓rF_L, ↓rF_R, ↓rF_N, rO_m, rB_m, ↓rI_m, wI_m, ↓rB2_m, ↓rB3_m, wB2_m, wB3_m, ↓rL_m, wL_m, ↓rQ_m, wQ_m, ↓lI_m, pI_m, pL_m, pR_m, sI_m, sBy_m, sBo_m, sL_m, sQ_m, fst_m, true_and, and_true, tg_some, ln_some, uI_1, uI_2, uL_1, uL_2, uL_3, uQ_1, uQ_2, uQ_3, rv_i, rv_l, rv_n, rv_b0, rv_b1, RMR, ne_eq, reduceCtorEq, not_false_eq_true, Option.getD_some, if_true, if_false, and_self, false_and, and_false, Nat.add_left_cancel_iff, Nat.add_eq_left, Nat.left_eq_add, Nat.one_ne_zero, Nat.reduceAdd, Nat.reduceLT, Nat.reduceLeDiff, Nat.reduceEqDiff, true_implies, false_implies, implies_true, Option.some.injEq, forall_eq', forall_eq, reduceCtorEq, brT, brF, br_s, i_10, i_01, ib_0_2, ib_1_2, tn_0, tn_1, Int32.le_refl, eq_self, rv_bN, rv_iM, RCM 81, RLY, lit_at hw, ix (by omega : q < 8) (by omega), nb1, g5]
        refine s_229 hw (mT_c hτ0 ((frZ_tr hf (f3 _)).1 83 (by omega) (by omega))) (mR_c hρ0 ((frZ_tr hf (f3 _)).1 85 (by omega) (by omega))) hv hr ?_ (fun s' hs' ht' => ?_) hd
        · exact ih _ _ _ _ (by rw [u3]; omega) (frZ_tr hf (f3 _)) (I3 _) (Or.inl rfl) (Or.inr ⟨_, rfl⟩)
        · exact ih _ _ _ _ (by rw [u3]; omega) (frZ_tr hf (f3 _)) (I3 _) (Or.inr ⟨s', hs', ht', rfl⟩) (Or.inr ⟨_, rfl⟩)
theorem lp_231 {w : mT} {τ ρ : Rw} {d : Nat} {σ0 : mS} {Q : Option (Option Value) → Hp → Prop} (hw : lit w) (hτ0 : mTold σ0 τ) (hρ0 : mRow σ0 85 0 ρ) (hv : vTold τ) (hr : vRow τ ρ) (hd : 2 ≤ d) (hQ : ∀ σ' m, frZ σ0 σ' → plI σ' m → Q (some none) (mW w σ')) : ∀ (r i : Nat) (σ : mS), i + r = 8 → frZ σ0 σ → (∀ j, j < i → σ.1 95 j = 0) → Wp 231 2 [.ref 81, .int (Int32.ofNat i), jk, jk] [] (mW w σ) Q d := by
  intro r
  induction r with
  | zero =>
    intro i σ hi hf hz
    have hi' : i = 8 := by omega
    subst hi'
    have c8 : ((8 : Int32) ≤ Int32.ofNat 8) ↔ True := by decide
    have f1 : frZ σ (uI σ 81 42 0) := frZ_0 (by omega)
    have hτ1 := mT_c hτ0 ((frZ_tr hf f1).1 83 (by omega) (by omega))
    have hρ1 := mR_c hρ0 ((frZ_tr hf f1).1 85 (by omega) (by omega))
    have I1 : ∀ j, j < 8 → (uI σ 81 42 0).1 95 j ≠ 0 → (uI σ 81 42 0).1 96 j ≠ 0 := fun j hj q => absurd (by rw [uI_1, if_neg (by omega)]; exact hz j hj) q
    have hρ := mR_c hρ0 (hf.1 85 (by omega) (by omega))
    refine b231_2 ?_
    simp only [↓br_pos, ↓br_neg, ↓rF_I, ↓rF_L, ↓rF_R, ↓rF_N, rO_m, rB_m, ↓rI_m, wI_m, ↓rB2_m, ↓rB3_m, wB2_m, wB3_m, ↓rL_m, wL_m, ↓rQ_m, wQ_m, ↓lI_m, pI_m, pL_m, pR_m, sI_m, sBy_m, sBo_m, sL_m, sQ_m, fst_m, true_and, and_true, tg_some, ln_some, uI_1, uI_2, uL_1, uL_2, uL_3, uQ_1, uQ_2, uQ_3, rv_i, rv_l, rv_n, rv_b0, rv_b1, RMR, ne_eq, reduceCtorEq, not_false_eq_true, Option.getD_some, if_true, if_false, and_self, false_and, and_false, Nat.add_left_cancel_iff, Nat.add_eq_left, Nat.left_eq_add, Nat.one_ne_zero, Nat.reduceAdd, Nat.reduceLT, Nat.reduceLeDiff, Nat.reduceEqDiff, true_implies, false_implies, implies_true, Option.some.injEq, forall_eq', forall_eq, reduceCtorEq, brT, brF, br_s, i_10, i_01, ib_0_2, ib_1_2, tn_0, tn_1, Int32.le_refl, eq_self, rv_bN, rv_iM, RCM 81, RLY, lit_at hw, c8, mr_0l hρ]
    refine s_229 hw hτ1 hρ1 hv hr ?_ (fun s' hs' ht' => ?_) hd
    · exact lp_231a hw hτ0 hρ0 hv hr hd hQ _ _ _ _ _ (Nat.le_refl _) (frZ_tr hf f1) I1 (Or.inl rfl) (Or.inl rfl)
    · exact lp_231a hw hτ0 hρ0 hv hr hd hQ _ _ _ _ _ (Nat.le_refl _) (frZ_tr hf f1) I1 (Or.inr ⟨s', hs', ht', rfl⟩) (Or.inl rfl)
  | succ r ih =>
    intro i σ hi hf hz
    have c8 : ((8 : Int32) ≤ Int32.ofNat i) ↔ False := iff_false_intro (fun q => absurd ((on_le (i := 8) (by omega) (by omega)).mp q) (by omega))
    refine b231_2 ?_
    simp only [↓br_pos, ↓br_neg, ↓rF_I, ↓rF_L, ↓rF_R, ↓rF_N, rO_m, rB_m, ↓rI_m, wI_m, ↓rB2_m, ↓rB3_m, wB2_m, wB3_m, ↓rL_m, wL_m, ↓rQ_m, wQ_m, ↓lI_m, pI_m, pL_m, pR_m, sI_m, sBy_m, sBo_m, sL_m, sQ_m, fst_m, true_and, and_true, tg_some, ln_some, uI_1, uI_2, uL_1, uL_2, uL_3, uQ_1, uQ_2, uQ_3, rv_i, rv_l, rv_n, rv_b0, rv_b1, RMR, ne_eq, reduceCtorEq, not_false_eq_true, Option.getD_some, if_true, if_false, and_self, false_and, and_false, Nat.add_left_cancel_iff, Nat.add_eq_left, Nat.left_eq_add, Nat.one_ne_zero, Nat.reduceAdd, Nat.reduceLT, Nat.reduceLeDiff, Nat.reduceEqDiff, true_implies, false_implies, implies_true, Option.some.injEq, forall_eq', forall_eq, reduceCtorEq, brT, brF, br_s, i_10, i_01, ib_0_2, ib_1_2, tn_0, tn_1, Int32.le_refl, eq_self, rv_bN, rv_iM, RCM 81, RLY, lit_at hw, c8, ix (by omega : i < 8) (by omega), nb0, on_succ]
    refine ih (i + 1) _ (by omega) (frZ_tr hf (frZ_tr (frZ_I (by omega)) (frZ_I (by omega)))) (fun j hj => ?_)
    rw [uI_1, if_neg (by omega), uI_1]
    by_cases e : j = i
    · rw [if_pos ⟨rfl, e⟩]
    · rw [if_neg (fun q => e q.2)]; exact hz j (by omega)
theorem s_231 {w : mT} {σ : mS} {τ ρ : Rw} {D : Nat} {K : Hp → Prop} (hw : lit w) (hτ : mTold σ τ) (hρ : mRow σ 85 0 ρ) (hv : vTold τ) (hr : vRow τ ρ) (hK : ∀ σ' m, frZ σ σ' → plI σ' m → K (mW w σ')) (hD : 3 ≤ D) : wpV D 231 [.ref 81] (mW w σ) K := by
  refine sV_of (m := 2) (fun d hd Q hQ => ?_) rfl hD
  exact b231_0 (lp_231 hw hτ hρ hv hr hd (fun σ' m f p => hQ _ (hK σ' m f p)) 8 0 σ (by omega) frZ_rf (fun j hj => by omega))
theorem lp_234 {w : mT} {σ : mS} {τ : Rw} {m d : Nat} {a1 : Int32} {Q : Option (Option Value) → Hp → Prop} (hw : lit w) (hτ : mTold σ τ) (hp : plI σ m) (hd : 1 ≤ d) (hQ : ∀ x : Int32, Q (some (some (.int x))) (mW w σ)) : ∀ (r i : Nat) (a2 : Int32), i + r = m → Wp 234 11 [.ref 81, .int a1, .int a2, .int (Int32.ofNat i)] [] (mW w σ) Q d := by
  have m8 := hp.2.1
  intro r
  induction r with
  | zero =>
    intro i a2 hi
    have hi' : i = m := by omega
    subst hi'
    refine b234_11 ?_
    simp only [↓br_pos, ↓br_neg, ↓rF_I, ↓rF_L, ↓rF_R, ↓rF_N, rO_m, rB_m, ↓rI_m, wI_m, ↓rB2_m, ↓rB3_m, wB2_m, wB3_m, ↓rL_m, wL_m, ↓rQ_m, wQ_m, ↓lI_m, pI_m, pL_m, pR_m, sI_m, sBy_m, sBo_m, sL_m, sQ_m, fst_m, true_and, and_true, tg_some, ln_some, uI_1, uI_2, uL_1, uL_2, uL_3, uQ_1, uQ_2, uQ_3, rv_i, rv_l, rv_n, rv_b0, rv_b1, RMR, ne_eq, reduceCtorEq, not_false_eq_true, Option.getD_some, if_true, if_false, and_self, false_and, and_false, Nat.add_left_cancel_iff, Nat.add_eq_left, Nat.left_eq_add, Nat.one_ne_zero, Nat.reduceAdd, Nat.reduceLT, Nat.reduceLeDiff, Nat.reduceEqDiff, true_implies, false_implies, implies_true, Option.some.injEq, forall_eq', forall_eq, reduceCtorEq, brT, brF, br_s, i_10, i_01, ib_0_2, ib_1_2, tn_0, tn_1, Int32.le_refl, eq_self, rv_bN, rv_iM, RCM 81, RLY, lit_at hw, hp.1, Int32.le_refl]
    exact hQ _
  | succ r ih =>
    intro i a2 hi
    have l1 : (Int32.ofNat m ≤ Int32.ofNat i) ↔ False := iff_false_intro (fun q => absurd ((on_le (by omega) (by omega)).mp q) (by omega))
    obtain ⟨s, hs, es⟩ := hp.2.2 i (by omega)
    have g4 := fun {K : Int32 → Hp → Prop} => g_155 (K := K) (s := s) (x := 4) (a := 4) hw hτ rfl (by omega) hd
    refine b234_11 ?_
    simp only [↓rF_I, ↓rF_L, ↓rF_R, ↓rF_N, rO_m, rB_m, ↓rI_m, wI_m, ↓rB2_m, ↓rB3_m, wB2_m, wB3_m, ↓rL_m, wL_m, ↓rQ_m, wQ_m, ↓lI_m, pI_m, pL_m, pR_m, sI_m, sBy_m, sBo_m, sL_m, sQ_m, fst_m, true_and, and_true, tg_some, ln_some, uI_1, uI_2, uL_1, uL_2, uL_3, uQ_1, uQ_2, uQ_3, rv_i, rv_l, rv_n, rv_b0, rv_b1, RMR, ne_eq, reduceCtorEq, not_false_eq_true, Option.getD_some, if_true, if_false, and_self, false_and, and_false, Nat.add_left_cancel_iff, Nat.add_eq_left, Nat.left_eq_add, Nat.one_ne_zero, Nat.reduceAdd, Nat.reduceLT, Nat.reduceLeDiff, Nat.reduceEqDiff, true_implies, false_implies, implies_true, Option.some.injEq, forall_eq', forall_eq, reduceCtorEq, brT, brF, br_s, i_10, i_01, ib_0_2, ib_1_2, tn_0, tn_1, Int32.le_refl, eq_self, rv_bN, rv_iM, RCM 81, RLY, lit_at hw, hp.1, l1, ix (by omega : i < 8) (by omega), es, g4, on_succ]
    exact br2 (hQ _) (ih (i + 1) _ (by omega))
theorem s_234 {w : mT} {σ : mS} {τ ρ : Rw} {m D : Nat} {a : Int32} {K : Int32 → Hp → Prop} (hw : lit w) (hτ : mTold σ τ) (hρ : mRow σ 85 0 ρ) (hp : plI σ m) (hK : ∀ x, K x (mW w σ)) (hD : 2 ≤ D) : wpI D 234 [.ref 81, .int a] (mW w σ) K := by
  refine sI_of (m := 1) (fun d hd Q hQ => ?_) rfl hD
  refine b234_0 ?_
  simp only [↓br_pos, ↓br_neg, ↓rF_I, ↓rF_L, ↓rF_R, ↓rF_N, rO_m, rB_m, ↓rI_m, wI_m, ↓rB2_m, ↓rB3_m, wB2_m, wB3_m, ↓rL_m, wL_m, ↓rQ_m, wQ_m, ↓lI_m, pI_m, pL_m, pR_m, sI_m, sBy_m, sBo_m, sL_m, sQ_m, fst_m, true_and, and_true, tg_some, ln_some, uI_1, uI_2, uL_1, uL_2, uL_3, uQ_1, uQ_2, uQ_3, rv_i, rv_l, rv_n, rv_b0, rv_b1, RMR, ne_eq, reduceCtorEq, not_false_eq_true, Option.getD_some, if_true, if_false, and_self, false_and, and_false, Nat.add_left_cancel_iff, Nat.add_eq_left, Nat.left_eq_add, Nat.one_ne_zero, Nat.reduceAdd, Nat.reduceLT, Nat.reduceLeDiff, Nat.reduceEqDiff, true_implies, false_implies, implies_true, Option.some.injEq, forall_eq', forall_eq, reduceCtorEq, brT, brF, br_s, i_10, i_01, ib_0_2, ib_1_2, tn_0, tn_1, Int32.le_refl, eq_self, rv_bN, rv_iM, RCM 81, RLY, lit_at hw, mr_0l hρ]
  exact lp_234 hw hτ hp hd (fun x => hQ _ _ (hK x)) m 0 _ (by omega)
theorem m_232 {w : mT} {σ : mS} {tp n : Nat} {t : Nat → Nat} {τ ρ : Rw} {bk : Nat → Rw} {has : Nat → Bool} {im : Nat → Rw}  {D : Nat} {K : Int32 → Hp → Prop} (h : mIn w σ tp t τ ρ n bk has im) (hK : ∀ v σ', frA σ σ' → mIn w σ' tp t τ ρ n bk has im → K v (mW w σ')) (hD : 4 ≤ D) : wpI D 232 [.ref 81] (mW w σ) K := by
  have M := h
  obtain ⟨hw, hτ, hρ, hv, hr, hp2, htp, htb, htl, hn, hn12, hbk, him⟩ := h
  have M0 := mIn_Z M (frZ_0 (j := 0) (x := 0) (by omega))
  obtain ⟨_, hτ0, hρ0, _, _, hp20, _, htb0, _, hn0, _, hbk0, him0⟩ := M0
  have M0 := mIn_Z M (frZ_0 (j := 0) (x := 0) (by omega))
  refine sI_of (m := 3) (fun d hd Q hQ => ?_) rfl hD
  have fin := fun (v : Int32) σ' (f : frZ (uI σ 81 0 0) σ') => hQ _ _ (hK v σ' (frZ_A (frZ_tr (frZ_0 (by omega)) f)) (mIn_Z M (frZ_tr (frZ_0 (by omega)) f)))
  refine b232_0 ?_
  simp only [↓br_pos, ↓br_neg, ↓rF_I, ↓rF_L, ↓rF_R, ↓rF_N, rO_m, rB_m, ↓rI_m, wI_m, ↓rB2_m, ↓rB3_m, wB2_m, wB3_m, ↓rL_m, wL_m, ↓rQ_m, wQ_m, ↓lI_m, pI_m, pL_m, pR_m, sI_m, sBy_m, sBo_m, sL_m, sQ_m, fst_m, true_and, and_true, tg_some, ln_some, uI_1, uI_2, uL_1, uL_2, uL_3, uQ_1, uQ_2, uQ_3, rv_i, rv_l, rv_n, rv_b0, rv_b1, RMR, ne_eq, reduceCtorEq, not_false_eq_true, Option.getD_some, if_true, if_false, and_self, false_and, and_false, Nat.add_left_cancel_iff, Nat.add_eq_left, Nat.left_eq_add, Nat.one_ne_zero, Nat.reduceAdd, Nat.reduceLT, Nat.reduceLeDiff, Nat.reduceEqDiff, true_implies, false_implies, implies_true, Option.some.injEq, forall_eq', forall_eq, reduceCtorEq, brT, brF, br_s, i_10, i_01, ib_0_2, ib_1_2, tn_0, tn_1, Int32.le_refl, eq_self, rv_bN, rv_iM, RCM 81, RLY, lit_at hw]
  refine s_231 hw hτ0 hρ0 hv hr (fun σ' m f p => ?_) hd
  simp only [↓br_pos, ↓br_neg, ↓rF_I, ↓rF_L, ↓rF_R, ↓rF_N, rO_m, rB_m, ↓rI_m, wI_m, ↓rB2_m, ↓rB3_m, wB2_m, wB3_m, ↓rL_m, wL_m, ↓rQ_m, wQ_m, ↓lI_m, pI_m, pL_m, pR_m, sI_m, sBy_m, sBo_m, sL_m, sQ_m, fst_m, true_and, and_true, tg_some, ln_some, uI_1, uI_2, uL_1, uL_2, uL_3, uQ_1, uQ_2, uQ_3, rv_i, rv_l, rv_n, rv_b0, rv_b1, RMR, ne_eq, reduceCtorEq, not_false_eq_true, Option.getD_some, if_true, if_false, and_self, false_and, and_false, Nat.add_left_cancel_iff, Nat.add_eq_left, Nat.left_eq_add, Nat.one_ne_zero, Nat.reduceAdd, Nat.reduceLT, Nat.reduceLeDiff, Nat.reduceEqDiff, true_implies, false_implies, implies_true, Option.some.injEq, forall_eq', forall_eq, reduceCtorEq, brT, brF, br_s, i_10, i_01, ib_0_2, ib_1_2, tn_0, tn_1, Int32.le_refl, eq_self, rv_bN, rv_iM, RCM 81, RLY, lit_at hw]
  exact fin _ σ' f
theorem m_233 {w : mT} {σ : mS} {tp n : Nat} {t : Nat → Nat} {τ ρ : Rw} {bk : Nat → Rw} {has : Nat → Bool} {im : Nat → Rw} {a : Int32} {D : Nat} {K : Int32 → Hp → Prop} (h : mIn w σ tp t τ ρ n bk has im) (hK : ∀ v σ', frA σ σ' → mIn w σ' tp t τ ρ n bk has im → K v (mW w σ')) (hD : 4 ≤ D) : wpI D 233 [.ref 81, .int a] (mW w σ) K := by
  have M := h
  obtain ⟨hw, hτ, hρ, hv, hr, hp2, htp, htb, htl, hn, hn12, hbk, him⟩ := h
  have M0 := mIn_Z M (frZ_0 (j := 0) (x := 0) (by omega))
  obtain ⟨_, hτ0, hρ0, _, _, hp20, _, htb0, _, hn0, _, hbk0, him0⟩ := M0
  have M0 := mIn_Z M (frZ_0 (j := 0) (x := 0) (by omega))
  refine sI_of (m := 3) (fun d hd Q hQ => ?_) rfl hD
  have hd1 : 1 ≤ d := by omega
  have fin := fun (v : Int32) σ' (f : frZ (uI σ 81 0 0) σ') => hQ _ _ (hK v σ' (frZ_A (frZ_tr (frZ_0 (by omega)) f)) (mIn_Z M (frZ_tr (frZ_0 (by omega)) f)))
  refine b233_0 ?_
  simp only [↓br_pos, ↓br_neg, ↓rF_I, ↓rF_L, ↓rF_R, ↓rF_N, rO_m, rB_m, ↓rI_m, wI_m, ↓rB2_m, ↓rB3_m, wB2_m, wB3_m, ↓rL_m, wL_m, ↓rQ_m, wQ_m, ↓lI_m, pI_m, pL_m, pR_m, sI_m, sBy_m, sBo_m, sL_m, sQ_m, fst_m, true_and, and_true, tg_some, ln_some, uI_1, uI_2, uL_1, uL_2, uL_3, uQ_1, uQ_2, uQ_3, rv_i, rv_l, rv_n, rv_b0, rv_b1, RMR, ne_eq, reduceCtorEq, not_false_eq_true, Option.getD_some, if_true, if_false, and_self, false_and, and_false, Nat.add_left_cancel_iff, Nat.add_eq_left, Nat.left_eq_add, Nat.one_ne_zero, Nat.reduceAdd, Nat.reduceLT, Nat.reduceLeDiff, Nat.reduceEqDiff, true_implies, false_implies, implies_true, Option.some.injEq, forall_eq', forall_eq, reduceCtorEq, brT, brF, br_s, i_10, i_01, ib_0_2, ib_1_2, tn_0, tn_1, Int32.le_refl, eq_self, rv_bN, rv_iM, RCM 81, RLY, lit_at hw]
  refine s_231 hw hτ0 hρ0 hv hr (fun σ' m f p => ?_) hd
  have m8 := p.2.1
  have vb := vin_n (a := a) (n := m) (by omega)
  rcases bN_01 (a := a) (n := m) with z | z
  · rw [z] at vb
    simp only [↓rF_I, ↓rF_L, ↓rF_R, ↓rF_N, rO_m, rB_m, ↓rI_m, wI_m, ↓rB2_m, ↓rB3_m, wB2_m, wB3_m, ↓rL_m, wL_m, ↓rQ_m, wQ_m, ↓lI_m, pI_m, pL_m, pR_m, sI_m, sBy_m, sBo_m, sL_m, sQ_m, fst_m, true_and, and_true, tg_some, ln_some, uI_1, uI_2, uL_1, uL_2, uL_3, uQ_1, uQ_2, uQ_3, rv_i, rv_l, rv_n, rv_b0, rv_b1, RMR, ne_eq, reduceCtorEq, not_false_eq_true, Option.getD_some, if_true, if_false, and_self, false_and, and_false, Nat.add_left_cancel_iff, Nat.add_eq_left, Nat.left_eq_add, Nat.one_ne_zero, Nat.reduceAdd, Nat.reduceLT, Nat.reduceLeDiff, Nat.reduceEqDiff, true_implies, false_implies, implies_true, Option.some.injEq, forall_eq', forall_eq, reduceCtorEq, brT, brF, br_s, i_10, i_01, ib_0_2, ib_1_2, tn_0, tn_1, Int32.le_refl, eq_self, rv_bN, rv_iM, RCM 81, RLY, lit_at hw, p.1, g_129 hd1, vb, z00]
    exact br2 (fin _ σ' f) (fin _ σ' f)
  · rw [z] at vb
    obtain ⟨i, rfl, hi⟩ := bN_ex z
    simp only [↓rF_I, ↓rF_L, ↓rF_R, ↓rF_N, rO_m, rB_m, ↓rI_m, wI_m, ↓rB2_m, ↓rB3_m, wB2_m, wB3_m, ↓rL_m, wL_m, ↓rQ_m, wQ_m, ↓lI_m, pI_m, pL_m, pR_m, sI_m, sBy_m, sBo_m, sL_m, sQ_m, fst_m, true_and, and_true, tg_some, ln_some, uI_1, uI_2, uL_1, uL_2, uL_3, uQ_1, uQ_2, uQ_3, rv_i, rv_l, rv_n, rv_b0, rv_b1, RMR, ne_eq, reduceCtorEq, not_false_eq_true, Option.getD_some, if_true, if_false, and_self, false_and, and_false, Nat.add_left_cancel_iff, Nat.add_eq_left, Nat.left_eq_add, Nat.one_ne_zero, Nat.reduceAdd, Nat.reduceLT, Nat.reduceLeDiff, Nat.reduceEqDiff, true_implies, false_implies, implies_true, Option.some.injEq, forall_eq', forall_eq, reduceCtorEq, brT, brF, br_s, i_10, i_01, ib_0_2, ib_1_2, tn_0, tn_1, Int32.le_refl, eq_self, rv_bN, rv_iM, RCM 81, RLY, lit_at hw, p.1, g_129 hd1, vb, z10, ix (by omega : i < 8) (by omega)]
    exact br2 (fin _ σ' f) (fin _ σ' f)
theorem m_235 {w : mT} {σ : mS} {tp n : Nat} {t : Nat → Nat} {τ ρ : Rw} {bk : Nat → Rw} {has : Nat → Bool} {im : Nat → Rw} {a : Int32} {D : Nat} {K : Int32 → Hp → Prop} (h : mIn w σ tp t τ ρ n bk has im) (hK : ∀ v σ', frA σ σ' → mIn w σ' tp t τ ρ n bk has im → K v (mW w σ')) (hD : 4 ≤ D) : wpI D 235 [.ref 81, .int a] (mW w σ) K := by
  have M := h
  obtain ⟨hw, hτ, hρ, hv, hr, hp2, htp, htb, htl, hn, hn12, hbk, him⟩ := h
  have M0 := mIn_Z M (frZ_0 (j := 0) (x := 0) (by omega))
  obtain ⟨_, hτ0, hρ0, _, _, hp20, _, htb0, _, hn0, _, hbk0, him0⟩ := M0
  have M0 := mIn_Z M (frZ_0 (j := 0) (x := 0) (by omega))
  refine sI_of (m := 3) (fun d hd Q hQ => ?_) rfl hD
  have hd2 : 2 ≤ d := by omega
  have fin := fun (v : Int32) σ' (f : frZ (uI σ 81 0 0) σ') => hQ _ _ (hK v σ' (frZ_A (frZ_tr (frZ_0 (by omega)) f)) (mIn_Z M (frZ_tr (frZ_0 (by omega)) f)))
  refine b235_0 ?_
  rcases bN_01 (a := a) (n := τ 2) with z | z
  · simp only [↓br_pos, ↓br_neg, ↓rF_I, ↓rF_L, ↓rF_R, ↓rF_N, rO_m, rB_m, ↓rI_m, wI_m, ↓rB2_m, ↓rB3_m, wB2_m, wB3_m, ↓rL_m, wL_m, ↓rQ_m, wQ_m, ↓lI_m, pI_m, pL_m, pR_m, sI_m, sBy_m, sBo_m, sL_m, sQ_m, fst_m, true_and, and_true, tg_some, ln_some, uI_1, uI_2, uL_1, uL_2, uL_3, uQ_1, uQ_2, uQ_3, rv_i, rv_l, rv_n, rv_b0, rv_b1, RMR, ne_eq, reduceCtorEq, not_false_eq_true, Option.getD_some, if_true, if_false, and_self, false_and, and_false, Nat.add_left_cancel_iff, Nat.add_eq_left, Nat.left_eq_add, Nat.one_ne_zero, Nat.reduceAdd, Nat.reduceLT, Nat.reduceLeDiff, Nat.reduceEqDiff, true_implies, false_implies, implies_true, Option.some.injEq, forall_eq', forall_eq, reduceCtorEq, brT, brF, br_s, i_10, i_01, ib_0_2, ib_1_2, tn_0, tn_1, Int32.le_refl, eq_self, rv_bN, rv_iM, RCM 81, RLY, lit_at hw, g_153 hw hτ0 hv hd2, z, z00]
    exact fin _ _ frZ_rf
  · simp only [↓br_pos, ↓br_neg, ↓rF_I, ↓rF_L, ↓rF_R, ↓rF_N, rO_m, rB_m, ↓rI_m, wI_m, ↓rB2_m, ↓rB3_m, wB2_m, wB3_m, ↓rL_m, wL_m, ↓rQ_m, wQ_m, ↓lI_m, pI_m, pL_m, pR_m, sI_m, sBy_m, sBo_m, sL_m, sQ_m, fst_m, true_and, and_true, tg_some, ln_some, uI_1, uI_2, uL_1, uL_2, uL_3, uQ_1, uQ_2, uQ_3, rv_i, rv_l, rv_n, rv_b0, rv_b1, RMR, ne_eq, reduceCtorEq, not_false_eq_true, Option.getD_some, if_true, if_false, and_self, false_and, and_false, Nat.add_left_cancel_iff, Nat.add_eq_left, Nat.left_eq_add, Nat.one_ne_zero, Nat.reduceAdd, Nat.reduceLT, Nat.reduceLeDiff, Nat.reduceEqDiff, true_implies, false_implies, implies_true, Option.some.injEq, forall_eq', forall_eq, reduceCtorEq, brT, brF, br_s, i_10, i_01, ib_0_2, ib_1_2, tn_0, tn_1, Int32.le_refl, eq_self, rv_bN, rv_iM, RCM 81, RLY, lit_at hw, g_153 hw hτ0 hv hd2, z, z10]
    refine s_231 hw hτ0 hρ0 hv hr (fun σ' m f p => ?_) hd
    simp only [↓br_pos, ↓br_neg, ↓rF_I, ↓rF_L, ↓rF_R, ↓rF_N, rO_m, rB_m, ↓rI_m, wI_m, ↓rB2_m, ↓rB3_m, wB2_m, wB3_m, ↓rL_m, wL_m, ↓rQ_m, wQ_m, ↓lI_m, pI_m, pL_m, pR_m, sI_m, sBy_m, sBo_m, sL_m, sQ_m, fst_m, true_and, and_true, tg_some, ln_some, uI_1, uI_2, uL_1, uL_2, uL_3, uQ_1, uQ_2, uQ_3, rv_i, rv_l, rv_n, rv_b0, rv_b1, RMR, ne_eq, reduceCtorEq, not_false_eq_true, Option.getD_some, if_true, if_false, and_self, false_and, and_false, Nat.add_left_cancel_iff, Nat.add_eq_left, Nat.left_eq_add, Nat.one_ne_zero, Nat.reduceAdd, Nat.reduceLT, Nat.reduceLeDiff, Nat.reduceEqDiff, true_implies, false_implies, implies_true, Option.some.injEq, forall_eq', forall_eq, reduceCtorEq, brT, brF, br_s, i_10, i_01, ib_0_2, ib_1_2, tn_0, tn_1, Int32.le_refl, eq_self, rv_bN, rv_iM, RCM 81, RLY, lit_at hw]
    refine s_234 hw (mT_c hτ0 (f.1 83 (by omega) (by omega))) (mR_c hρ0 (f.1 85 (by omega) (by omega))) p (fun x => ?_) hd2
    exact fin _ σ' f
theorem lp_236 {w : mT} {σ : mS} {τ ρ : Rw} {m d : Nat} {a1 : Int32} {Q : Option (Option Value) → Hp → Prop} (hw : lit w) (hτ : mTold σ τ) (hρ : mRow σ 85 0 ρ) (hv : vTold τ) (hr : vRow τ ρ) (hp : plI σ m) (hd : 2 ≤ d) (hQ : ∀ x : Int32, Q (some (some (.int x))) (mW w σ)) : ∀ (r i : Nat) (a2 : Int32) (x : Value), i + r = τ 2 → (x = jk ∨ ∃ u : Int32, x = .int u) → Wp 236 25 [.ref 81, .int a1, .int a2, .int (Int32.ofNat i), x] [] (mW w σ) Q d := by
  have hd1 : 1 ≤ d := by omega
  have v2 := hv.2.2.1
  intro r
  induction r with
  | zero =>
    intro i a2 x hi hx
    have hi' : i = τ 2 := by omega
    subst hi'
    rcases hx with rfl | ⟨u, rfl⟩
    · refine b236_25 ?_
      simp only [↓br_pos, ↓br_neg, ↓rF_I, ↓rF_L, ↓rF_R, ↓rF_N, rO_m, rB_m, ↓rI_m, wI_m, ↓rB2_m, ↓rB3_m, wB2_m, wB3_m, ↓rL_m, wL_m, ↓rQ_m, wQ_m, ↓lI_m, pI_m, pL_m, pR_m, sI_m, sBy_m, sBo_m, sL_m, sQ_m, fst_m, true_and, and_true, tg_some, ln_some, uI_1, uI_2, uL_1, uL_2, uL_3, uQ_1, uQ_2, uQ_3, rv_i, rv_l, rv_n, rv_b0, rv_b1, RMR, ne_eq, reduceCtorEq, not_false_eq_true, Option.getD_some, if_true, if_false, and_self, false_and, and_false, Nat.add_left_cancel_iff, Nat.add_eq_left, Nat.left_eq_add, Nat.one_ne_zero, Nat.reduceAdd, Nat.reduceLT, Nat.reduceLeDiff, Nat.reduceEqDiff, true_implies, false_implies, implies_true, Option.some.injEq, forall_eq', forall_eq, reduceCtorEq, brT, brF, br_s, i_10, i_01, ib_0_2, ib_1_2, tn_0, tn_1, Int32.le_refl, eq_self, rv_bN, rv_iM, RCM 81, RLY, lit_at hw, mt_2 hτ, Int32.le_refl]
      exact hQ _
    · refine b236_25a ?_
      simp only [↓br_pos, ↓br_neg, ↓rF_I, ↓rF_L, ↓rF_R, ↓rF_N, rO_m, rB_m, ↓rI_m, wI_m, ↓rB2_m, ↓rB3_m, wB2_m, wB3_m, ↓rL_m, wL_m, ↓rQ_m, wQ_m, ↓lI_m, pI_m, pL_m, pR_m, sI_m, sBy_m, sBo_m, sL_m, sQ_m, fst_m, true_and, and_true, tg_some, ln_some, uI_1, uI_2, uL_1, uL_2, uL_3, uQ_1, uQ_2, uQ_3, rv_i, rv_l, rv_n, rv_b0, rv_b1, RMR, ne_eq, reduceCtorEq, not_false_eq_true, Option.getD_some, if_true, if_false, and_self, false_and, and_false, Nat.add_left_cancel_iff, Nat.add_eq_left, Nat.left_eq_add, Nat.one_ne_zero, Nat.reduceAdd, Nat.reduceLT, Nat.reduceLeDiff, Nat.reduceEqDiff, true_implies, false_implies, implies_true, Option.some.injEq, forall_eq', forall_eq, reduceCtorEq, brT, brF, br_s, i_10, i_01, ib_0_2, ib_1_2, tn_0, tn_1, Int32.le_refl, eq_self, rv_bN, rv_iM, RCM 81, RLY, lit_at hw, mt_2 hτ, Int32.le_refl]
      exact hQ _
  | succ r ih =>
    intro i a2 x hi hx
    have l1 : (Int32.ofNat (τ 2) ≤ Int32.ofNat i) ↔ False := iff_false_intro (fun q => absurd ((on_le (by omega) (by omega)).mp q) (by omega))
    have nx := fun a2 x hx => ih (i + 1) a2 x (by omega) hx
    have g0 := fun {K : Int32 → Hp → Prop} => g_160 (K := K) hw hτ hρ hv hr (by omega : i < τ 2) hd
    have g5 := fun {K : Int32 → Hp → Prop} => g_155 (K := K) (s := i) (x := 5) (a := 5) hw hτ rfl (by omega) hd1
    have g3 := fun {K : Int32 → Hp → Prop} => g_155 (K := K) (s := i) (x := 3) (a := 3) hw hτ rfl (by omega) hd1
    have g8 := fun {K : Int32 → Hp → Prop} => g_228 (K := K) hw hρ hr (by omega : i < τ 2) (by omega : i < 8) hd1
    rcases hx with rfl | ⟨u, rfl⟩
    · skip
      refine b236_25 ?_
      simp only [↓rF_I, ↓rF_L, ↓rF_R, ↓rF_N, rO_m, rB_m, ↓rI_m, wI_m, ↓rB2_m, ↓rB3_m, wB2_m, wB3_m, ↓rL_m, wL_m, ↓rQ_m, wQ_m, ↓lI_m, pI_m, pL_m, pR_m, sI_m, sBy_m, sBo_m, sL_m, sQ_m, fst_m, true_and, and_true, tg_some, ln_some, uI_1, uI_2, uL_1, uL_2, uL_3, uQ_1, uQ_2, uQ_3, rv_i, rv_l, rv_n, rv_b0, rv_b1, RMR, ne_eq, reduceCtorEq, not_false_eq_true, Option.getD_some, if_true, if_false, and_self, false_and, and_false, Nat.add_left_cancel_iff, Nat.add_eq_left, Nat.left_eq_add, Nat.one_ne_zero, Nat.reduceAdd, Nat.reduceLT, Nat.reduceLeDiff, Nat.reduceEqDiff, true_implies, false_implies, implies_true, Option.some.injEq, forall_eq', forall_eq, reduceCtorEq, brT, brF, br_s, i_10, i_01, ib_0_2, ib_1_2, tn_0, tn_1, Int32.le_refl, eq_self, rv_bN, rv_iM, RCM 81, RLY, lit_at hw, mt_2 hτ, l1, g0, g5, g8, on_succ]
      refine br2 (nx _ _ (Or.inr ⟨_, rfl⟩)) (br2 (nx _ _ (Or.inr ⟨_, rfl⟩)) ?_)
      refine s_234 hw hτ hρ hp (fun x => ?_) hd
      simp only [↓rF_I, ↓rF_L, ↓rF_R, ↓rF_N, rO_m, rB_m, ↓rI_m, wI_m, ↓rB2_m, ↓rB3_m, wB2_m, wB3_m, ↓rL_m, wL_m, ↓rQ_m, wQ_m, ↓lI_m, pI_m, pL_m, pR_m, sI_m, sBy_m, sBo_m, sL_m, sQ_m, fst_m, true_and, and_true, tg_some, ln_some, uI_1, uI_2, uL_1, uL_2, uL_3, uQ_1, uQ_2, uQ_3, rv_i, rv_l, rv_n, rv_b0, rv_b1, RMR, ne_eq, reduceCtorEq, not_false_eq_true, Option.getD_some, if_true, if_false, and_self, false_and, and_false, Nat.add_left_cancel_iff, Nat.add_eq_left, Nat.left_eq_add, Nat.one_ne_zero, Nat.reduceAdd, Nat.reduceLT, Nat.reduceLeDiff, Nat.reduceEqDiff, true_implies, false_implies, implies_true, Option.some.injEq, forall_eq', forall_eq, reduceCtorEq, brT, brF, br_s, i_10, i_01, ib_0_2, ib_1_2, tn_0, tn_1, Int32.le_refl, eq_self, rv_bN, rv_iM, RCM 81, RLY, lit_at hw, g3, g5, on_succ]
      exact nx _ _ (Or.inr ⟨_, rfl⟩)
    · skip
      refine b236_25a ?_
      simp only [↓rF_I, ↓rF_L, ↓rF_R, ↓rF_N, rO_m, rB_m, ↓rI_m, wI_m, ↓rB2_m, ↓rB3_m, wB2_m, wB3_m, ↓rL_m, wL_m, ↓rQ_m, wQ_m, ↓lI_m, pI_m, pL_m, pR_m, sI_m, sBy_m, sBo_m, sL_m, sQ_m, fst_m, true_and, and_true, tg_some, ln_some, uI_1, uI_2, uL_1, uL_2, uL_3, uQ_1, uQ_2, uQ_3, rv_i, rv_l, rv_n, rv_b0, rv_b1, RMR, ne_eq, reduceCtorEq, not_false_eq_true, Option.getD_some, if_true, if_false, and_self, false_and, and_false, Nat.add_left_cancel_iff, Nat.add_eq_left, Nat.left_eq_add, Nat.one_ne_zero, Nat.reduceAdd, Nat.reduceLT, Nat.reduceLeDiff, Nat.reduceEqDiff, true_implies, false_implies, implies_true, Option.some.injEq, forall_eq', forall_eq, reduceCtorEq, brT, brF, br_s, i_10, i_01, ib_0_2, ib_1_2, tn_0, tn_1, Int32.le_refl, eq_self, rv_bN, rv_iM, RCM 81, RLY, lit_at hw, mt_2 hτ, l1, g0, g5, g8, on_succ]
      refine br2 (nx _ _ (Or.inr ⟨_, rfl⟩)) (br2 (nx _ _ (Or.inr ⟨_, rfl⟩)) ?_)
      refine s_234 hw hτ hρ hp (fun x => ?_) hd
      simp only [↓rF_I, ↓rF_L, ↓rF_R, ↓rF_N, rO_m, rB_m, ↓rI_m, wI_m, ↓rB2_m, ↓rB3_m, wB2_m, wB3_m, ↓rL_m, wL_m, ↓rQ_m, wQ_m, ↓lI_m, pI_m, pL_m, pR_m, sI_m, sBy_m, sBo_m, sL_m, sQ_m, fst_m, true_and, and_true, tg_some, ln_some, uI_1, uI_2, uL_1, uL_2, uL_3, uQ_1, uQ_2, uQ_3, rv_i, rv_l, rv_n, rv_b0, rv_b1, RMR, ne_eq, reduceCtorEq, not_false_eq_true, Option.getD_some, if_true, if_false, and_self, false_and, and_false, Nat.add_left_cancel_iff, Nat.add_eq_left, Nat.left_eq_add, Nat.one_ne_zero, Nat.reduceAdd, Nat.reduceLT, Nat.reduceLeDiff, Nat.reduceEqDiff, true_implies, false_implies, implies_true, Option.some.injEq, forall_eq', forall_eq, reduceCtorEq, brT, brF, br_s, i_10, i_01, ib_0_2, ib_1_2, tn_0, tn_1, Int32.le_refl, eq_self, rv_bN, rv_iM, RCM 81, RLY, lit_at hw, g3, g5, on_succ]
      exact nx _ _ (Or.inr ⟨_, rfl⟩)

theorem m_236 {w : mT} {σ : mS} {tp n : Nat} {t : Nat → Nat} {τ ρ : Rw} {bk : Nat → Rw} {has : Nat → Bool} {im : Nat → Rw} {a : Int32} {D : Nat} {K : Int32 → Hp → Prop} (h : mIn w σ tp t τ ρ n bk has im) (hK : ∀ v σ', frA σ σ' → mIn w σ' tp t τ ρ n bk has im → K v (mW w σ')) (hD : 4 ≤ D) : wpI D 236 [.ref 81, .int a] (mW w σ) K := by
  have M := h
  obtain ⟨hw, hτ, hρ, hv, hr, hp2, htp, htb, htl, hn, hn12, hbk, him⟩ := h
  have M0 := mIn_Z M (frZ_0 (j := 0) (x := 0) (by omega))
  obtain ⟨_, hτ0, hρ0, _, _, hp20, _, htb0, _, hn0, _, hbk0, him0⟩ := M0
  have M0 := mIn_Z M (frZ_0 (j := 0) (x := 0) (by omega))
  refine sI_of (m := 3) (fun d hd Q hQ => ?_) rfl hD
  have hd1 : 1 ≤ d := by omega
  have hd2 : 2 ≤ d := by omega
  have fin := fun (v : Int32) σ' (f : frZ (uI σ 81 0 0) σ') => hQ _ _ (hK v σ' (frZ_A (frZ_tr (frZ_0 (by omega)) f)) (mIn_Z M (frZ_tr (frZ_0 (by omega)) f)))
  refine b236_0 ?_
  simp only [↓rF_I, ↓rF_L, ↓rF_R, ↓rF_N, rO_m, rB_m, ↓rI_m, wI_m, ↓rB2_m, ↓rB3_m, wB2_m, wB3_m, ↓rL_m, wL_m, ↓rQ_m, wQ_m, ↓lI_m, pI_m, pL_m, pR_m, sI_m, sBy_m, sBo_m, sL_m, sQ_m, fst_m, true_and, and_true, tg_some, ln_some, uI_1, uI_2, uL_1, uL_2, uL_3, uQ_1, uQ_2, uQ_3, rv_i, rv_l, rv_n, rv_b0, rv_b1, RMR, ne_eq, reduceCtorEq, not_false_eq_true, Option.getD_some, if_true, if_false, and_self, false_and, and_false, Nat.add_left_cancel_iff, Nat.add_eq_left, Nat.left_eq_add, Nat.one_ne_zero, Nat.reduceAdd, Nat.reduceLT, Nat.reduceLeDiff, Nat.reduceEqDiff, true_implies, false_implies, implies_true, Option.some.injEq, forall_eq', forall_eq, reduceCtorEq, brT, brF, br_s, i_10, i_01, ib_0_2, ib_1_2, tn_0, tn_1, Int32.le_refl, eq_self, rv_bN, rv_iM, RCM 81, RLY, lit_at hw, g_129 hd1]
  refine br2 (fin _ _ frZ_rf) ?_
  refine s_231 hw hτ0 hρ0 hv hr (fun σ' m f p => ?_) hd
  exact lp_236 hw (mT_c hτ0 (f.1 83 (by omega) (by omega))) (mR_c hρ0 (f.1 85 (by omega) (by omega))) hv hr p hd2 (fun x => fin x σ' f) (τ 2) 0 0 jk (by omega) (Or.inl rfl)
end
section
/-! the model's Reader: words as numbers; bytes; what is next -/
def vl (b : Nat) (d : Nat → Nat) : Nat → Nat
  | 0 => 0
  | k + 1 => b * vl b d k + d k
theorem vl_inj {b : Nat} (hb : 0 < b) {d d' : Nat → Nat} : ∀ l l', (∀ j, j < l → 1 ≤ d j ∧ d j < b) → (∀ j, j < l' → 1 ≤ d' j ∧ d' j < b) → (vl b d l = vl b d' l' ↔ l = l' ∧ ∀ j, j < l → d j = d' j) := by
  intro l
  induction l with
  | zero =>
    intro l' h h'
    cases l' with
    | zero => exact ⟨fun _ => ⟨rfl, fun j hj => by omega⟩, fun _ => rfl⟩
    | succ l' =>
      have q := h' l' (by omega)
      have e : vl b d' (l' + 1) = b * vl b d' l' + d' l' := rfl
      refine ⟨fun z => ?_, fun z => by omega⟩
      rw [e] at z
      have e0 : vl b d 0 = 0 := rfl
      omega
  | succ l ih =>
    intro l' h h'
    have q := h l (by omega)
    have e : vl b d (l + 1) = b * vl b d l + d l := rfl
    cases l' with
    | zero =>
      refine ⟨fun z => ?_, fun z => by omega⟩
      rw [e] at z
      have e0 : vl b d' 0 = 0 := rfl
      omega
    | succ l' =>
      have q' := h' l' (by omega)
      have e' : vl b d' (l' + 1) = b * vl b d' l' + d' l' := rfl
      have ih := ih l' (fun j hj => h j (by omega)) (fun j hj => h' j (by omega))
      rw [e, e']
      constructor
      · intro z
        have m : d l = d' l' := by
          have := congrArg (· % b) z
          simp only [Nat.mul_add_mod, Nat.mod_eq_of_lt q.2, Nat.mod_eq_of_lt q'.2] at this
          exact this
        have v : vl b d l = vl b d' l' := by
          have z2 : b * vl b d l = b * vl b d' l' := by omega
          exact Nat.eq_of_mul_eq_mul_left hb z2
        obtain ⟨a1, a2⟩ := ih.mp v
        refine ⟨by omega, fun j hj => ?_⟩
        by_cases c : j = l
        · rw [c, m, ← a1]
        · exact a2 j (by omega)
      · rintro ⟨a1, a2⟩
        have a1' : l = l' := by omega
        have v := ih.mpr ⟨a1', fun j hj => a2 j (by omega)⟩
        rw [v, a2 l (by omega), a1']
theorem vl_lt {b : Nat} {d : Nat → Nat} : ∀ l, (∀ j, j < l → d j < b) → vl b d l < b ^ l := by
  intro l
  induction l with
  | zero => intro _; show 0 < 1; omega
  | succ l ih =>
    intro h
    have i := ih (fun j hj => h j (by omega))
    have e : vl b d (l + 1) = b * vl b d l + d l := rfl
    have q := h l (by omega)
    rw [e, Nat.pow_succ, Nat.mul_comm (b ^ l) b]
    have : b * (vl b d l + 1) ≤ b * b ^ l := Nat.mul_le_mul_left b (by omega)
    rw [Nat.mul_add, Nat.mul_one] at this
    omega
theorem vl_c {b : Nat} {d d' : Nat → Nat} : ∀ l, (∀ j, j < l → d j = d' j) → vl b d l = vl b d' l := by
  intro l
  induction l with
  | zero => intro _; rfl
  | succ l ih =>
    intro h
    show b * vl b d l + d l = b * vl b d' l + d' l
    rw [ih (fun j hj => h j (by omega)), h l (by omega)]
/-- letters from s on -/
def ltG (t : Nat → Nat) (s l : Nat) : Prop := ∀ j, j < l → isLt (t (s + j)) = true
def dgt (t : Nat → Nat) (s : Nat) : Nat → Nat := fun j => t (s + j) - 96
theorem ltG_d {t : Nat → Nat} {s l : Nat} (h : ltG t s l) : ∀ j, j < l → 1 ≤ dgt t s j ∧ dgt t s j < 27 ∧ t (s + j) = dgt t s j + 96 := fun j hj => by
  have a := h j hj
  unfold isLt at a
  have b := of_decide_eq_true a
  unfold dgt
  omega
def mcI (t : Nat → Nat) (s : Nat) : Nat → Int32
  | 0 => 0
  | k + 1 => (32 : Int32) * mcI t s k + Int32.ofNat (t (s + k)) - 96
theorem mcI_v {t : Nat → Nat} {s : Nat} : ∀ l, ltG t s l → mcI t s l = Int32.ofNat (vl 32 (dgt t s) l) := by
  intro l
  induction l with
  | zero => intro _; rfl
  | succ l ih =>
    intro h
    have i := ih (fun j hj => h j (by omega))
    have d := ltG_d h l (by omega)
    show (32 : Int32) * mcI t s l + Int32.ofNat (t (s + l)) - 96 = Int32.ofNat (32 * vl 32 (dgt t s) l + dgt t s l)
    rw [i, d.2.2, show (32 : Int32) = Int32.ofNat 32 from rfl, show (96 : Int32) = Int32.ofNat 96 from rfl, of_mul, of_add, of_sub (by omega)]
    congr 1
theorem ncI_v {t : Nat → Nat} {s : Nat} : ∀ l, ltG t s l → ncI t s l = Int32.ofNat (vl 27 (dgt t s) l) := by
  intro l
  induction l with
  | zero => intro _; rfl
  | succ l ih =>
    intro h
    have i := ih (fun j hj => h j (by omega))
    have d := ltG_d h l (by omega)
    show ncI t s l * 27 + Int32.ofNat (t (s + l)) - 97 + 1 = Int32.ofNat (27 * vl 27 (dgt t s) l + dgt t s l)
    rw [i, d.2.2, show (27 : Int32) = Int32.ofNat 27 from rfl, show (97 : Int32) = Int32.ofNat 97 from rfl, of_mul, of_add, of_sub (by omega), on_succ]
    congr 1
    omega
theorem vl32_b {t : Nat → Nat} {s l : Nat} (h : ltG t s l) (hl : l ≤ 6) : vl 32 (dgt t s) l < 1073741824 := by
  have a := vl_lt (b := 32) (d := dgt t s) l (fun j hj => by have := ltG_d h j hj; omega)
  have b : 32 ^ l ≤ 32 ^ 6 := Nat.pow_le_pow_right (by omega) hl
  omega
theorem vl27_b {t : Nat → Nat} {s l : Nat} (h : ltG t s l) (hl : l ≤ 6) : vl 27 (dgt t s) l < 1073741824 := by
  have a := vl_lt (b := 27) (d := dgt t s) l (fun j hj => (ltG_d h j hj).2.1)
  have b : 27 ^ l ≤ 27 ^ 6 := Nat.pow_le_pow_right (by omega) hl
  omega
/-- one name or another -/
theorem nm_iff {t : Nat → Nat} {s l s' l' : Nat} (h : ltG t s l) (h' : ltG t s' l') (hl : l ≤ 6) (hl' : l' ≤ 6) : (ncI t s l = ncI t s' l') ↔ (mcI t s l = mcI t s' l') := by
  rw [ncI_v l h, ncI_v l' h', mcI_v l h, mcI_v l' h', of_inj (by have := vl27_b h hl; omega) (by have := vl27_b h' hl'; omega), of_inj (by have := vl32_b h hl; omega) (by have := vl32_b h' hl'; omega)]
  rw [vl_inj (by omega) l l' (fun j hj => by have := ltG_d h j hj; omega) (fun j hj => by have := ltG_d h' j hj; omega), vl_inj (by omega) l l' (fun j hj => by have := ltG_d h j hj; omega) (fun j hj => by have := ltG_d h' j hj; omega)]
/-- the words of the language -/
def WC (i : Nat) : Int32 := ([12788, 533893, 631088, 7216, 687290547, 7931013, 3322259, 14849171, 12791, 271592, 4773, 408612, 206277] : List Int32).getD i 0
def chN (i j : Nat) : Nat := (sCh i j).toNatClampNeg
theorem WC_ok : ∀ i, i < 13 → WC i = Int32.ofNat (vl 32 (fun j => chN i j - 96) (sLn i)) ∧ vl 32 (fun j => chN i j - 96) (sLn i) < 1073741824 ∧ ∀ j, j < sLn i → (97 ≤ chN i j ∧ chN i j ≤ 122) ∧ sCh i j = Int32.ofNat (chN i j) := by decide
theorem sLn_1 : ∀ i, i < 13 → 1 ≤ sLn i ∧ sLn i ≤ 6 := by decide
def wM (t : Nat → Nat) (s l : Nat) : Int32 := if l ≤ 6 then mcI t s l else -1
theorem wM_iff {t : Nat → Nat} {g : Rw} {i : Nat} (hi : i < 13) (hk : g 2 = 1) (h : ltG t (g 0) (g 1 - g 0)) : (wM t (g 0) (g 1 - g 0) = WC i) ↔ sayP t g i := by
  obtain ⟨w1, w2, w3⟩ := WC_ok i hi
  have s6 := sLn_1 i hi
  unfold wM
  by_cases c : g 1 - g 0 ≤ 6
  · rw [if_pos c, mcI_v _ h, w1, of_inj (by have := vl32_b h c; omega) (by omega), vl_inj (by omega) _ _ (fun j hj => by have := ltG_d h j hj; omega) (fun j hj => by have := (w3 j hj).1; omega)]
    constructor
    · rintro ⟨a, b⟩
      refine ⟨hk, a, fun j hj => ?_⟩
      have d := ltG_d h j (by omega)
      have e := b j (by omega)
      have f := w3 j hj
      rw [f.2, d.2.2]
      congr 1
      omega
    · rintro ⟨_, a, b⟩
      refine ⟨a, fun j hj => ?_⟩
      have d := ltG_d h j hj
      have f := w3 j (by omega)
      have e := b j (by omega)
      rw [f.2, d.2.2] at e
      have e := (of_inj (by omega) (by omega)).mp e
      omega
  · rw [if_neg c, w1]
    refine ⟨fun q => ?_, fun q => ?_⟩
    · have := (on_m1 (a := vl 32 (fun j => chN i j - 96) (sLn i)) (by omega)).mp q.symm
      exact this.elim
    · have := q.2.1
      omega
theorem wM_m1 {t : Nat → Nat} {s l : Nat} (h : ltG t s l) : (wM t s l = -1) ↔ 6 < l := by
  unfold wM
  by_cases c : l ≤ 6
  · rw [if_pos c, mcI_v _ h]
    exact ⟨fun q => ((on_m1 (by have := vl32_b h c; omega)).mp q).elim, fun q => by omega⟩
  · rw [if_neg c]
    exact ⟨fun _ => by omega, fun _ => rfl⟩
end
section
/-! the model's Reader: what is next -/
def mBy (σ : mS) (t : Nat → Nat) (n : Nat) : Prop := (∀ i, i < 600 → (σ.1 82 i) &&& 255 = Int32.ofNat (t i)) ∧ σ.1 81 3 = Int32.ofNat n
def fG (σ σ' : mS) : Prop := (∀ a, a ≠ 81 → σ'.1 a = σ.1 a) ∧ (∀ j, j < 4 ∨ 8 < j → σ'.1 81 j = σ.1 81 j) ∧ σ'.2 = σ.2
theorem fG_rf {σ : mS} : fG σ σ := ⟨fun _ _ => rfl, fun _ _ => rfl, rfl⟩
theorem fG_tr {σ σ' σ'' : mS} (h : fG σ σ') (h' : fG σ' σ'') : fG σ σ'' := ⟨fun a q => (h'.1 a q).trans (h.1 a q), fun j q => (h'.2.1 j q).trans (h.2.1 j q), h'.2.2.trans h.2.2⟩
theorem fG_I {σ : mS} {j : Nat} {x : Int32} (h : 4 ≤ j ∧ j ≤ 8) : fG σ (uI σ 81 j x) := ⟨fun a q => (uI_ne q).1, fun i hi => by rw [uI_1, if_neg (by omega)], rfl⟩
theorem mBy_G {σ σ' : mS} {t : Nat → Nat} {n : Nat} (h : mBy σ t n) (f : fG σ σ') : mBy σ' t n := ⟨fun i hi => by rw [f.1 82 (by omega)]; exact h.1 i hi, by rw [f.2.1 3 (by omega)]; exact h.2⟩
def bvA (t : Nat → Nat) (n i : Nat) : Int32 := if i < n then Int32.ofNat (t i) else -1
theorem g_132 {w : mT} {σ : mS} {t : Nat → Nat} {n i : Nat} {D : Nat} {K : Int32 → Hp → Prop} (hw : lit w) (hB : mBy σ t n) (hn : n ≤ 600) (hi : i ≤ 600) (hD : 1 ≤ D) : wpI D 132 [.ref 81, .int (Int32.ofNat i)] (mW w σ) K ↔ K (bvA t n i) (mW w σ) := by
  refine cI_of (m := 0) (fun d hd Q hQ => ?_) rfl hD
  unfold bvA at hQ
  refine b132_0 ?_
  by_cases c : i < n
  · rw [if_pos c] at hQ
    have c1 : (Int32.ofNat n ≤ Int32.ofNat i) ↔ False := iff_false_intro (fun q => absurd ((on_le (by omega) (by omega)).mp q) (by omega))
    simp only [↓br_pos, ↓br_neg, ↓rF_I, ↓rF_L, ↓rF_R, ↓rF_N, rO_m, rB_m, ↓rI_m, wI_m, ↓rB2_m, ↓rB3_m, wB2_m, wB3_m, ↓rL_m, wL_m, ↓rQ_m, wQ_m, ↓lI_m, pI_m, pL_m, pR_m, sI_m, sBy_m, sBo_m, sL_m, sQ_m, fst_m, true_and, and_true, tg_some, ln_some, uI_1, uI_2, uL_1, uL_2, uL_3, uQ_1, uQ_2, uQ_3, rv_i, rv_l, rv_n, rv_b0, rv_b1, RMR, ne_eq, reduceCtorEq, not_false_eq_true, Option.getD_some, if_true, if_false, and_self, false_and, and_false, Nat.add_left_cancel_iff, Nat.add_eq_left, Nat.left_eq_add, Nat.one_ne_zero, Nat.reduceAdd, Nat.reduceLT, Nat.reduceLeDiff, Nat.reduceEqDiff, true_implies, false_implies, implies_true, Option.some.injEq, forall_eq', forall_eq, reduceCtorEq, brT, brF, br_s, i_10, i_01, ib_0_2, ib_1_2, tn_0, tn_1, Int32.le_refl, eq_self, rv_bN, rv_iM, RCM 81, RLY, lit_at hw, hB.2, c1, ix (by omega : i < 600) (by omega), hB.1 i (by omega)]
    exact hQ
  · rw [if_neg c] at hQ
    have c1 : (Int32.ofNat n ≤ Int32.ofNat i) ↔ True := iff_true_intro ((on_le (by omega) (by omega)).mpr (by omega))
    simp only [↓br_pos, ↓br_neg, ↓rF_I, ↓rF_L, ↓rF_R, ↓rF_N, rO_m, rB_m, ↓rI_m, wI_m, ↓rB2_m, ↓rB3_m, wB2_m, wB3_m, ↓rL_m, wL_m, ↓rQ_m, wQ_m, ↓lI_m, pI_m, pL_m, pR_m, sI_m, sBy_m, sBo_m, sL_m, sQ_m, fst_m, true_and, and_true, tg_some, ln_some, uI_1, uI_2, uL_1, uL_2, uL_3, uQ_1, uQ_2, uQ_3, rv_i, rv_l, rv_n, rv_b0, rv_b1, RMR, ne_eq, reduceCtorEq, not_false_eq_true, Option.getD_some, if_true, if_false, and_self, false_and, and_false, Nat.add_left_cancel_iff, Nat.add_eq_left, Nat.left_eq_add, Nat.one_ne_zero, Nat.reduceAdd, Nat.reduceLT, Nat.reduceLeDiff, Nat.reduceEqDiff, true_implies, false_implies, implies_true, Option.some.injEq, forall_eq', forall_eq, reduceCtorEq, brT, brF, br_s, i_10, i_01, ib_0_2, ib_1_2, tn_0, tn_1, Int32.le_refl, eq_self, rv_bN, rv_iM, RCM 81, RLY, lit_at hw, hB.2, c1]
    exact hQ
theorem vin_lt {t : Nat → Nat} {n i : Nat} (ht : t i < 256) : vin (Int32.toInt64 (bvA t n i)) (97 : Int64) (122 : Int64) = iB (i < n ∧ isLt (t i) = true) := by
  rw [vin_eq, Int32.toInt_toInt64, show (97 : Int64).toInt = 97 by decide, show (122 : Int64).toInt = 122 by decide]
  unfold bvA
  by_cases c : i < n
  · rw [if_pos c, on_int (by omega)]
    exact iB_c (by unfold isLt; rw [decide_eq_true_iff]; omega)
  · rw [if_neg c]
    exact iB_c ⟨fun q => by have := q.1; rw [show (-1 : Int32).toInt = -1 by decide] at this; omega, fun q => absurd q.1 c⟩
theorem vin_dg {t : Nat → Nat} {n i : Nat} (ht : t i < 256) : vin (Int32.toInt64 (bvA t n i)) (48 : Int64) (57 : Int64) = iB (i < n ∧ isDg (t i) = true) := by
  rw [vin_eq, Int32.toInt_toInt64, show (48 : Int64).toInt = 48 by decide, show (57 : Int64).toInt = 57 by decide]
  unfold bvA
  by_cases c : i < n
  · rw [if_pos c, on_int (by omega)]
    exact iB_c (by unfold isDg; rw [decide_eq_true_iff]; omega)
  · rw [if_neg c]
    exact iB_c ⟨fun q => by have := q.1; rw [show (-1 : Int32).toInt = -1 by decide] at this; omega, fun q => absurd q.1 c⟩
def vM (t : Nat → Nat) (s l : Nat) : Int32 := if l ≤ 4 then nuI t s l else -1
theorem vM_v {t : Nat → Nat} {g : Rw} : vM t (g 0) (g 1 - g 0) = numV t g := by
  unfold vM numV
  by_cases c : g 1 - g 0 ≤ 4
  · rw [if_pos c, if_neg (by omega)]
  · rw [if_neg c, if_pos (by omega)]
theorem spn_0 {P : Nat → Bool} {t : Nat → Nat} {n i : Nat} : spn P t n 0 i = i := rfl
theorem lp_133l {w : mT} {t : Nat → Nat} {n s : Nat} {c : Int32} (hw : lit w) (ht : ∀ i, t i < 256) (hn : n ≤ 600) : ∀ (k j : Nat) (σ : mS), j + k = n → s ≤ j → mBy σ t n → σ.1 81 4 = Int32.ofNat s → σ.1 81 5 = Int32.ofNat j → σ.1 81 8 = wM t s (j - s) → ltG t s (j - s) → ∃ σ', fG σ σ' ∧ σ'.1 81 4 = Int32.ofNat s ∧ σ'.1 81 5 = Int32.ofNat (spn isLt t n k j) ∧ σ'.1 81 6 = Int32.ofNat 1 ∧ σ'.1 81 8 = wM t s (spn isLt t n k j - s) ∧ ltG t s (spn isLt t n k j - s) ∧ ∀ {Q : Option (Option Value) → Hp → Prop} {d : Nat}, 1 ≤ d → Q (some none) (mW w σ') → Wp 133 92 [.ref 81, .int c] [] (mW w σ) Q d := by
  intro k
  induction k with
  | zero =>
    intro j σ hj hs hB h4 h5 hf hL
    rw [spn_0]
    refine ⟨uI σ 81 6 1, fG_I (by omega), by rw [uI_1, if_neg (by omega)]; exact h4, by rw [uI_1, if_neg (by omega)]; exact h5, by rw [uI_1, if_pos ⟨rfl, rfl⟩]; rfl, by rw [uI_1, if_neg (by omega)]; exact hf, hL, fun hd hQ => ?_⟩
    refine b133_92 ?_
    simp only [↓br_pos, ↓br_neg, ↓rF_I, ↓rF_L, ↓rF_R, ↓rF_N, rO_m, rB_m, ↓rI_m, wI_m, ↓rB2_m, ↓rB3_m, wB2_m, wB3_m, ↓rL_m, wL_m, ↓rQ_m, wQ_m, ↓lI_m, pI_m, pL_m, pR_m, sI_m, sBy_m, sBo_m, sL_m, sQ_m, fst_m, true_and, and_true, tg_some, ln_some, uI_1, uI_2, uL_1, uL_2, uL_3, uQ_1, uQ_2, uQ_3, rv_i, rv_l, rv_n, rv_b0, rv_b1, RMR, ne_eq, reduceCtorEq, not_false_eq_true, Option.getD_some, if_true, if_false, and_self, false_and, and_false, Nat.add_left_cancel_iff, Nat.add_eq_left, Nat.left_eq_add, Nat.one_ne_zero, Nat.reduceAdd, Nat.reduceLT, Nat.reduceLeDiff, Nat.reduceEqDiff, true_implies, false_implies, implies_true, Option.some.injEq, forall_eq', forall_eq, reduceCtorEq, brT, brF, br_s, i_10, i_01, ib_0_2, ib_1_2, tn_0, tn_1, Int32.le_refl, eq_self, rv_bN, rv_iM, RCM 81, RLY, lit_at hw, h5, g_132 hw hB hn (by omega : j ≤ 600) hd, g_129 hd, vin_lt (ht j), iB_f (fun q : j < n ∧ isLt (t j) = true => by omega), z00]
    exact hQ
  | succ k ih =>
    intro j σ hj hs hB h4 h5 hf hL
    by_cases z : isLt (t j) = true
    · have e : spn isLt t n (k + 1) j = spn isLt t n k (j + 1) := by rw [spn_s, if_pos ⟨by omega, z⟩]
      rw [e]
      have es : Int32.ofNat j - Int32.ofNat s = Int32.ofNat (j - s) := of_sub hs
      have bj : bvA t n j = Int32.ofNat (t j) := if_pos (by omega)
      have js : j + 1 - s = (j - s) + 1 := by omega
      by_cases y : 6 ≤ j - s
      · have c1 : ((6 : Int32) ≤ Int32.ofNat (j - s)) ↔ True := iff_true_intro ((on_le (i := 6) (by omega) (by omega)).mpr y)
        obtain ⟨σ', f', a4, a5, a6, a8, aL, q'⟩ := ih (j + 1) (uI (uI σ 81 8 (-1)) 81 5 (Int32.ofNat (j + 1))) (by omega) (by omega) (mBy_G hB (fG_tr (fG_I (by omega)) (fG_I (by omega)))) (by rw [uI_1, if_neg (by omega), uI_1, if_neg (by omega)]; exact h4) (by rw [uI_1, if_pos ⟨rfl, rfl⟩]) (by rw [uI_1, if_neg (by omega), uI_1, if_pos ⟨rfl, rfl⟩]; unfold wM; rw [if_neg (by omega)]) (fun i hi => by
          by_cases c : i < j - s
          · exact hL i c
          · rw [show s + i = j by omega]; exact z)
        refine ⟨σ', fG_tr (fG_tr (fG_I (by omega)) (fG_I (by omega))) f', a4, a5, a6, a8, aL, fun hd hQ => ?_⟩
        refine b133_92 ?_
        simp only [↓br_pos, ↓br_neg, ↓rF_I, ↓rF_L, ↓rF_R, ↓rF_N, rO_m, rB_m, ↓rI_m, wI_m, ↓rB2_m, ↓rB3_m, wB2_m, wB3_m, ↓rL_m, wL_m, ↓rQ_m, wQ_m, ↓lI_m, pI_m, pL_m, pR_m, sI_m, sBy_m, sBo_m, sL_m, sQ_m, fst_m, true_and, and_true, tg_some, ln_some, uI_1, uI_2, uL_1, uL_2, uL_3, uQ_1, uQ_2, uQ_3, rv_i, rv_l, rv_n, rv_b0, rv_b1, RMR, ne_eq, reduceCtorEq, not_false_eq_true, Option.getD_some, if_true, if_false, and_self, false_and, and_false, Nat.add_left_cancel_iff, Nat.add_eq_left, Nat.left_eq_add, Nat.one_ne_zero, Nat.reduceAdd, Nat.reduceLT, Nat.reduceLeDiff, Nat.reduceEqDiff, true_implies, false_implies, implies_true, Option.some.injEq, forall_eq', forall_eq, reduceCtorEq, brT, brF, br_s, i_10, i_01, ib_0_2, ib_1_2, tn_0, tn_1, Int32.le_refl, eq_self, rv_bN, rv_iM, RCM 81, RLY, lit_at hw, h5, h4, g_132 hw hB hn (by omega : j ≤ 600) hd, g_129 hd, vin_lt (ht j), iB_t (show j < n ∧ isLt (t j) = true from ⟨by omega, z⟩), z10, es, c1, on_succ]
        exact q' hd hQ
      · have c1 : ((6 : Int32) ≤ Int32.ofNat (j - s)) ↔ False := iff_false_intro (fun q => y ((on_le (i := 6) (by omega) (by omega)).mp q))
        have m0 : wM t s (j - s) = mcI t s (j - s) := by unfold wM; rw [if_pos (by omega)]
        have m1 : wM t s (j + 1 - s) = (32 : Int32) * mcI t s (j - s) + Int32.ofNat (t j) - 96 := by
          unfold wM
          rw [if_pos (by omega), js]
          have : s + (j - s) = j := by omega
          show (32 : Int32) * mcI t s (j - s) + Int32.ofNat (t (s + (j - s))) - 96 = _
          rw [this]
        rw [m0] at hf
        obtain ⟨σ', f', a4, a5, a6, a8, aL, q'⟩ := ih (j + 1) (uI (uI σ 81 8 ((32 : Int32) * mcI t s (j - s) + Int32.ofNat (t j) - 96)) 81 5 (Int32.ofNat (j + 1))) (by omega) (by omega) (mBy_G hB (fG_tr (fG_I (by omega)) (fG_I (by omega)))) (by rw [uI_1, if_neg (by omega), uI_1, if_neg (by omega)]; exact h4) (by rw [uI_1, if_pos ⟨rfl, rfl⟩]) (by rw [uI_1, if_neg (by omega), uI_1, if_pos ⟨rfl, rfl⟩, m1]) (fun i hi => by
          by_cases c : i < j - s
          · exact hL i c
          · rw [show s + i = j by omega]; exact z)
        refine ⟨σ', fG_tr (fG_tr (fG_I (by omega)) (fG_I (by omega))) f', a4, a5, a6, a8, aL, fun hd hQ => ?_⟩
        refine b133_92 ?_
        simp only [↓br_pos, ↓br_neg, ↓rF_I, ↓rF_L, ↓rF_R, ↓rF_N, rO_m, rB_m, ↓rI_m, wI_m, ↓rB2_m, ↓rB3_m, wB2_m, wB3_m, ↓rL_m, wL_m, ↓rQ_m, wQ_m, ↓lI_m, pI_m, pL_m, pR_m, sI_m, sBy_m, sBo_m, sL_m, sQ_m, fst_m, true_and, and_true, tg_some, ln_some, uI_1, uI_2, uL_1, uL_2, uL_3, uQ_1, uQ_2, uQ_3, rv_i, rv_l, rv_n, rv_b0, rv_b1, RMR, ne_eq, reduceCtorEq, not_false_eq_true, Option.getD_some, if_true, if_false, and_self, false_and, and_false, Nat.add_left_cancel_iff, Nat.add_eq_left, Nat.left_eq_add, Nat.one_ne_zero, Nat.reduceAdd, Nat.reduceLT, Nat.reduceLeDiff, Nat.reduceEqDiff, true_implies, false_implies, implies_true, Option.some.injEq, forall_eq', forall_eq, reduceCtorEq, brT, brF, br_s, i_10, i_01, ib_0_2, ib_1_2, tn_0, tn_1, Int32.le_refl, eq_self, rv_bN, rv_iM, RCM 81, RLY, lit_at hw, h5, h4, hf, g_132 hw hB hn (by omega : j ≤ 600) hd, g_129 hd, vin_lt (ht j), iB_t (show j < n ∧ isLt (t j) = true from ⟨by omega, z⟩), z10, es, c1, on_succ]
        rw [bj]
        exact q' hd hQ
    · have e : spn isLt t n (k + 1) j = j := by rw [spn_s, if_neg (fun q => z q.2)]
      rw [e]
      refine ⟨uI σ 81 6 1, fG_I (by omega), by rw [uI_1, if_neg (by omega)]; exact h4, by rw [uI_1, if_neg (by omega)]; exact h5, by rw [uI_1, if_pos ⟨rfl, rfl⟩]; rfl, by rw [uI_1, if_neg (by omega)]; exact hf, hL, fun hd hQ => ?_⟩
      refine b133_92 ?_
      simp only [↓br_pos, ↓br_neg, ↓rF_I, ↓rF_L, ↓rF_R, ↓rF_N, rO_m, rB_m, ↓rI_m, wI_m, ↓rB2_m, ↓rB3_m, wB2_m, wB3_m, ↓rL_m, wL_m, ↓rQ_m, wQ_m, ↓lI_m, pI_m, pL_m, pR_m, sI_m, sBy_m, sBo_m, sL_m, sQ_m, fst_m, true_and, and_true, tg_some, ln_some, uI_1, uI_2, uL_1, uL_2, uL_3, uQ_1, uQ_2, uQ_3, rv_i, rv_l, rv_n, rv_b0, rv_b1, RMR, ne_eq, reduceCtorEq, not_false_eq_true, Option.getD_some, if_true, if_false, and_self, false_and, and_false, Nat.add_left_cancel_iff, Nat.add_eq_left, Nat.left_eq_add, Nat.one_ne_zero, Nat.reduceAdd, Nat.reduceLT, Nat.reduceLeDiff, Nat.reduceEqDiff, true_implies, false_implies, implies_true, Option.some.injEq, forall_eq', forall_eq, reduceCtorEq, brT, brF, br_s, i_10, i_01, ib_0_2, ib_1_2, tn_0, tn_1, Int32.le_refl, eq_self, rv_bN, rv_iM, RCM 81, RLY, lit_at hw, h5, g_132 hw hB hn (by omega : j ≤ 600) hd, g_129 hd, vin_lt (ht j), iB_f (fun q : j < n ∧ isLt (t j) = true => z q.2), z00]
      exact hQ
theorem lp_133d {w : mT} {t : Nat → Nat} {n s : Nat} {c : Int32} (hw : lit w) (ht : ∀ i, t i < 256) (hn : n ≤ 600) : ∀ (k j : Nat) (σ : mS), j + k = n → s ≤ j → mBy σ t n → σ.1 81 4 = Int32.ofNat s → σ.1 81 5 = Int32.ofNat j → σ.1 81 7 = vM t s (j - s) →  ∃ σ', fG σ σ' ∧ σ'.1 81 4 = Int32.ofNat s ∧ σ'.1 81 5 = Int32.ofNat (spn isDg t n k j) ∧ σ'.1 81 6 = Int32.ofNat 2 ∧ σ'.1 81 7 = vM t s (spn isDg t n k j - s) ∧  ∀ {Q : Option (Option Value) → Hp → Prop} {d : Nat}, 1 ≤ d → Q (some none) (mW w σ') → Wp 133 189 [.ref 81, .int c] [] (mW w σ) Q d := by
  intro k
  induction k with
  | zero =>
    intro j σ hj hs hB h4 h5 hf 
    rw [spn_0]
    refine ⟨uI σ 81 6 2, fG_I (by omega), by rw [uI_1, if_neg (by omega)]; exact h4, by rw [uI_1, if_neg (by omega)]; exact h5, by rw [uI_1, if_pos ⟨rfl, rfl⟩]; rfl, by rw [uI_1, if_neg (by omega)]; exact hf, fun hd hQ => ?_⟩
    refine b133_189 ?_
    simp only [↓br_pos, ↓br_neg, ↓rF_I, ↓rF_L, ↓rF_R, ↓rF_N, rO_m, rB_m, ↓rI_m, wI_m, ↓rB2_m, ↓rB3_m, wB2_m, wB3_m, ↓rL_m, wL_m, ↓rQ_m, wQ_m, ↓lI_m, pI_m, pL_m, pR_m, sI_m, sBy_m, sBo_m, sL_m, sQ_m, fst_m, true_and, and_true, tg_some, ln_some, uI_1, uI_2, uL_1, uL_2, uL_3, uQ_1, uQ_2, uQ_3, rv_i, rv_l, rv_n, rv_b0, rv_b1, RMR, ne_eq, reduceCtorEq, not_false_eq_true, Option.getD_some, if_true, if_false, and_self, false_and, and_false, Nat.add_left_cancel_iff, Nat.add_eq_left, Nat.left_eq_add, Nat.one_ne_zero, Nat.reduceAdd, Nat.reduceLT, Nat.reduceLeDiff, Nat.reduceEqDiff, true_implies, false_implies, implies_true, Option.some.injEq, forall_eq', forall_eq, reduceCtorEq, brT, brF, br_s, i_10, i_01, ib_0_2, ib_1_2, tn_0, tn_1, Int32.le_refl, eq_self, rv_bN, rv_iM, RCM 81, RLY, lit_at hw, h5, g_132 hw hB hn (by omega : j ≤ 600) hd, g_129 hd, vin_dg (ht j), iB_f (fun q : j < n ∧ isDg (t j) = true => by omega), z00]
    exact hQ
  | succ k ih =>
    intro j σ hj hs hB h4 h5 hf 
    by_cases z : isDg (t j) = true
    · have e : spn isDg t n (k + 1) j = spn isDg t n k (j + 1) := by rw [spn_s, if_pos ⟨by omega, z⟩]
      rw [e]
      have es : Int32.ofNat j - Int32.ofNat s = Int32.ofNat (j - s) := of_sub hs
      have bj : bvA t n j = Int32.ofNat (t j) := if_pos (by omega)
      have js : j + 1 - s = (j - s) + 1 := by omega
      by_cases y : 4 ≤ j - s
      · have c1 : ((4 : Int32) ≤ Int32.ofNat (j - s)) ↔ True := iff_true_intro ((on_le (i := 4) (by omega) (by omega)).mpr y)
        obtain ⟨σ', f', a4, a5, a6, a8, q'⟩ := ih (j + 1) (uI (uI σ 81 7 (-1)) 81 5 (Int32.ofNat (j + 1))) (by omega) (by omega) (mBy_G hB (fG_tr (fG_I (by omega)) (fG_I (by omega)))) (by rw [uI_1, if_neg (by omega), uI_1, if_neg (by omega)]; exact h4) (by rw [uI_1, if_pos ⟨rfl, rfl⟩]) (by rw [uI_1, if_neg (by omega), uI_1, if_pos ⟨rfl, rfl⟩]; unfold vM; rw [if_neg (by omega)]) 
        refine ⟨σ', fG_tr (fG_tr (fG_I (by omega)) (fG_I (by omega))) f', a4, a5, a6, a8, fun hd hQ => ?_⟩
        refine b133_189 ?_
        simp only [↓br_pos, ↓br_neg, ↓rF_I, ↓rF_L, ↓rF_R, ↓rF_N, rO_m, rB_m, ↓rI_m, wI_m, ↓rB2_m, ↓rB3_m, wB2_m, wB3_m, ↓rL_m, wL_m, ↓rQ_m, wQ_m, ↓lI_m, pI_m, pL_m, pR_m, sI_m, sBy_m, sBo_m, sL_m, sQ_m, fst_m, true_and, and_true, tg_some, ln_some, uI_1, uI_2, uL_1, uL_2, uL_3, uQ_1, uQ_2, uQ_3, rv_i, rv_l, rv_n, rv_b0, rv_b1, RMR, ne_eq, reduceCtorEq, not_false_eq_true, Option.getD_some, if_true, if_false, and_self, false_and, and_false, Nat.add_left_cancel_iff, Nat.add_eq_left, Nat.left_eq_add, Nat.one_ne_zero, Nat.reduceAdd, Nat.reduceLT, Nat.reduceLeDiff, Nat.reduceEqDiff, true_implies, false_implies, implies_true, Option.some.injEq, forall_eq', forall_eq, reduceCtorEq, brT, brF, br_s, i_10, i_01, ib_0_2, ib_1_2, tn_0, tn_1, Int32.le_refl, eq_self, rv_bN, rv_iM, RCM 81, RLY, lit_at hw, h5, h4, g_132 hw hB hn (by omega : j ≤ 600) hd, g_129 hd, vin_dg (ht j), iB_t (show j < n ∧ isDg (t j) = true from ⟨by omega, z⟩), z10, es, c1, on_succ]
        exact q' hd hQ
      · have c1 : ((4 : Int32) ≤ Int32.ofNat (j - s)) ↔ False := iff_false_intro (fun q => y ((on_le (i := 4) (by omega) (by omega)).mp q))
        have m0 : vM t s (j - s) = nuI t s (j - s) := by unfold vM; rw [if_pos (by omega)]
        have m1 : vM t s (j + 1 - s) = (10 : Int32) * nuI t s (j - s) + Int32.ofNat (t j) - 48 := by
          unfold vM
          rw [if_pos (by omega), js]
          have : s + (j - s) = j := by omega
          show nuI t s (j - s) * 10 + Int32.ofNat (t (s + (j - s))) - 48 = _
          rw [this, Int32.mul_comm]
        rw [m0] at hf
        obtain ⟨σ', f', a4, a5, a6, a8, q'⟩ := ih (j + 1) (uI (uI σ 81 7 ((10 : Int32) * nuI t s (j - s) + Int32.ofNat (t j) - 48)) 81 5 (Int32.ofNat (j + 1))) (by omega) (by omega) (mBy_G hB (fG_tr (fG_I (by omega)) (fG_I (by omega)))) (by rw [uI_1, if_neg (by omega), uI_1, if_neg (by omega)]; exact h4) (by rw [uI_1, if_pos ⟨rfl, rfl⟩]) (by rw [uI_1, if_neg (by omega), uI_1, if_pos ⟨rfl, rfl⟩, m1]) 
        refine ⟨σ', fG_tr (fG_tr (fG_I (by omega)) (fG_I (by omega))) f', a4, a5, a6, a8, fun hd hQ => ?_⟩
        refine b133_189 ?_
        simp only [↓br_pos, ↓br_neg, ↓rF_I, ↓rF_L, ↓rF_R, ↓rF_N, rO_m, rB_m, ↓rI_m, wI_m, ↓rB2_m, ↓rB3_m, wB2_m, wB3_m, ↓rL_m, wL_m, ↓rQ_m, wQ_m, ↓lI_m, pI_m, pL_m, pR_m, sI_m, sBy_m, sBo_m, sL_m, sQ_m, fst_m, true_and, and_true, tg_some, ln_some, uI_1, uI_2, uL_1, uL_2, uL_3, uQ_1, uQ_2, uQ_3, rv_i, rv_l, rv_n, rv_b0, rv_b1, RMR, ne_eq, reduceCtorEq, not_false_eq_true, Option.getD_some, if_true, if_false, and_self, false_and, and_false, Nat.add_left_cancel_iff, Nat.add_eq_left, Nat.left_eq_add, Nat.one_ne_zero, Nat.reduceAdd, Nat.reduceLT, Nat.reduceLeDiff, Nat.reduceEqDiff, true_implies, false_implies, implies_true, Option.some.injEq, forall_eq', forall_eq, reduceCtorEq, brT, brF, br_s, i_10, i_01, ib_0_2, ib_1_2, tn_0, tn_1, Int32.le_refl, eq_self, rv_bN, rv_iM, RCM 81, RLY, lit_at hw, h5, h4, hf, g_132 hw hB hn (by omega : j ≤ 600) hd, g_129 hd, vin_dg (ht j), iB_t (show j < n ∧ isDg (t j) = true from ⟨by omega, z⟩), z10, es, c1, on_succ]
        rw [bj]
        exact q' hd hQ
    · have e : spn isDg t n (k + 1) j = j := by rw [spn_s, if_neg (fun q => z q.2)]
      rw [e]
      refine ⟨uI σ 81 6 2, fG_I (by omega), by rw [uI_1, if_neg (by omega)]; exact h4, by rw [uI_1, if_neg (by omega)]; exact h5, by rw [uI_1, if_pos ⟨rfl, rfl⟩]; rfl, by rw [uI_1, if_neg (by omega)]; exact hf, fun hd hQ => ?_⟩
      refine b133_189 ?_
      simp only [↓br_pos, ↓br_neg, ↓rF_I, ↓rF_L, ↓rF_R, ↓rF_N, rO_m, rB_m, ↓rI_m, wI_m, ↓rB2_m, ↓rB3_m, wB2_m, wB3_m, ↓rL_m, wL_m, ↓rQ_m, wQ_m, ↓lI_m, pI_m, pL_m, pR_m, sI_m, sBy_m, sBo_m, sL_m, sQ_m, fst_m, true_and, and_true, tg_some, ln_some, uI_1, uI_2, uL_1, uL_2, uL_3, uQ_1, uQ_2, uQ_3, rv_i, rv_l, rv_n, rv_b0, rv_b1, RMR, ne_eq, reduceCtorEq, not_false_eq_true, Option.getD_some, if_true, if_false, and_self, false_and, and_false, Nat.add_left_cancel_iff, Nat.add_eq_left, Nat.left_eq_add, Nat.one_ne_zero, Nat.reduceAdd, Nat.reduceLT, Nat.reduceLeDiff, Nat.reduceEqDiff, true_implies, false_implies, implies_true, Option.some.injEq, forall_eq', forall_eq, reduceCtorEq, brT, brF, br_s, i_10, i_01, ib_0_2, ib_1_2, tn_0, tn_1, Int32.le_refl, eq_self, rv_bN, rv_iM, RCM 81, RLY, lit_at hw, h5, g_132 hw hB hn (by omega : j ≤ 600) hd, g_129 hd, vin_dg (ht j), iB_f (fun q : j < n ∧ isDg (t j) = true => z q.2), z00]
      exact hQ
theorem lp_133 {w : mT} {t : Nat → Nat} {n : Nat} (hw : lit w) (ht : ∀ i, t i < 256) (hn : n ≤ 600) : ∀ (k i : Nat) (σ : mS), i + k = n → mBy σ t n → σ.1 81 5 = Int32.ofNat i → ∃ σ', fG σ σ' ∧ σ'.1 81 4 = Int32.ofNat (spn isWs t n k i) ∧ σ'.1 81 5 = Int32.ofNat (tkE t n (spn isWs t n k i)) ∧ σ'.1 81 6 = Int32.ofNat (tkK t n (spn isWs t n k i)) ∧ (tkK t n (spn isWs t n k i) = 2 → σ'.1 81 7 = vM t (spn isWs t n k i) (tkE t n (spn isWs t n k i) - spn isWs t n k i)) ∧ (tkK t n (spn isWs t n k i) = 1 → σ'.1 81 8 = wM t (spn isWs t n k i) (tkE t n (spn isWs t n k i) - spn isWs t n k i) ∧ ltG t (spn isWs t n k i) (tkE t n (spn isWs t n k i) - spn isWs t n k i)) ∧ ∀ {Q : Option (Option Value) → Hp → Prop} {d : Nat}, 1 ≤ d → Q (some none) (mW w σ') → Wp 133 0 [.ref 81, jk] [] (mW w σ) Q d := by
  -- what is done at a byte that is no space
  have at_ : ∀ (k i : Nat) (σ : mS), i + k = n → mBy σ t n → σ.1 81 5 = Int32.ofNat i → spn isWs t n k i = i → ¬ (i < n ∧ isWs (t i) = true) → ∃ σ', fG σ σ' ∧ σ'.1 81 4 = Int32.ofNat (spn isWs t n k i) ∧ σ'.1 81 5 = Int32.ofNat (tkE t n (spn isWs t n k i)) ∧ σ'.1 81 6 = Int32.ofNat (tkK t n (spn isWs t n k i)) ∧ (tkK t n (spn isWs t n k i) = 2 → σ'.1 81 7 = vM t (spn isWs t n k i) (tkE t n (spn isWs t n k i) - spn isWs t n k i)) ∧ (tkK t n (spn isWs t n k i) = 1 → σ'.1 81 8 = wM t (spn isWs t n k i) (tkE t n (spn isWs t n k i) - spn isWs t n k i) ∧ ltG t (spn isWs t n k i) (tkE t n (spn isWs t n k i) - spn isWs t n k i)) ∧ ∀ {Q : Option (Option Value) → Hp → Prop} {d : Nat}, 1 ≤ d → Q (some none) (mW w σ') → Wp 133 0 [.ref 81, jk] [] (mW w σ) Q d := by
    intro k i σ hi hB h5 hsp hws
    rw [hsp]
    have hti := ht i
    have f3 : fG σ (uI (uI (uI σ 81 4 (Int32.ofNat i)) 81 7 0) 81 8 0) := fG_tr (fG_I (by omega)) (fG_tr (fG_I (by omega)) (fG_I (by omega)))
    have B3 := mBy_G hB f3
    have gA := fun {d : Nat} (hd : 1 ≤ d) {K : Int32 → Hp → Prop} => g_132 (K := K) (D := d) (i := i) hw B3 hn (by omega) hd
    have a32 : (bvA t n i = (32 : Int32)) ↔ False := iff_false_intro (fun q => by
      unfold bvA at q
      by_cases c : i < n
      · rw [if_pos c] at q
        have := (of_inj (b := 32) (by omega) (by omega)).mp q
        exact hws ⟨c, decide_eq_true (Or.inl this)⟩
      · rw [if_neg c] at q; exact absurd q (by decide))
    have a10 : (bvA t n i = (10 : Int32)) ↔ False := iff_false_intro (fun q => by
      unfold bvA at q
      by_cases c : i < n
      · rw [if_pos c] at q
        have := (of_inj (b := 10) (by omega) (by omega)).mp q
        exact hws ⟨c, decide_eq_true (Or.inr this)⟩
      · rw [if_neg c] at q; exact absurd q (by decide))
    by_cases c : i < n
    · have cE : ¬ n ≤ i := by omega
      have bp : bvA t n i = Int32.ofNat (t i) := if_pos c
      have c0 : ((0 : Int32) ≤ bvA t n i) ↔ True := iff_true_intro (by rw [bp]; exact (on_le (i := 0) (by omega) (by omega)).mpr (by omega))
      by_cases y : isLt (t i) = true
      · have eK : tkK t n i = 1 := by unfold tkK; rw [if_neg cE, if_pos y]
        have eE : tkE t n i = spn isLt t n k i := by unfold tkE; rw [if_neg cE, if_pos y, show n - i = k by omega]
        obtain ⟨σ', f', p4, p5, p6, p8, pL, q'⟩ := lp_133l (s := i) (c := bvA t n i) hw ht hn k i _ hi (Nat.le_refl _) B3 (by rw [uI_1, if_neg (by omega), uI_1, if_neg (by omega), uI_1, if_pos ⟨rfl, rfl⟩]) (by rw [uI_1, if_neg (by omega), uI_1, if_neg (by omega), uI_1, if_neg (by omega)]; exact h5) (by rw [uI_1, if_pos ⟨rfl, rfl⟩, Nat.sub_self]; rfl) (fun j hj => by omega)
        refine ⟨σ', fG_tr f3 f', p4, by rw [eE]; exact p5, by rw [eK]; exact p6, fun q => by omega, fun _ => by rw [eE]; exact ⟨p8, pL⟩, fun hd hQ => ?_⟩
        refine b133_0 ?_
        simp only [↓br_pos, ↓br_neg, ↓rF_I, ↓rF_L, ↓rF_R, ↓rF_N, rO_m, rB_m, ↓rI_m, wI_m, ↓rB2_m, ↓rB3_m, wB2_m, wB3_m, ↓rL_m, wL_m, ↓rQ_m, wQ_m, ↓lI_m, pI_m, pL_m, pR_m, sI_m, sBy_m, sBo_m, sL_m, sQ_m, fst_m, true_and, and_true, tg_some, ln_some, uI_1, uI_2, uL_1, uL_2, uL_3, uQ_1, uQ_2, uQ_3, rv_i, rv_l, rv_n, rv_b0, rv_b1, RMR, ne_eq, reduceCtorEq, not_false_eq_true, Option.getD_some, if_true, if_false, and_self, false_and, and_false, Nat.add_left_cancel_iff, Nat.add_eq_left, Nat.left_eq_add, Nat.one_ne_zero, Nat.reduceAdd, Nat.reduceLT, Nat.reduceLeDiff, Nat.reduceEqDiff, true_implies, false_implies, implies_true, Option.some.injEq, forall_eq', forall_eq, reduceCtorEq, brT, brF, br_s, i_10, i_01, ib_0_2, ib_1_2, tn_0, tn_1, Int32.le_refl, eq_self, rv_bN, rv_iM, RCM 81, RLY, lit_at hw, h5, g_132 hw hB hn (by omega : i ≤ 600) hd, a32, a10, gA hd, c0, g_129 hd, vin_lt hti, iB_t (show i < n ∧ isLt (t i) = true from ⟨c, y⟩), z10]
        exact q' hd hQ
      · by_cases x : isDg (t i) = true
        · have eK : tkK t n i = 2 := by unfold tkK; rw [if_neg cE, if_neg y, if_pos x]
          have eE : tkE t n i = spn isDg t n k i := by unfold tkE; rw [if_neg cE, if_neg y, if_pos x, show n - i = k by omega]
          obtain ⟨σ', f', p4, p5, p6, p7, q'⟩ := lp_133d (s := i) (c := bvA t n i) hw ht hn k i _ hi (Nat.le_refl _) B3 (by rw [uI_1, if_neg (by omega), uI_1, if_neg (by omega), uI_1, if_pos ⟨rfl, rfl⟩]) (by rw [uI_1, if_neg (by omega), uI_1, if_neg (by omega), uI_1, if_neg (by omega)]; exact h5) (by rw [uI_1, if_neg (by omega), uI_1, if_pos ⟨rfl, rfl⟩, Nat.sub_self]; rfl)
          refine ⟨σ', fG_tr f3 f', p4, by rw [eE]; exact p5, by rw [eK]; exact p6, fun _ => by rw [eE]; exact p7, fun q => by omega, fun hd hQ => ?_⟩
          refine b133_0 ?_
          simp only [↓br_pos, ↓br_neg, ↓rF_I, ↓rF_L, ↓rF_R, ↓rF_N, rO_m, rB_m, ↓rI_m, wI_m, ↓rB2_m, ↓rB3_m, wB2_m, wB3_m, ↓rL_m, wL_m, ↓rQ_m, wQ_m, ↓lI_m, pI_m, pL_m, pR_m, sI_m, sBy_m, sBo_m, sL_m, sQ_m, fst_m, true_and, and_true, tg_some, ln_some, uI_1, uI_2, uL_1, uL_2, uL_3, uQ_1, uQ_2, uQ_3, rv_i, rv_l, rv_n, rv_b0, rv_b1, RMR, ne_eq, reduceCtorEq, not_false_eq_true, Option.getD_some, if_true, if_false, and_self, false_and, and_false, Nat.add_left_cancel_iff, Nat.add_eq_left, Nat.left_eq_add, Nat.one_ne_zero, Nat.reduceAdd, Nat.reduceLT, Nat.reduceLeDiff, Nat.reduceEqDiff, true_implies, false_implies, implies_true, Option.some.injEq, forall_eq', forall_eq, reduceCtorEq, brT, brF, br_s, i_10, i_01, ib_0_2, ib_1_2, tn_0, tn_1, Int32.le_refl, eq_self, rv_bN, rv_iM, RCM 81, RLY, lit_at hw, h5, g_132 hw hB hn (by omega : i ≤ 600) hd, a32, a10, gA hd, c0, g_129 hd, vin_lt hti, iB_f (fun q : i < n ∧ isLt (t i) = true => y q.2), z00, vin_dg hti, iB_t (show i < n ∧ isDg (t i) = true from ⟨c, x⟩), z10]
          exact q' hd hQ
        · have eE : tkE t n i = i + 1 := by unfold tkE; rw [if_neg cE, if_neg y, if_neg x]
          by_cases v : t i = 59
          · have eK : tkK t n i = 3 := by unfold tkK; rw [if_neg cE, if_neg y, if_neg x, if_pos v]
            have c59 : (bvA t n i = (59 : Int32)) ↔ True := iff_true_intro (by rw [bp, v]; rfl)
            refine ⟨uI (uI (uI (uI (uI σ 81 4 (Int32.ofNat i)) 81 7 0) 81 8 0) 81 5 (Int32.ofNat (i + 1))) 81 6 3, fG_tr f3 (fG_tr (fG_I (by omega)) (fG_I (by omega))), by rw [uI_1, if_neg (by omega), uI_1, if_neg (by omega), uI_1, if_neg (by omega), uI_1, if_neg (by omega), uI_1, if_pos ⟨rfl, rfl⟩], by rw [eE, uI_1, if_neg (by omega), uI_1, if_pos ⟨rfl, rfl⟩], by rw [eK, uI_1, if_pos ⟨rfl, rfl⟩]; rfl, fun q => by omega, fun q => by omega, fun hd hQ => ?_⟩
            refine b133_0 ?_
            simp only [↓br_pos, ↓br_neg, ↓rF_I, ↓rF_L, ↓rF_R, ↓rF_N, rO_m, rB_m, ↓rI_m, wI_m, ↓rB2_m, ↓rB3_m, wB2_m, wB3_m, ↓rL_m, wL_m, ↓rQ_m, wQ_m, ↓lI_m, pI_m, pL_m, pR_m, sI_m, sBy_m, sBo_m, sL_m, sQ_m, fst_m, true_and, and_true, tg_some, ln_some, uI_1, uI_2, uL_1, uL_2, uL_3, uQ_1, uQ_2, uQ_3, rv_i, rv_l, rv_n, rv_b0, rv_b1, RMR, ne_eq, reduceCtorEq, not_false_eq_true, Option.getD_some, if_true, if_false, and_self, false_and, and_false, Nat.add_left_cancel_iff, Nat.add_eq_left, Nat.left_eq_add, Nat.one_ne_zero, Nat.reduceAdd, Nat.reduceLT, Nat.reduceLeDiff, Nat.reduceEqDiff, true_implies, false_implies, implies_true, Option.some.injEq, forall_eq', forall_eq, reduceCtorEq, brT, brF, br_s, i_10, i_01, ib_0_2, ib_1_2, tn_0, tn_1, Int32.le_refl, eq_self, rv_bN, rv_iM, RCM 81, RLY, lit_at hw, h5, g_132 hw hB hn (by omega : i ≤ 600) hd, a32, a10, gA hd, c0, g_129 hd, vin_lt hti, iB_f (fun q : i < n ∧ isLt (t i) = true => y q.2), z00, vin_dg hti, iB_f (fun q : i < n ∧ isDg (t i) = true => x q.2), c59, on_succ]
            exact hQ
          · have eK : tkK t n i = 4 := by unfold tkK; rw [if_neg cE, if_neg y, if_neg x, if_neg v]
            have c59 : (bvA t n i = (59 : Int32)) ↔ False := iff_false_intro (fun q => by
              rw [bp] at q
              exact v ((of_inj (b := 59) (by omega) (by omega)).mp q))
            refine ⟨uI (uI (uI (uI (uI σ 81 4 (Int32.ofNat i)) 81 7 0) 81 8 0) 81 5 (Int32.ofNat (i + 1))) 81 6 4, fG_tr f3 (fG_tr (fG_I (by omega)) (fG_I (by omega))), by rw [uI_1, if_neg (by omega), uI_1, if_neg (by omega), uI_1, if_neg (by omega), uI_1, if_neg (by omega), uI_1, if_pos ⟨rfl, rfl⟩], by rw [eE, uI_1, if_neg (by omega), uI_1, if_pos ⟨rfl, rfl⟩], by rw [eK, uI_1, if_pos ⟨rfl, rfl⟩]; rfl, fun q => by omega, fun q => by omega, fun hd hQ => ?_⟩
            refine b133_0 ?_
            simp only [↓br_pos, ↓br_neg, ↓rF_I, ↓rF_L, ↓rF_R, ↓rF_N, rO_m, rB_m, ↓rI_m, wI_m, ↓rB2_m, ↓rB3_m, wB2_m, wB3_m, ↓rL_m, wL_m, ↓rQ_m, wQ_m, ↓lI_m, pI_m, pL_m, pR_m, sI_m, sBy_m, sBo_m, sL_m, sQ_m, fst_m, true_and, and_true, tg_some, ln_some, uI_1, uI_2, uL_1, uL_2, uL_3, uQ_1, uQ_2, uQ_3, rv_i, rv_l, rv_n, rv_b0, rv_b1, RMR, ne_eq, reduceCtorEq, not_false_eq_true, Option.getD_some, if_true, if_false, and_self, false_and, and_false, Nat.add_left_cancel_iff, Nat.add_eq_left, Nat.left_eq_add, Nat.one_ne_zero, Nat.reduceAdd, Nat.reduceLT, Nat.reduceLeDiff, Nat.reduceEqDiff, true_implies, false_implies, implies_true, Option.some.injEq, forall_eq', forall_eq, reduceCtorEq, brT, brF, br_s, i_10, i_01, ib_0_2, ib_1_2, tn_0, tn_1, Int32.le_refl, eq_self, rv_bN, rv_iM, RCM 81, RLY, lit_at hw, h5, g_132 hw hB hn (by omega : i ≤ 600) hd, a32, a10, gA hd, c0, g_129 hd, vin_lt hti, iB_f (fun q : i < n ∧ isLt (t i) = true => y q.2), z00, vin_dg hti, iB_f (fun q : i < n ∧ isDg (t i) = true => x q.2), c59, on_succ]
            exact hQ
    · have cE : n ≤ i := by omega
      have bp : bvA t n i = -1 := if_neg c
      have c0 : ((0 : Int32) ≤ bvA t n i) ↔ False := by rw [bp]; decide
      have eK : tkK t n i = 0 := by unfold tkK; rw [if_pos cE]
      have eE : tkE t n i = i := by unfold tkE; rw [if_pos cE]
      refine ⟨uI (uI (uI (uI σ 81 4 (Int32.ofNat i)) 81 7 0) 81 8 0) 81 6 0, fG_tr f3 (fG_I (by omega)), by rw [uI_1, if_neg (by omega), uI_1, if_neg (by omega), uI_1, if_neg (by omega), uI_1, if_pos ⟨rfl, rfl⟩], by rw [eE, uI_1, if_neg (by omega), uI_1, if_neg (by omega), uI_1, if_neg (by omega), uI_1, if_neg (by omega)]; exact h5, by rw [eK, uI_1, if_pos ⟨rfl, rfl⟩]; rfl, fun q => by omega, fun q => by omega, fun hd hQ => ?_⟩
      refine b133_0 ?_
      simp only [↓br_pos, ↓br_neg, ↓rF_I, ↓rF_L, ↓rF_R, ↓rF_N, rO_m, rB_m, ↓rI_m, wI_m, ↓rB2_m, ↓rB3_m, wB2_m, wB3_m, ↓rL_m, wL_m, ↓rQ_m, wQ_m, ↓lI_m, pI_m, pL_m, pR_m, sI_m, sBy_m, sBo_m, sL_m, sQ_m, fst_m, true_and, and_true, tg_some, ln_some, uI_1, uI_2, uL_1, uL_2, uL_3, uQ_1, uQ_2, uQ_3, rv_i, rv_l, rv_n, rv_b0, rv_b1, RMR, ne_eq, reduceCtorEq, not_false_eq_true, Option.getD_some, if_true, if_false, and_self, false_and, and_false, Nat.add_left_cancel_iff, Nat.add_eq_left, Nat.left_eq_add, Nat.one_ne_zero, Nat.reduceAdd, Nat.reduceLT, Nat.reduceLeDiff, Nat.reduceEqDiff, true_implies, false_implies, implies_true, Option.some.injEq, forall_eq', forall_eq, reduceCtorEq, brT, brF, br_s, i_10, i_01, ib_0_2, ib_1_2, tn_0, tn_1, Int32.le_refl, eq_self, rv_bN, rv_iM, RCM 81, RLY, lit_at hw, h5, g_132 hw hB hn (by omega : i ≤ 600) hd, a32, a10, gA hd, c0]
      exact hQ
  intro k
  induction k with
  | zero =>
    intro i σ hi hB h5
    exact at_ 0 i σ hi hB h5 rfl (fun q => by omega)
  | succ k ih =>
    intro i σ hi hB h5
    by_cases z : isWs (t i) = true
    · have e : spn isWs t n (k + 1) i = spn isWs t n k (i + 1) := by rw [spn_s, if_pos ⟨by omega, z⟩]
      rw [e]
      have hti := ht i
      have bp : bvA t n i = Int32.ofNat (t i) := if_pos (by omega)
      have f1 : fG σ (uI σ 81 5 (Int32.ofNat (i + 1))) := fG_I (by omega)
      obtain ⟨σ', f', p4, p5, p6, p7, p8, q'⟩ := ih (i + 1) (uI σ 81 5 (Int32.ofNat (i + 1))) (by omega) (mBy_G hB f1) (by rw [uI_1, if_pos ⟨rfl, rfl⟩])
      refine ⟨σ', fG_tr f1 f', p4, p5, p6, p7, p8, fun hd hQ => ?_⟩
      refine b133_0 ?_
      have z' := of_decide_eq_true z
      by_cases y : t i = 32
      · have a32 : (bvA t n i = (32 : Int32)) ↔ True := iff_true_intro (by rw [bp, y]; rfl)
        simp only [↓br_pos, ↓br_neg, ↓rF_I, ↓rF_L, ↓rF_R, ↓rF_N, rO_m, rB_m, ↓rI_m, wI_m, ↓rB2_m, ↓rB3_m, wB2_m, wB3_m, ↓rL_m, wL_m, ↓rQ_m, wQ_m, ↓lI_m, pI_m, pL_m, pR_m, sI_m, sBy_m, sBo_m, sL_m, sQ_m, fst_m, true_and, and_true, tg_some, ln_some, uI_1, uI_2, uL_1, uL_2, uL_3, uQ_1, uQ_2, uQ_3, rv_i, rv_l, rv_n, rv_b0, rv_b1, RMR, ne_eq, reduceCtorEq, not_false_eq_true, Option.getD_some, if_true, if_false, and_self, false_and, and_false, Nat.add_left_cancel_iff, Nat.add_eq_left, Nat.left_eq_add, Nat.one_ne_zero, Nat.reduceAdd, Nat.reduceLT, Nat.reduceLeDiff, Nat.reduceEqDiff, true_implies, false_implies, implies_true, Option.some.injEq, forall_eq', forall_eq, reduceCtorEq, brT, brF, br_s, i_10, i_01, ib_0_2, ib_1_2, tn_0, tn_1, Int32.le_refl, eq_self, rv_bN, rv_iM, RCM 81, RLY, lit_at hw, h5, g_132 hw hB hn (by omega : i ≤ 600) hd, a32, on_succ]
        exact q' hd hQ
      · have a32 : (bvA t n i = (32 : Int32)) ↔ False := iff_false_intro (fun q => by rw [bp] at q; exact y ((of_inj (b := 32) (by omega) (by omega)).mp q))
        have a10 : (bvA t n i = (10 : Int32)) ↔ True := iff_true_intro (by rw [bp, z'.resolve_left y]; rfl)
        simp only [↓br_pos, ↓br_neg, ↓rF_I, ↓rF_L, ↓rF_R, ↓rF_N, rO_m, rB_m, ↓rI_m, wI_m, ↓rB2_m, ↓rB3_m, wB2_m, wB3_m, ↓rL_m, wL_m, ↓rQ_m, wQ_m, ↓lI_m, pI_m, pL_m, pR_m, sI_m, sBy_m, sBo_m, sL_m, sQ_m, fst_m, true_and, and_true, tg_some, ln_some, uI_1, uI_2, uL_1, uL_2, uL_3, uQ_1, uQ_2, uQ_3, rv_i, rv_l, rv_n, rv_b0, rv_b1, RMR, ne_eq, reduceCtorEq, not_false_eq_true, Option.getD_some, if_true, if_false, and_self, false_and, and_false, Nat.add_left_cancel_iff, Nat.add_eq_left, Nat.left_eq_add, Nat.one_ne_zero, Nat.reduceAdd, Nat.reduceLT, Nat.reduceLeDiff, Nat.reduceEqDiff, true_implies, false_implies, implies_true, Option.some.injEq, forall_eq', forall_eq, reduceCtorEq, brT, brF, br_s, i_10, i_01, ib_0_2, ib_1_2, tn_0, tn_1, Int32.le_refl, eq_self, rv_bN, rv_iM, RCM 81, RLY, lit_at hw, h5, g_132 hw hB hn (by omega : i ≤ 600) hd, a32, a10, on_succ]
        exact q' hd hQ
    · exact at_ (k + 1) i σ hi hB h5 (by rw [spn_s, if_neg (fun q => z q.2)]) (fun q => z q.2)
/-- what the Reader holds -/
def mG (σ : mS) (t : Nat → Nat) (n : Nat) (g : Rw) : Prop := mBy σ t n ∧ σ.1 81 4 = Int32.ofNat (g 0) ∧ σ.1 81 5 = Int32.ofNat (g 1) ∧ σ.1 81 6 = Int32.ofNat (g 2) ∧ (g 2 = 2 → σ.1 81 7 = numV t g) ∧ (g 2 = 1 → σ.1 81 8 = wM t (g 0) (g 1 - g 0) ∧ ltG t (g 0) (g 1 - g 0)) ∧ σ.1 81 9 = Int32.ofNat (g 3) ∧ σ.1 81 14 = Int32.ofNat (g 4) ∧ σ.1 81 13 = Int32.ofNat (g 5)
theorem o_133 {w : mT} {σ : mS} {t : Nat → Nat} {n : Nat} {g : Rw} (hw : lit w) (ht : ∀ i, t i < 256) (hn : n ≤ 600) (hB : mBy σ t n) (h5 : σ.1 81 5 = Int32.ofNat (g 1)) (h9 : σ.1 81 9 = Int32.ofNat (g 3)) (h14 : σ.1 81 14 = Int32.ofNat (g 4)) (h13 : σ.1 81 13 = Int32.ofNat (g 5)) (hg : g 1 ≤ n) : ∃ σ', fG σ σ' ∧ mG σ' t n (adv t n g) ∧ ∀ {D : Nat} {K : Hp → Prop}, 2 ≤ D → (wpV D 133 [.ref 81] (mW w σ) K ↔ K (mW w σ')) := by
  obtain ⟨σ', f', p4, p5, p6, p7, p8, q'⟩ := lp_133 hw ht hn (n - g 1) (g 1) σ (by omega) hB h5
  refine ⟨σ', f', ⟨mBy_G hB f', p4, p5, p6, fun q => ?_, p8, by rw [f'.2.1 9 (by omega)]; exact h9, by rw [f'.2.1 14 (by omega)]; exact h14, by rw [f'.2.1 13 (by omega)]; exact h13⟩, fun hD => cV_of (m := 1) (fun d hd Q hQ => ?_) rfl hD⟩
  · rw [← vM_v]
    exact p7 q
  · exact q' hd hQ
theorem o_133g {w : mT} {σ : mS} {t : Nat → Nat} {n : Nat} {g : Rw} (hw : lit w) (ht : ∀ i, t i < 256) (hG : mG σ t n g) (hv : vG n g) : ∃ σ', fG σ σ' ∧ mG σ' t n (adv t n g) ∧ ∀ {D : Nat} {K : Hp → Prop}, 2 ≤ D → (wpV D 133 [.ref 81] (mW w σ) K ↔ K (mW w σ')) := o_133 hw ht hv.2.2.1 hG.1 hG.2.2.1 hG.2.2.2.2.2.2.1 hG.2.2.2.2.2.2.2.1 hG.2.2.2.2.2.2.2.2 hv.2.1
end
