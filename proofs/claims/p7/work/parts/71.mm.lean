/-! the model's calls: within, spread, next -/
theorem labs {a b : Nat} (ha : a < 4611686018427387904) (hb : b < 4611686018427387904) : (if 0 < Int64.ofNat a - Int64.ofNat b then Int64.ofNat a - Int64.ofNat b else -(Int64.ofNat a - Int64.ofNat b)) = Int64.ofNat (dist a b) := by
  unfold dist
  by_cases h : b < a
  · rw [ol_sub (by omega), if_pos (show (0 : Int64) < Int64.ofNat (a - b) from (ol_lt (a := 0) (by omega) (by omega)).mpr (by omega))]
    congr 1; omega
  · have e : Int64.ofNat a - Int64.ofNat b = - Int64.ofNat (b - a) := by rw [← ol_sub (by omega : a ≤ b), Int64.neg_sub]
    rw [e]
    have n : ¬ (0 : Int64) < - Int64.ofNat (b - a) := by
      rw [Int64.lt_iff_toInt_lt, Int64.toInt_neg, ol_int (by omega), show (0 : Int64).toInt = 0 by decide, Int.bmod_eq_of_le (by omega) (by omega)]
      omega
    rw [if_neg n, Int64.neg_neg]
    congr 1; omega
theorem lp_214 {w : mT} {τ ρ : Rw} {p a b : Nat} (hw : lit w) (hv : vTold τ) (hr : vRow τ ρ) (hp : p < τ 1) (ha : a ≤ 999) (hb : b ≤ 999) : ∀ (r c : Nat) (σ : mS), c + r = τ (28 + p) → mTold σ τ → mRow σ 85 0 ρ → ∃ σ', frZ σ σ' ∧ ∀ {Q : Option (Option Value) → Hp → Prop} {d : Nat}, 2 ≤ d → Q (some (some (.int (wiB τ ρ p a b (τ (28 + p)))))) (mW w σ') → Wp 214 46 [.ref 81, .int (Int32.ofNat p), .int (Int32.ofNat a), .int (Int32.ofNat b), .int (wiB τ ρ p a b c), .int (Int32.ofNat c)] [] (mW w σ) Q d := by
  have v1 := hv.2.1
  have v2 := (hv.2.2.2.2.2.1 p hp).2
  intro r
  induction r with
  | zero =>
    intro c σ hc hτ hρ
    have hc' : c = τ (28 + p) := by omega
    subst hc'
    refine ⟨σ, frZ_rf, fun hd hQ => ?_⟩
    refine b214_46 ?_
    simp only [↓br_pos, ↓br_neg, ↓rF_I, ↓rF_L, ↓rF_R, ↓rF_N, rO_m, rB_m, ↓rI_m, wI_m, ↓rB2_m, ↓rB3_m, wB2_m, wB3_m, ↓rL_m, wL_m, ↓rQ_m, wQ_m, ↓lI_m, pI_m, pL_m, pR_m, sI_m, sBy_m, sBo_m, sL_m, sQ_m, fst_m, true_and, and_true, tg_some, ln_some, uI_1, uI_2, uL_1, uL_2, uL_3, uQ_1, uQ_2, uQ_3, rv_i, rv_l, rv_n, rv_b0, rv_b1, RMR, ne_eq, reduceCtorEq, not_false_eq_true, Option.getD_some, if_true, if_false, and_self, false_and, and_false, Nat.add_left_cancel_iff, Nat.add_eq_left, Nat.left_eq_add, Nat.one_ne_zero, Nat.reduceAdd, Nat.reduceLT, Nat.reduceLeDiff, Nat.reduceEqDiff, true_implies, false_implies, implies_true, Option.some.injEq, forall_eq', forall_eq, reduceCtorEq, brT, brF, br_s, i_10, i_01, ib_0_2, ib_1_2, tn_0, tn_1, Int32.le_refl, eq_self, rv_bN, rv_iM, RCM 81, RLY, lit_at hw, ad_2, ad_4, ad_6, ad_8, ad_10, ad_12, ad_16, ad_24, ad_27, ad_28, ad_31, ad_35, ad_43, ad_51, ad_107, ad_131, ad_311, ml_3, ml_6, ml_7, ml_60, ml_100, ml_2471, mq_12, ar_2, ar_3, ar_4, ar_5, ar_6, of_add, of_mul, on_succ, mt hτ (by omega : 28 + p < 79), Int32.le_refl]
    exact hQ
  | succ r ih =>
    intro c σ hc hτ hρ
    have l1 : (Int32.ofNat (τ (28 + p)) ≤ Int32.ofNat c) ↔ False := iff_false_intro (fun q => absurd ((on_le (by omega) (by omega)).mp q) (by omega))
    obtain ⟨gb, tb⟩ := gOn_b (c := c) hv hr (by omega : p < 3) (by omega)
    have m1 : a * tOn ρ p c ≤ 999 * 119988 := Nat.mul_le_mul ha tb
    have m2 : b * tOn ρ p c ≤ 999 * 119988 := Nat.mul_le_mul hb tb
    have c1 := lg0n (a := a * tOn ρ p c) (b := gOn τ ρ p c) (by omega) (by omega)
    have c2 := lg0n (a := gOn τ ρ p c) (b := b * tOn ρ p c) (by omega) (by omega)
    have i1 := i64_of (a := a) (by omega)
    have i2 := i64_of (a := b) (by omega)
    have i3 := i64_of (a := tOn ρ p c) (by omega)
    have i4 := i64_of (a := gOn τ ρ p c) (by omega)
    obtain ⟨σ', f', q'⟩ := ih (c + 1) (su σ (tOn ρ p c) (gOn τ ρ p c)) (by omega) (mT_c hτ (su_a (by omega))) (mR_c hρ (su_a (by omega)))
    refine ⟨σ', frZ_tr frZ_su f', fun hd hQ => ?_⟩
    have nx := q' hd hQ
    refine b214_46 ?_
    by_cases z0 : 0 < tOn ρ p c
    · have k0 : (Int32.ofNat (tOn ρ p c) ≤ 0) ↔ False := iff_false_intro (fun q => by have := (of_le0 (by omega)).mp q; omega)
      by_cases z1 : a * tOn ρ p c ≤ gOn τ ρ p c
      · have k1 := iff_false_intro (fun q => absurd (c1.mp q) (by omega))
        by_cases z2 : gOn τ ρ p c ≤ b * tOn ρ p c
        · have k2 := iff_false_intro (fun q => absurd (c2.mp q) (by omega))
          have eB : wiB τ ρ p a b (c + 1) = wiB τ ρ p a b c ||| ((1 : Int32) <<< (Int32.ofNat c &&& 31)) := if_pos ⟨z0, z1, z2⟩
          rw [eB] at nx
          simp only [↓br_pos, ↓br_neg, ↓rF_I, ↓rF_L, ↓rF_R, ↓rF_N, rO_m, rB_m, ↓rI_m, wI_m, ↓rB2_m, ↓rB3_m, wB2_m, wB3_m, ↓rL_m, wL_m, ↓rQ_m, wQ_m, ↓lI_m, pI_m, pL_m, pR_m, sI_m, sBy_m, sBo_m, sL_m, sQ_m, fst_m, true_and, and_true, tg_some, ln_some, uI_1, uI_2, uL_1, uL_2, uL_3, uQ_1, uQ_2, uQ_3, rv_i, rv_l, rv_n, rv_b0, rv_b1, RMR, ne_eq, reduceCtorEq, not_false_eq_true, Option.getD_some, if_true, if_false, and_self, false_and, and_false, Nat.add_left_cancel_iff, Nat.add_eq_left, Nat.left_eq_add, Nat.one_ne_zero, Nat.reduceAdd, Nat.reduceLT, Nat.reduceLeDiff, Nat.reduceEqDiff, true_implies, false_implies, implies_true, Option.some.injEq, forall_eq', forall_eq, reduceCtorEq, brT, brF, br_s, i_10, i_01, ib_0_2, ib_1_2, tn_0, tn_1, Int32.le_refl, eq_self, rv_bN, rv_iM, RCM 81, RLY, lit_at hw, ad_2, ad_4, ad_6, ad_8, ad_10, ad_12, ad_16, ad_24, ad_27, ad_28, ad_31, ad_35, ad_43, ad_51, ad_107, ad_131, ad_311, ml_3, ml_6, ml_7, ml_60, ml_100, ml_2471, mq_12, ar_2, ar_3, ar_4, ar_5, ar_6, of_add, of_mul, on_succ, mt hτ (by omega : 28 + p < 79), l1, g_158c hw hτ hρ hv hr (by omega : p < 3) (by omega : c < 12) hd, su_16, su_17, k0, i1, i2, i3, i4, ol_mul, k1, k2]
          exact nx
        · have k2 := iff_true_intro (c2.mpr (by omega))
          have eB : wiB τ ρ p a b (c + 1) = wiB τ ρ p a b c := if_neg (fun q => z2 q.2.2)
          rw [eB] at nx
          simp only [↓br_pos, ↓br_neg, ↓rF_I, ↓rF_L, ↓rF_R, ↓rF_N, rO_m, rB_m, ↓rI_m, wI_m, ↓rB2_m, ↓rB3_m, wB2_m, wB3_m, ↓rL_m, wL_m, ↓rQ_m, wQ_m, ↓lI_m, pI_m, pL_m, pR_m, sI_m, sBy_m, sBo_m, sL_m, sQ_m, fst_m, true_and, and_true, tg_some, ln_some, uI_1, uI_2, uL_1, uL_2, uL_3, uQ_1, uQ_2, uQ_3, rv_i, rv_l, rv_n, rv_b0, rv_b1, RMR, ne_eq, reduceCtorEq, not_false_eq_true, Option.getD_some, if_true, if_false, and_self, false_and, and_false, Nat.add_left_cancel_iff, Nat.add_eq_left, Nat.left_eq_add, Nat.one_ne_zero, Nat.reduceAdd, Nat.reduceLT, Nat.reduceLeDiff, Nat.reduceEqDiff, true_implies, false_implies, implies_true, Option.some.injEq, forall_eq', forall_eq, reduceCtorEq, brT, brF, br_s, i_10, i_01, ib_0_2, ib_1_2, tn_0, tn_1, Int32.le_refl, eq_self, rv_bN, rv_iM, RCM 81, RLY, lit_at hw, ad_2, ad_4, ad_6, ad_8, ad_10, ad_12, ad_16, ad_24, ad_27, ad_28, ad_31, ad_35, ad_43, ad_51, ad_107, ad_131, ad_311, ml_3, ml_6, ml_7, ml_60, ml_100, ml_2471, mq_12, ar_2, ar_3, ar_4, ar_5, ar_6, of_add, of_mul, on_succ, mt hτ (by omega : 28 + p < 79), l1, g_158c hw hτ hρ hv hr (by omega : p < 3) (by omega : c < 12) hd, su_16, su_17, k0, i1, i2, i3, i4, ol_mul, k1, k2, Int32.or_zero]
          exact nx
      · have k1 := iff_true_intro (c1.mpr (by omega))
        have eB : wiB τ ρ p a b (c + 1) = wiB τ ρ p a b c := if_neg (fun q => z1 q.2.1)
        rw [eB] at nx
        simp only [↓br_pos, ↓br_neg, ↓rF_I, ↓rF_L, ↓rF_R, ↓rF_N, rO_m, rB_m, ↓rI_m, wI_m, ↓rB2_m, ↓rB3_m, wB2_m, wB3_m, ↓rL_m, wL_m, ↓rQ_m, wQ_m, ↓lI_m, pI_m, pL_m, pR_m, sI_m, sBy_m, sBo_m, sL_m, sQ_m, fst_m, true_and, and_true, tg_some, ln_some, uI_1, uI_2, uL_1, uL_2, uL_3, uQ_1, uQ_2, uQ_3, rv_i, rv_l, rv_n, rv_b0, rv_b1, RMR, ne_eq, reduceCtorEq, not_false_eq_true, Option.getD_some, if_true, if_false, and_self, false_and, and_false, Nat.add_left_cancel_iff, Nat.add_eq_left, Nat.left_eq_add, Nat.one_ne_zero, Nat.reduceAdd, Nat.reduceLT, Nat.reduceLeDiff, Nat.reduceEqDiff, true_implies, false_implies, implies_true, Option.some.injEq, forall_eq', forall_eq, reduceCtorEq, brT, brF, br_s, i_10, i_01, ib_0_2, ib_1_2, tn_0, tn_1, Int32.le_refl, eq_self, rv_bN, rv_iM, RCM 81, RLY, lit_at hw, ad_2, ad_4, ad_6, ad_8, ad_10, ad_12, ad_16, ad_24, ad_27, ad_28, ad_31, ad_35, ad_43, ad_51, ad_107, ad_131, ad_311, ml_3, ml_6, ml_7, ml_60, ml_100, ml_2471, mq_12, ar_2, ar_3, ar_4, ar_5, ar_6, of_add, of_mul, on_succ, mt hτ (by omega : 28 + p < 79), l1, g_158c hw hτ hρ hv hr (by omega : p < 3) (by omega : c < 12) hd, su_16, su_17, k0, i1, i2, i3, i4, ol_mul, k1, Int32.or_zero]
        exact nx
    · have k0 : (Int32.ofNat (tOn ρ p c) ≤ 0) ↔ True := iff_true_intro ((of_le0 (by omega)).mpr (by omega))
      have eB : wiB τ ρ p a b (c + 1) = wiB τ ρ p a b c := if_neg (fun q => z0 q.1)
      rw [eB] at nx
      simp only [↓br_pos, ↓br_neg, ↓rF_I, ↓rF_L, ↓rF_R, ↓rF_N, rO_m, rB_m, ↓rI_m, wI_m, ↓rB2_m, ↓rB3_m, wB2_m, wB3_m, ↓rL_m, wL_m, ↓rQ_m, wQ_m, ↓lI_m, pI_m, pL_m, pR_m, sI_m, sBy_m, sBo_m, sL_m, sQ_m, fst_m, true_and, and_true, tg_some, ln_some, uI_1, uI_2, uL_1, uL_2, uL_3, uQ_1, uQ_2, uQ_3, rv_i, rv_l, rv_n, rv_b0, rv_b1, RMR, ne_eq, reduceCtorEq, not_false_eq_true, Option.getD_some, if_true, if_false, and_self, false_and, and_false, Nat.add_left_cancel_iff, Nat.add_eq_left, Nat.left_eq_add, Nat.one_ne_zero, Nat.reduceAdd, Nat.reduceLT, Nat.reduceLeDiff, Nat.reduceEqDiff, true_implies, false_implies, implies_true, Option.some.injEq, forall_eq', forall_eq, reduceCtorEq, brT, brF, br_s, i_10, i_01, ib_0_2, ib_1_2, tn_0, tn_1, Int32.le_refl, eq_self, rv_bN, rv_iM, RCM 81, RLY, lit_at hw, ad_2, ad_4, ad_6, ad_8, ad_10, ad_12, ad_16, ad_24, ad_27, ad_28, ad_31, ad_35, ad_43, ad_51, ad_107, ad_131, ad_311, ml_3, ml_6, ml_7, ml_60, ml_100, ml_2471, mq_12, ar_2, ar_3, ar_4, ar_5, ar_6, of_add, of_mul, on_succ, mt hτ (by omega : 28 + p < 79), l1, g_158c hw hτ hρ hv hr (by omega : p < 3) (by omega : c < 12) hd, su_16, su_17, k0, Int32.or_zero]
      exact nx
theorem vin_o {a b : Int32} : vin (Int32.toInt64 b) (Int32.toInt64 a) (999 : Int64) = iB (a.toInt ≤ b.toInt ∧ b.toInt ≤ 999) := by
  rw [vin_eq, Int32.toInt_toInt64, Int32.toInt_toInt64, show (999 : Int64).toInt = 999 by decide]
theorem m_214z {w : mT} {σ : mS} {tp n : Nat} {t : Nat → Nat} {τ ρ : Rw} {bk : Nat → Rw} {has : Nat → Bool} {im : Nat → Rw} {p a b : Int32} {D : Nat} {K : Int32 → Hp → Prop} (h : mIn w σ tp t τ ρ n bk has im) (hn1 : ¬ (bN p (τ 1) = 1 ∧ grP a ∧ grP b ∧ a ≤ b)) (hD : 3 ≤ D) : wpI D 214 [.ref 81, .int p, .int a, .int b] (mW w σ) K ↔ K (-1) (mW w (uI σ 81 0 0)) := by
  have M := h
  obtain ⟨hw, hτ, hρ, hv, hr, hp2, htp, htb, htl, hn, hn12, hbk, him⟩ := h
  have M0 := mIn_Z M (frZ_0 (j := 0) (x := 0) (by omega))
  obtain ⟨_, hτ0, hρ0, _, _, hp20, _, htb0, _, hn0, _, hbk0, him0⟩ := M0
  have M0 := mIn_Z M (frZ_0 (j := 0) (x := 0) (by omega))
  refine cI_of (m := 2) (fun d hd Q hQ => ?_) rfl hD
  have hd1 : 1 ≤ d := by omega
  refine b214_0 ?_
  rcases bN_01 (a := p) (n := τ 1) with z | z
  · simp only [↓br_pos, ↓br_neg, ↓rF_I, ↓rF_L, ↓rF_R, ↓rF_N, rO_m, rB_m, ↓rI_m, wI_m, ↓rB2_m, ↓rB3_m, wB2_m, wB3_m, ↓rL_m, wL_m, ↓rQ_m, wQ_m, ↓lI_m, pI_m, pL_m, pR_m, sI_m, sBy_m, sBo_m, sL_m, sQ_m, fst_m, true_and, and_true, tg_some, ln_some, uI_1, uI_2, uL_1, uL_2, uL_3, uQ_1, uQ_2, uQ_3, rv_i, rv_l, rv_n, rv_b0, rv_b1, RMR, ne_eq, reduceCtorEq, not_false_eq_true, Option.getD_some, if_true, if_false, and_self, false_and, and_false, Nat.add_left_cancel_iff, Nat.add_eq_left, Nat.left_eq_add, Nat.one_ne_zero, Nat.reduceAdd, Nat.reduceLT, Nat.reduceLeDiff, Nat.reduceEqDiff, true_implies, false_implies, implies_true, Option.some.injEq, forall_eq', forall_eq, reduceCtorEq, brT, brF, br_s, i_10, i_01, ib_0_2, ib_1_2, tn_0, tn_1, Int32.le_refl, eq_self, rv_bN, rv_iM, RCM 81, RLY, lit_at hw, g_152 hw hτ0 hv hd, z, z00]
    exact hQ
  · by_cases y : 0 ≤ a.toInt ∧ a.toInt ≤ 999
    · have x : ¬ (a.toInt ≤ b.toInt ∧ b.toInt ≤ 999) := fun q => hn1 ⟨z, y, by unfold grP; omega, by rw [i_le]; exact q.1⟩
      simp only [↓br_pos, ↓br_neg, ↓rF_I, ↓rF_L, ↓rF_R, ↓rF_N, rO_m, rB_m, ↓rI_m, wI_m, ↓rB2_m, ↓rB3_m, wB2_m, wB3_m, ↓rL_m, wL_m, ↓rQ_m, wQ_m, ↓lI_m, pI_m, pL_m, pR_m, sI_m, sBy_m, sBo_m, sL_m, sQ_m, fst_m, true_and, and_true, tg_some, ln_some, uI_1, uI_2, uL_1, uL_2, uL_3, uQ_1, uQ_2, uQ_3, rv_i, rv_l, rv_n, rv_b0, rv_b1, RMR, ne_eq, reduceCtorEq, not_false_eq_true, Option.getD_some, if_true, if_false, and_self, false_and, and_false, Nat.add_left_cancel_iff, Nat.add_eq_left, Nat.left_eq_add, Nat.one_ne_zero, Nat.reduceAdd, Nat.reduceLT, Nat.reduceLeDiff, Nat.reduceEqDiff, true_implies, false_implies, implies_true, Option.some.injEq, forall_eq', forall_eq, reduceCtorEq, brT, brF, br_s, i_10, i_01, ib_0_2, ib_1_2, tn_0, tn_1, Int32.le_refl, eq_self, rv_bN, rv_iM, RCM 81, RLY, lit_at hw, g_152 hw hτ0 hv hd, z, z10, z00, g_129 hd1, vin_999, iB_t y, vin_o, iB_f x]
      exact hQ
    · simp only [↓br_pos, ↓br_neg, ↓rF_I, ↓rF_L, ↓rF_R, ↓rF_N, rO_m, rB_m, ↓rI_m, wI_m, ↓rB2_m, ↓rB3_m, wB2_m, wB3_m, ↓rL_m, wL_m, ↓rQ_m, wQ_m, ↓lI_m, pI_m, pL_m, pR_m, sI_m, sBy_m, sBo_m, sL_m, sQ_m, fst_m, true_and, and_true, tg_some, ln_some, uI_1, uI_2, uL_1, uL_2, uL_3, uQ_1, uQ_2, uQ_3, rv_i, rv_l, rv_n, rv_b0, rv_b1, RMR, ne_eq, reduceCtorEq, not_false_eq_true, Option.getD_some, if_true, if_false, and_self, false_and, and_false, Nat.add_left_cancel_iff, Nat.add_eq_left, Nat.left_eq_add, Nat.one_ne_zero, Nat.reduceAdd, Nat.reduceLT, Nat.reduceLeDiff, Nat.reduceEqDiff, true_implies, false_implies, implies_true, Option.some.injEq, forall_eq', forall_eq, reduceCtorEq, brT, brF, br_s, i_10, i_01, ib_0_2, ib_1_2, tn_0, tn_1, Int32.le_refl, eq_self, rv_bN, rv_iM, RCM 81, RLY, lit_at hw, g_152 hw hτ0 hv hd, z, z10, z00, g_129 hd1, vin_999, iB_f y]
      exact hQ
theorem m_214 {w : mT} {σ : mS} {tp n : Nat} {t : Nat → Nat} {τ ρ : Rw} {bk : Nat → Rw} {has : Nat → Bool} {im : Nat → Rw} {p a b : Nat} (h : mIn w σ tp t τ ρ n bk has im) (hp : p < τ 1) (hab : a ≤ b) (hb : b ≤ 999) : ∃ σ', frA σ σ' ∧ mIn w σ' tp t τ ρ n bk has im ∧ ∀ {D : Nat} {K : Int32 → Hp → Prop}, 3 ≤ D → (wpI D 214 [.ref 81, .int (Int32.ofNat p), .int (Int32.ofNat a), .int (Int32.ofNat b)] (mW w σ) K ↔ K (wiB τ ρ p a b (τ (28 + p))) (mW w σ')) := by
  have M := h
  obtain ⟨hw, hτ, hρ, hv, hr, hp2, htp, htb, htl, hn, hn12, hbk, him⟩ := h
  have M0 := mIn_Z M (frZ_0 (j := 0) (x := 0) (by omega))
  obtain ⟨_, hτ0, hρ0, _, _, hp20, _, htb0, _, hn0, _, hbk0, him0⟩ := M0
  have M0 := mIn_Z M (frZ_0 (j := 0) (x := 0) (by omega))
  have v1 := hv.2.1
  obtain ⟨σ', f', q'⟩ := lp_214 hw hv hr hp (by omega : a ≤ 999) hb (τ (28 + p)) 0 (uI σ 81 0 0) (by omega) hτ0 hρ0
  have ff : frZ σ σ' := frZ_tr (frZ_0 (by omega)) f'
  refine ⟨σ', frZ_A ff, mIn_Z M ff, fun hD => cI_of (m := 2) (fun d hd Q hQ => ?_) rfl hD⟩
  have hd1 : 1 ≤ d := by omega
  have y : 0 ≤ (Int32.ofNat a).toInt ∧ (Int32.ofNat a).toInt ≤ 999 := by rw [on_int (by omega)]; omega
  have x : (Int32.ofNat a).toInt ≤ (Int32.ofNat b).toInt ∧ (Int32.ofNat b).toInt ≤ 999 := by rw [on_int (by omega), on_int (by omega)]; omega
  refine b214_0 ?_
  simp only [↓br_pos, ↓br_neg, ↓rF_I, ↓rF_L, ↓rF_R, ↓rF_N, rO_m, rB_m, ↓rI_m, wI_m, ↓rB2_m, ↓rB3_m, wB2_m, wB3_m, ↓rL_m, wL_m, ↓rQ_m, wQ_m, ↓lI_m, pI_m, pL_m, pR_m, sI_m, sBy_m, sBo_m, sL_m, sQ_m, fst_m, true_and, and_true, tg_some, ln_some, uI_1, uI_2, uL_1, uL_2, uL_3, uQ_1, uQ_2, uQ_3, rv_i, rv_l, rv_n, rv_b0, rv_b1, RMR, ne_eq, reduceCtorEq, not_false_eq_true, Option.getD_some, if_true, if_false, and_self, false_and, and_false, Nat.add_left_cancel_iff, Nat.add_eq_left, Nat.left_eq_add, Nat.one_ne_zero, Nat.reduceAdd, Nat.reduceLT, Nat.reduceLeDiff, Nat.reduceEqDiff, true_implies, false_implies, implies_true, Option.some.injEq, forall_eq', forall_eq, reduceCtorEq, brT, brF, br_s, i_10, i_01, ib_0_2, ib_1_2, tn_0, tn_1, Int32.le_refl, eq_self, rv_bN, rv_iM, RCM 81, RLY, lit_at hw, g_152 hw hτ0 hv hd, bN_on hp (by omega : τ 1 < 2147483648), z10, g_129 hd1, vin_999, iB_t y, vin_o, iB_t x]
  exact q' hd hQ
def spM (σ : mS) (s : SP) : mS := if s.2.1 = 0 then σ else uL σ 81 24 (Int64.ofNat (s.2.2.2 * s.2.1 / gc1 (s.2.2.1 * s.2.1 - s.1 * s.2.2.2) (s.2.2.2 * s.2.1)))
theorem spM_Z {σ : mS} {s : SP} : frZ σ (spM σ s) := by
  unfold spM
  split
  · exact frZ_rf
  · exact frZ_L (by omega)
theorem lp_215 {w : mT} {τ ρ : Rw} {p : Nat} (hw : lit w) (hv : vTold τ) (hr : vRow τ ρ) (hp : p < τ 1) : ∀ (r c : Nat) (σ : mS), c + r = τ (28 + p) → mTold σ τ → mRow σ 85 0 ρ → ∃ σ', frZ σ σ' ∧ ∀ {Q : Option (Option Value) → Hp → Prop} {d : Nat}, 2 ≤ d → Q (some (some (.long (spV (spB τ ρ p (τ (28 + p))))))) (mW w σ') → Wp 215 31 [.ref 81, .int (Int32.ofNat p), .long (Int64.ofNat (spB τ ρ p c).2.1), jk, .long (Int64.ofNat (spB τ ρ p c).1), jk, .long (Int64.ofNat (spB τ ρ p c).2.2.2), jk, .long (Int64.ofNat (spB τ ρ p c).2.2.1), jk, .int (Int32.ofNat c), jk, jk, jk, jk, jk] [] (mW w σ) Q d := by
  have v1 := hv.2.1
  have v2 := (hv.2.2.2.2.2.1 p hp).2
  intro r
  induction r with
  | zero =>
    intro c σ hc hτ hρ
    have hc' : c = τ (28 + p) := by omega
    subst hc'
    obtain ⟨s1, s2, s3, s4, s5, s6⟩ := spB_I hv hr (by omega : p < 3) (τ (28 + p)) v2
    have m1 : (spB τ ρ p (τ (28 + p))).2.2.1 * (spB τ ρ p (τ (28 + p))).2.1 ≤ 119868012 * 119988 := Nat.mul_le_mul s5 s4
    have m2 : (spB τ ρ p (τ (28 + p))).2.2.2 * (spB τ ρ p (τ (28 + p))).2.1 ≤ 119988 * 119988 := Nat.mul_le_mul s6 s4
    have cb := lg0 (a := (spB τ ρ p (τ (28 + p))).2.1) (by omega)
    refine ⟨spM σ (spB τ ρ p (τ (28 + p))), spM_Z, fun hd hQ => ?_⟩
    have hd1 := Nat.le_trans (by omega : 1 ≤ 2) hd
    refine b215_31 ?_
    simp only [spV, spM] at hQ
    by_cases z : (spB τ ρ p (τ (28 + p))).2.1 = 0
    · have k1 := iff_true_intro (cb.mpr z)
      simp only [if_pos z] at hQ
      simp only [↓br_pos, ↓br_neg, ↓rF_I, ↓rF_L, ↓rF_R, ↓rF_N, rO_m, rB_m, ↓rI_m, wI_m, ↓rB2_m, ↓rB3_m, wB2_m, wB3_m, ↓rL_m, wL_m, ↓rQ_m, wQ_m, ↓lI_m, pI_m, pL_m, pR_m, sI_m, sBy_m, sBo_m, sL_m, sQ_m, fst_m, true_and, and_true, tg_some, ln_some, uI_1, uI_2, uL_1, uL_2, uL_3, uQ_1, uQ_2, uQ_3, rv_i, rv_l, rv_n, rv_b0, rv_b1, RMR, ne_eq, reduceCtorEq, not_false_eq_true, Option.getD_some, if_true, if_false, and_self, false_and, and_false, Nat.add_left_cancel_iff, Nat.add_eq_left, Nat.left_eq_add, Nat.one_ne_zero, Nat.reduceAdd, Nat.reduceLT, Nat.reduceLeDiff, Nat.reduceEqDiff, true_implies, false_implies, implies_true, Option.some.injEq, forall_eq', forall_eq, reduceCtorEq, brT, brF, br_s, i_10, i_01, ib_0_2, ib_1_2, tn_0, tn_1, Int32.le_refl, eq_self, rv_bN, rv_iM, RCM 81, RLY, lit_at hw, ad_2, ad_4, ad_6, ad_8, ad_10, ad_12, ad_16, ad_24, ad_27, ad_28, ad_31, ad_35, ad_43, ad_51, ad_107, ad_131, ad_311, ml_3, ml_6, ml_7, ml_60, ml_100, ml_2471, mq_12, ar_2, ar_3, ar_4, ar_5, ar_6, of_add, of_mul, on_succ, mt hτ (by omega : 28 + p < 79), Int32.le_refl, k1]
      exact hQ
    · have k1 := iff_false_intro (fun q => z (cb.mp q))
      simp only [if_neg z] at hQ
      have hpos : 0 < (spB τ ρ p (τ (28 + p))).2.2.2 * (spB τ ρ p (τ (28 + p))).2.1 := Nat.mul_pos (by omega) (by omega)
      have eg := gc1_g (a := (spB τ ρ p (τ (28 + p))).2.2.1 * (spB τ ρ p (τ (28 + p))).2.1 - (spB τ ρ p (τ (28 + p))).1 * (spB τ ρ p (τ (28 + p))).2.2.2) (b := (spB τ ρ p (τ (28 + p))).2.2.2 * (spB τ ρ p (τ (28 + p))).2.1) hpos
      have g1 := gc1_pos (a := (spB τ ρ p (τ (28 + p))).2.2.1 * (spB τ ρ p (τ (28 + p))).2.1 - (spB τ ρ p (τ (28 + p))).1 * (spB τ ρ p (τ (28 + p))).2.2.2) (b := (spB τ ρ p (τ (28 + p))).2.2.2 * (spB τ ρ p (τ (28 + p))).2.1)
      have g2 := Nat.le_trans (gc1_le (a := (spB τ ρ p (τ (28 + p))).2.2.1 * (spB τ ρ p (τ (28 + p))).2.1 - (spB τ ρ p (τ (28 + p))).1 * (spB τ ρ p (τ (28 + p))).2.2.2) hpos) m2
      rw [eg] at hQ g1 g2
      have cg : (Int64.ofNat (Nat.gcd ((spB τ ρ p (τ (28 + p))).2.2.1 * (spB τ ρ p (τ (28 + p))).2.1 - (spB τ ρ p (τ (28 + p))).1 * (spB τ ρ p (τ (28 + p))).2.2.2) ((spB τ ρ p (τ (28 + p))).2.2.2 * (spB τ ρ p (τ (28 + p))).2.1)) = 0) ↔ False := iff_false_intro (fun q => absurd ((ol_inj (b := 0) (by omega) (by omega)).mp q) (by omega))
      simp only [↓br_pos, ↓br_neg, ↓rF_I, ↓rF_L, ↓rF_R, ↓rF_N, rO_m, rB_m, ↓rI_m, wI_m, ↓rB2_m, ↓rB3_m, wB2_m, wB3_m, ↓rL_m, wL_m, ↓rQ_m, wQ_m, ↓lI_m, pI_m, pL_m, pR_m, sI_m, sBy_m, sBo_m, sL_m, sQ_m, fst_m, true_and, and_true, tg_some, ln_some, uI_1, uI_2, uL_1, uL_2, uL_3, uQ_1, uQ_2, uQ_3, rv_i, rv_l, rv_n, rv_b0, rv_b1, RMR, ne_eq, reduceCtorEq, not_false_eq_true, Option.getD_some, if_true, if_false, and_self, false_and, and_false, Nat.add_left_cancel_iff, Nat.add_eq_left, Nat.left_eq_add, Nat.one_ne_zero, Nat.reduceAdd, Nat.reduceLT, Nat.reduceLeDiff, Nat.reduceEqDiff, true_implies, false_implies, implies_true, Option.some.injEq, forall_eq', forall_eq, reduceCtorEq, brT, brF, br_s, i_10, i_01, ib_0_2, ib_1_2, tn_0, tn_1, Int32.le_refl, eq_self, rv_bN, rv_iM, RCM 81, RLY, lit_at hw, ad_2, ad_4, ad_6, ad_8, ad_10, ad_12, ad_16, ad_24, ad_27, ad_28, ad_31, ad_35, ad_43, ad_51, ad_107, ad_131, ad_311, ml_3, ml_6, ml_7, ml_60, ml_100, ml_2471, mq_12, ar_2, ar_3, ar_4, ar_5, ar_6, of_add, of_mul, on_succ, mt hτ (by omega : 28 + p < 79), Int32.le_refl, k1, ol_mul, ol_sub s2, g_207 (show (spB τ ρ p (τ (28 + p))).2.2.1 * (spB τ ρ p (τ (28 + p))).2.1 - (spB τ ρ p (τ (28 + p))).1 * (spB τ ρ p (τ (28 + p))).2.2.2 < 9223372036854775808 by omega) (show (spB τ ρ p (τ (28 + p))).2.2.2 * (spB τ ρ p (τ (28 + p))).2.1 < 9223372036854775808 by omega) hd1]
      refine b215_186 ?_
      simp only [↓br_pos, ↓br_neg, ↓rF_I, ↓rF_L, ↓rF_R, ↓rF_N, rO_m, rB_m, ↓rI_m, wI_m, ↓rB2_m, ↓rB3_m, wB2_m, wB3_m, ↓rL_m, wL_m, ↓rQ_m, wQ_m, ↓lI_m, pI_m, pL_m, pR_m, sI_m, sBy_m, sBo_m, sL_m, sQ_m, fst_m, true_and, and_true, tg_some, ln_some, uI_1, uI_2, uL_1, uL_2, uL_3, uQ_1, uQ_2, uQ_3, rv_i, rv_l, rv_n, rv_b0, rv_b1, RMR, ne_eq, reduceCtorEq, not_false_eq_true, Option.getD_some, if_true, if_false, and_self, false_and, and_false, Nat.add_left_cancel_iff, Nat.add_eq_left, Nat.left_eq_add, Nat.one_ne_zero, Nat.reduceAdd, Nat.reduceLT, Nat.reduceLeDiff, Nat.reduceEqDiff, true_implies, false_implies, implies_true, Option.some.injEq, forall_eq', forall_eq, reduceCtorEq, brT, brF, br_s, i_10, i_01, ib_0_2, ib_1_2, tn_0, tn_1, Int32.le_refl, eq_self, rv_bN, rv_iM, RCM 81, RLY, lit_at hw, cg, ol_div (show (spB τ ρ p (τ (28 + p))).2.2.1 * (spB τ ρ p (τ (28 + p))).2.1 - (spB τ ρ p (τ (28 + p))).1 * (spB τ ρ p (τ (28 + p))).2.2.2 < 9223372036854775808 by omega) (show Nat.gcd ((spB τ ρ p (τ (28 + p))).2.2.1 * (spB τ ρ p (τ (28 + p))).2.1 - (spB τ ρ p (τ (28 + p))).1 * (spB τ ρ p (τ (28 + p))).2.2.2) ((spB τ ρ p (τ (28 + p))).2.2.2 * (spB τ ρ p (τ (28 + p))).2.1) < 9223372036854775808 by omega), ol_div (show (spB τ ρ p (τ (28 + p))).2.2.2 * (spB τ ρ p (τ (28 + p))).2.1 < 9223372036854775808 by omega) (show Nat.gcd ((spB τ ρ p (τ (28 + p))).2.2.1 * (spB τ ρ p (τ (28 + p))).2.1 - (spB τ ρ p (τ (28 + p))).1 * (spB τ ρ p (τ (28 + p))).2.2.2) ((spB τ ρ p (τ (28 + p))).2.2.2 * (spB τ ρ p (τ (28 + p))).2.1) < 9223372036854775808 by omega)]
      exact hQ
  | succ r ih =>
    intro c σ hc hτ hρ
    have l1 : (Int32.ofNat (τ (28 + p)) ≤ Int32.ofNat c) ↔ False := iff_false_intro (fun q => absurd ((on_le (by omega) (by omega)).mp q) (by omega))
    obtain ⟨s1, s2, s3, s4, s5, s6⟩ := spB_I hv hr (by omega : p < 3) c (by omega)
    have gb := gOn_b (c := c) hv hr (by omega : p < 3) (by omega : c < 12)
    have hg : gOn τ ρ p c < 2147483648 := by omega
    have ht : tOn ρ p c < 2147483648 := by omega
    have m1 : gOn τ ρ p c * (spB τ ρ p c).2.1 ≤ 119868012 * 119988 := Nat.mul_le_mul gb.1 s4
    have m2 : (spB τ ρ p c).1 * tOn ρ p c ≤ 119868012 * 119988 := Nat.mul_le_mul s3 gb.2
    have m3 : gOn τ ρ p c * (spB τ ρ p c).2.2.2 ≤ 119868012 * 119988 := Nat.mul_le_mul gb.1 s6
    have m4 : (spB τ ρ p c).2.2.1 * tOn ρ p c ≤ 119868012 * 119988 := Nat.mul_le_mul s5 gb.2
    have cb := lg0 (a := (spB τ ρ p c).2.1) (by omega)
    have cd := lg0 (a := (spB τ ρ p c).2.2.2) (by omega)
    have cl := lgp (a := gOn τ ρ p c * (spB τ ρ p c).2.1) (b := (spB τ ρ p c).1 * tOn ρ p c) (by omega) (by omega)
    have cm := lgq (a := gOn τ ρ p c * (spB τ ρ p c).2.2.2) (b := (spB τ ρ p c).2.2.1 * tOn ρ p c) (by omega) (by omega)
    obtain ⟨σ', f', q'⟩ := ih (c + 1) (su σ (tOn ρ p c) (gOn τ ρ p c)) (by omega) (mT_c hτ (su_a (by omega))) (mR_c hρ (su_a (by omega)))
    refine ⟨σ', frZ_tr frZ_su f', fun hd hQ => ?_⟩
    have nx := q' hd hQ
    refine b215_31 ?_
    by_cases z : tOn ρ p c = 0
    · have k0 : (Int32.ofNat (tOn ρ p c) = 0) ↔ True := iff_true_intro (by rw [z]; rfl)
      have eB : spB τ ρ p (c + 1) = spB τ ρ p c := if_pos z
      rw [eB] at nx
      simp only [↓br_pos, ↓br_neg, ↓rF_I, ↓rF_L, ↓rF_R, ↓rF_N, rO_m, rB_m, ↓rI_m, wI_m, ↓rB2_m, ↓rB3_m, wB2_m, wB3_m, ↓rL_m, wL_m, ↓rQ_m, wQ_m, ↓lI_m, pI_m, pL_m, pR_m, sI_m, sBy_m, sBo_m, sL_m, sQ_m, fst_m, true_and, and_true, tg_some, ln_some, uI_1, uI_2, uL_1, uL_2, uL_3, uQ_1, uQ_2, uQ_3, rv_i, rv_l, rv_n, rv_b0, rv_b1, RMR, ne_eq, reduceCtorEq, not_false_eq_true, Option.getD_some, if_true, if_false, and_self, false_and, and_false, Nat.add_left_cancel_iff, Nat.add_eq_left, Nat.left_eq_add, Nat.one_ne_zero, Nat.reduceAdd, Nat.reduceLT, Nat.reduceLeDiff, Nat.reduceEqDiff, true_implies, false_implies, implies_true, Option.some.injEq, forall_eq', forall_eq, reduceCtorEq, brT, brF, br_s, i_10, i_01, ib_0_2, ib_1_2, tn_0, tn_1, Int32.le_refl, eq_self, rv_bN, rv_iM, RCM 81, RLY, lit_at hw, ad_2, ad_4, ad_6, ad_8, ad_10, ad_12, ad_16, ad_24, ad_27, ad_28, ad_31, ad_35, ad_43, ad_51, ad_107, ad_131, ad_311, ml_3, ml_6, ml_7, ml_60, ml_100, ml_2471, mq_12, ar_2, ar_3, ar_4, ar_5, ar_6, of_add, of_mul, on_succ, mt hτ (by omega : 28 + p < 79), l1, g_158c hw hτ hρ hv hr (by omega : p < 3) (by omega : c < 12) hd, su_16, su_17, i64_of hg, i64_of ht, ol_mul, on_succ, k0]
      exact b215_146 nx
    · have k0 : (Int32.ofNat (tOn ρ p c) = 0) ↔ False := iff_false_intro (fun q => z ((of_eq0 (by omega)).mp q))
      have eB : spB τ ρ p (c + 1) = ⟨if (spB τ ρ p c).2.1 = 0 ∨ gOn τ ρ p c * (spB τ ρ p c).2.1 < (spB τ ρ p c).1 * tOn ρ p c then gOn τ ρ p c else (spB τ ρ p c).1, if (spB τ ρ p c).2.1 = 0 ∨ gOn τ ρ p c * (spB τ ρ p c).2.1 < (spB τ ρ p c).1 * tOn ρ p c then tOn ρ p c else (spB τ ρ p c).2.1, if (spB τ ρ p c).2.2.2 = 0 ∨ (spB τ ρ p c).2.2.1 * tOn ρ p c < gOn τ ρ p c * (spB τ ρ p c).2.2.2 then gOn τ ρ p c else (spB τ ρ p c).2.2.1, if (spB τ ρ p c).2.2.2 = 0 ∨ (spB τ ρ p c).2.2.1 * tOn ρ p c < gOn τ ρ p c * (spB τ ρ p c).2.2.2 then tOn ρ p c else (spB τ ρ p c).2.2.2⟩ := if_neg z
      rw [eB] at nx
      by_cases v : (spB τ ρ p c).2.1 = 0
      · have k1 := iff_true_intro (cb.mpr v)
        by_cases y : (spB τ ρ p c).2.2.2 = 0
        · have k3 := iff_true_intro (cd.mpr y)
          simp only [if_pos (Or.inl v : (spB τ ρ p c).2.1 = 0 ∨ gOn τ ρ p c * (spB τ ρ p c).2.1 < (spB τ ρ p c).1 * tOn ρ p c), if_pos (Or.inl y : (spB τ ρ p c).2.2.2 = 0 ∨ (spB τ ρ p c).2.2.1 * tOn ρ p c < gOn τ ρ p c * (spB τ ρ p c).2.2.2)] at nx
          simp only [↓br_pos, ↓br_neg, ↓rF_I, ↓rF_L, ↓rF_R, ↓rF_N, rO_m, rB_m, ↓rI_m, wI_m, ↓rB2_m, ↓rB3_m, wB2_m, wB3_m, ↓rL_m, wL_m, ↓rQ_m, wQ_m, ↓lI_m, pI_m, pL_m, pR_m, sI_m, sBy_m, sBo_m, sL_m, sQ_m, fst_m, true_and, and_true, tg_some, ln_some, uI_1, uI_2, uL_1, uL_2, uL_3, uQ_1, uQ_2, uQ_3, rv_i, rv_l, rv_n, rv_b0, rv_b1, RMR, ne_eq, reduceCtorEq, not_false_eq_true, Option.getD_some, if_true, if_false, and_self, false_and, and_false, Nat.add_left_cancel_iff, Nat.add_eq_left, Nat.left_eq_add, Nat.one_ne_zero, Nat.reduceAdd, Nat.reduceLT, Nat.reduceLeDiff, Nat.reduceEqDiff, true_implies, false_implies, implies_true, Option.some.injEq, forall_eq', forall_eq, reduceCtorEq, brT, brF, br_s, i_10, i_01, ib_0_2, ib_1_2, tn_0, tn_1, Int32.le_refl, eq_self, rv_bN, rv_iM, RCM 81, RLY, lit_at hw, ad_2, ad_4, ad_6, ad_8, ad_10, ad_12, ad_16, ad_24, ad_27, ad_28, ad_31, ad_35, ad_43, ad_51, ad_107, ad_131, ad_311, ml_3, ml_6, ml_7, ml_60, ml_100, ml_2471, mq_12, ar_2, ar_3, ar_4, ar_5, ar_6, of_add, of_mul, on_succ, mt hτ (by omega : 28 + p < 79), l1, g_158c hw hτ hρ hv hr (by omega : p < 3) (by omega : c < 12) hd, su_16, su_17, i64_of hg, i64_of ht, ol_mul, on_succ, k0, k1, k3]
          refine b215_136 ?_
          simp only [↓br_pos, ↓br_neg, ↓rF_I, ↓rF_L, ↓rF_R, ↓rF_N, rO_m, rB_m, ↓rI_m, wI_m, ↓rB2_m, ↓rB3_m, wB2_m, wB3_m, ↓rL_m, wL_m, ↓rQ_m, wQ_m, ↓lI_m, pI_m, pL_m, pR_m, sI_m, sBy_m, sBo_m, sL_m, sQ_m, fst_m, true_and, and_true, tg_some, ln_some, uI_1, uI_2, uL_1, uL_2, uL_3, uQ_1, uQ_2, uQ_3, rv_i, rv_l, rv_n, rv_b0, rv_b1, RMR, ne_eq, reduceCtorEq, not_false_eq_true, Option.getD_some, if_true, if_false, and_self, false_and, and_false, Nat.add_left_cancel_iff, Nat.add_eq_left, Nat.left_eq_add, Nat.one_ne_zero, Nat.reduceAdd, Nat.reduceLT, Nat.reduceLeDiff, Nat.reduceEqDiff, true_implies, false_implies, implies_true, Option.some.injEq, forall_eq', forall_eq, reduceCtorEq, brT, brF, br_s, i_10, i_01, ib_0_2, ib_1_2, tn_0, tn_1, Int32.le_refl, eq_self, rv_bN, rv_iM, RCM 81, RLY, lit_at hw, su_17, i64_of hg, on_succ]
          exact b215_146 nx
        · have k3 := iff_false_intro (fun q => y (cd.mp q))
          by_cases x : (spB τ ρ p c).2.2.1 * tOn ρ p c < gOn τ ρ p c * (spB τ ρ p c).2.2.2
          · have k4 := iff_false_intro (fun q => absurd (cm.mp q) (by omega))
            simp only [if_pos (Or.inl v : (spB τ ρ p c).2.1 = 0 ∨ gOn τ ρ p c * (spB τ ρ p c).2.1 < (spB τ ρ p c).1 * tOn ρ p c), if_pos (Or.inr x : (spB τ ρ p c).2.2.2 = 0 ∨ (spB τ ρ p c).2.2.1 * tOn ρ p c < gOn τ ρ p c * (spB τ ρ p c).2.2.2)] at nx
            simp only [↓br_pos, ↓br_neg, ↓rF_I, ↓rF_L, ↓rF_R, ↓rF_N, rO_m, rB_m, ↓rI_m, wI_m, ↓rB2_m, ↓rB3_m, wB2_m, wB3_m, ↓rL_m, wL_m, ↓rQ_m, wQ_m, ↓lI_m, pI_m, pL_m, pR_m, sI_m, sBy_m, sBo_m, sL_m, sQ_m, fst_m, true_and, and_true, tg_some, ln_some, uI_1, uI_2, uL_1, uL_2, uL_3, uQ_1, uQ_2, uQ_3, rv_i, rv_l, rv_n, rv_b0, rv_b1, RMR, ne_eq, reduceCtorEq, not_false_eq_true, Option.getD_some, if_true, if_false, and_self, false_and, and_false, Nat.add_left_cancel_iff, Nat.add_eq_left, Nat.left_eq_add, Nat.one_ne_zero, Nat.reduceAdd, Nat.reduceLT, Nat.reduceLeDiff, Nat.reduceEqDiff, true_implies, false_implies, implies_true, Option.some.injEq, forall_eq', forall_eq, reduceCtorEq, brT, brF, br_s, i_10, i_01, ib_0_2, ib_1_2, tn_0, tn_1, Int32.le_refl, eq_self, rv_bN, rv_iM, RCM 81, RLY, lit_at hw, ad_2, ad_4, ad_6, ad_8, ad_10, ad_12, ad_16, ad_24, ad_27, ad_28, ad_31, ad_35, ad_43, ad_51, ad_107, ad_131, ad_311, ml_3, ml_6, ml_7, ml_60, ml_100, ml_2471, mq_12, ar_2, ar_3, ar_4, ar_5, ar_6, of_add, of_mul, on_succ, mt hτ (by omega : 28 + p < 79), l1, g_158c hw hτ hρ hv hr (by omega : p < 3) (by omega : c < 12) hd, su_16, su_17, i64_of hg, i64_of ht, ol_mul, on_succ, k0, k1, k3, k4]
            refine b215_136 ?_
            simp only [↓br_pos, ↓br_neg, ↓rF_I, ↓rF_L, ↓rF_R, ↓rF_N, rO_m, rB_m, ↓rI_m, wI_m, ↓rB2_m, ↓rB3_m, wB2_m, wB3_m, ↓rL_m, wL_m, ↓rQ_m, wQ_m, ↓lI_m, pI_m, pL_m, pR_m, sI_m, sBy_m, sBo_m, sL_m, sQ_m, fst_m, true_and, and_true, tg_some, ln_some, uI_1, uI_2, uL_1, uL_2, uL_3, uQ_1, uQ_2, uQ_3, rv_i, rv_l, rv_n, rv_b0, rv_b1, RMR, ne_eq, reduceCtorEq, not_false_eq_true, Option.getD_some, if_true, if_false, and_self, false_and, and_false, Nat.add_left_cancel_iff, Nat.add_eq_left, Nat.left_eq_add, Nat.one_ne_zero, Nat.reduceAdd, Nat.reduceLT, Nat.reduceLeDiff, Nat.reduceEqDiff, true_implies, false_implies, implies_true, Option.some.injEq, forall_eq', forall_eq, reduceCtorEq, brT, brF, br_s, i_10, i_01, ib_0_2, ib_1_2, tn_0, tn_1, Int32.le_refl, eq_self, rv_bN, rv_iM, RCM 81, RLY, lit_at hw, su_17, i64_of hg, on_succ]
            exact b215_146 nx
          · have k4 := iff_true_intro (cm.mpr (by omega))
            simp only [if_pos (Or.inl v : (spB τ ρ p c).2.1 = 0 ∨ gOn τ ρ p c * (spB τ ρ p c).2.1 < (spB τ ρ p c).1 * tOn ρ p c), if_neg (fun q => q.elim y x : ¬ ((spB τ ρ p c).2.2.2 = 0 ∨ (spB τ ρ p c).2.2.1 * tOn ρ p c < gOn τ ρ p c * (spB τ ρ p c).2.2.2))] at nx
            simp only [↓br_pos, ↓br_neg, ↓rF_I, ↓rF_L, ↓rF_R, ↓rF_N, rO_m, rB_m, ↓rI_m, wI_m, ↓rB2_m, ↓rB3_m, wB2_m, wB3_m, ↓rL_m, wL_m, ↓rQ_m, wQ_m, ↓lI_m, pI_m, pL_m, pR_m, sI_m, sBy_m, sBo_m, sL_m, sQ_m, fst_m, true_and, and_true, tg_some, ln_some, uI_1, uI_2, uL_1, uL_2, uL_3, uQ_1, uQ_2, uQ_3, rv_i, rv_l, rv_n, rv_b0, rv_b1, RMR, ne_eq, reduceCtorEq, not_false_eq_true, Option.getD_some, if_true, if_false, and_self, false_and, and_false, Nat.add_left_cancel_iff, Nat.add_eq_left, Nat.left_eq_add, Nat.one_ne_zero, Nat.reduceAdd, Nat.reduceLT, Nat.reduceLeDiff, Nat.reduceEqDiff, true_implies, false_implies, implies_true, Option.some.injEq, forall_eq', forall_eq, reduceCtorEq, brT, brF, br_s, i_10, i_01, ib_0_2, ib_1_2, tn_0, tn_1, Int32.le_refl, eq_self, rv_bN, rv_iM, RCM 81, RLY, lit_at hw, ad_2, ad_4, ad_6, ad_8, ad_10, ad_12, ad_16, ad_24, ad_27, ad_28, ad_31, ad_35, ad_43, ad_51, ad_107, ad_131, ad_311, ml_3, ml_6, ml_7, ml_60, ml_100, ml_2471, mq_12, ar_2, ar_3, ar_4, ar_5, ar_6, of_add, of_mul, on_succ, mt hτ (by omega : 28 + p < 79), l1, g_158c hw hτ hρ hv hr (by omega : p < 3) (by omega : c < 12) hd, su_16, su_17, i64_of hg, i64_of ht, ol_mul, on_succ, k0, k1, k3, k4]
            exact b215_146 nx
      · have k1 := iff_false_intro (fun q => v (cb.mp q))
        by_cases u : gOn τ ρ p c * (spB τ ρ p c).2.1 < (spB τ ρ p c).1 * tOn ρ p c
        · have k2 := iff_false_intro (fun q => absurd (cl.mp q) (by omega))
          by_cases y : (spB τ ρ p c).2.2.2 = 0
          · have k3 := iff_true_intro (cd.mpr y)
            simp only [if_pos (Or.inr u : (spB τ ρ p c).2.1 = 0 ∨ gOn τ ρ p c * (spB τ ρ p c).2.1 < (spB τ ρ p c).1 * tOn ρ p c), if_pos (Or.inl y : (spB τ ρ p c).2.2.2 = 0 ∨ (spB τ ρ p c).2.2.1 * tOn ρ p c < gOn τ ρ p c * (spB τ ρ p c).2.2.2)] at nx
            simp only [↓br_pos, ↓br_neg, ↓rF_I, ↓rF_L, ↓rF_R, ↓rF_N, rO_m, rB_m, ↓rI_m, wI_m, ↓rB2_m, ↓rB3_m, wB2_m, wB3_m, ↓rL_m, wL_m, ↓rQ_m, wQ_m, ↓lI_m, pI_m, pL_m, pR_m, sI_m, sBy_m, sBo_m, sL_m, sQ_m, fst_m, true_and, and_true, tg_some, ln_some, uI_1, uI_2, uL_1, uL_2, uL_3, uQ_1, uQ_2, uQ_3, rv_i, rv_l, rv_n, rv_b0, rv_b1, RMR, ne_eq, reduceCtorEq, not_false_eq_true, Option.getD_some, if_true, if_false, and_self, false_and, and_false, Nat.add_left_cancel_iff, Nat.add_eq_left, Nat.left_eq_add, Nat.one_ne_zero, Nat.reduceAdd, Nat.reduceLT, Nat.reduceLeDiff, Nat.reduceEqDiff, true_implies, false_implies, implies_true, Option.some.injEq, forall_eq', forall_eq, reduceCtorEq, brT, brF, br_s, i_10, i_01, ib_0_2, ib_1_2, tn_0, tn_1, Int32.le_refl, eq_self, rv_bN, rv_iM, RCM 81, RLY, lit_at hw, ad_2, ad_4, ad_6, ad_8, ad_10, ad_12, ad_16, ad_24, ad_27, ad_28, ad_31, ad_35, ad_43, ad_51, ad_107, ad_131, ad_311, ml_3, ml_6, ml_7, ml_60, ml_100, ml_2471, mq_12, ar_2, ar_3, ar_4, ar_5, ar_6, of_add, of_mul, on_succ, mt hτ (by omega : 28 + p < 79), l1, g_158c hw hτ hρ hv hr (by omega : p < 3) (by omega : c < 12) hd, su_16, su_17, i64_of hg, i64_of ht, ol_mul, on_succ, k0, k1, k2, k3]
            refine b215_136 ?_
            simp only [↓br_pos, ↓br_neg, ↓rF_I, ↓rF_L, ↓rF_R, ↓rF_N, rO_m, rB_m, ↓rI_m, wI_m, ↓rB2_m, ↓rB3_m, wB2_m, wB3_m, ↓rL_m, wL_m, ↓rQ_m, wQ_m, ↓lI_m, pI_m, pL_m, pR_m, sI_m, sBy_m, sBo_m, sL_m, sQ_m, fst_m, true_and, and_true, tg_some, ln_some, uI_1, uI_2, uL_1, uL_2, uL_3, uQ_1, uQ_2, uQ_3, rv_i, rv_l, rv_n, rv_b0, rv_b1, RMR, ne_eq, reduceCtorEq, not_false_eq_true, Option.getD_some, if_true, if_false, and_self, false_and, and_false, Nat.add_left_cancel_iff, Nat.add_eq_left, Nat.left_eq_add, Nat.one_ne_zero, Nat.reduceAdd, Nat.reduceLT, Nat.reduceLeDiff, Nat.reduceEqDiff, true_implies, false_implies, implies_true, Option.some.injEq, forall_eq', forall_eq, reduceCtorEq, brT, brF, br_s, i_10, i_01, ib_0_2, ib_1_2, tn_0, tn_1, Int32.le_refl, eq_self, rv_bN, rv_iM, RCM 81, RLY, lit_at hw, su_17, i64_of hg, on_succ]
            exact b215_146 nx
          · have k3 := iff_false_intro (fun q => y (cd.mp q))
            by_cases x : (spB τ ρ p c).2.2.1 * tOn ρ p c < gOn τ ρ p c * (spB τ ρ p c).2.2.2
            · have k4 := iff_false_intro (fun q => absurd (cm.mp q) (by omega))
              simp only [if_pos (Or.inr u : (spB τ ρ p c).2.1 = 0 ∨ gOn τ ρ p c * (spB τ ρ p c).2.1 < (spB τ ρ p c).1 * tOn ρ p c), if_pos (Or.inr x : (spB τ ρ p c).2.2.2 = 0 ∨ (spB τ ρ p c).2.2.1 * tOn ρ p c < gOn τ ρ p c * (spB τ ρ p c).2.2.2)] at nx
              simp only [↓br_pos, ↓br_neg, ↓rF_I, ↓rF_L, ↓rF_R, ↓rF_N, rO_m, rB_m, ↓rI_m, wI_m, ↓rB2_m, ↓rB3_m, wB2_m, wB3_m, ↓rL_m, wL_m, ↓rQ_m, wQ_m, ↓lI_m, pI_m, pL_m, pR_m, sI_m, sBy_m, sBo_m, sL_m, sQ_m, fst_m, true_and, and_true, tg_some, ln_some, uI_1, uI_2, uL_1, uL_2, uL_3, uQ_1, uQ_2, uQ_3, rv_i, rv_l, rv_n, rv_b0, rv_b1, RMR, ne_eq, reduceCtorEq, not_false_eq_true, Option.getD_some, if_true, if_false, and_self, false_and, and_false, Nat.add_left_cancel_iff, Nat.add_eq_left, Nat.left_eq_add, Nat.one_ne_zero, Nat.reduceAdd, Nat.reduceLT, Nat.reduceLeDiff, Nat.reduceEqDiff, true_implies, false_implies, implies_true, Option.some.injEq, forall_eq', forall_eq, reduceCtorEq, brT, brF, br_s, i_10, i_01, ib_0_2, ib_1_2, tn_0, tn_1, Int32.le_refl, eq_self, rv_bN, rv_iM, RCM 81, RLY, lit_at hw, ad_2, ad_4, ad_6, ad_8, ad_10, ad_12, ad_16, ad_24, ad_27, ad_28, ad_31, ad_35, ad_43, ad_51, ad_107, ad_131, ad_311, ml_3, ml_6, ml_7, ml_60, ml_100, ml_2471, mq_12, ar_2, ar_3, ar_4, ar_5, ar_6, of_add, of_mul, on_succ, mt hτ (by omega : 28 + p < 79), l1, g_158c hw hτ hρ hv hr (by omega : p < 3) (by omega : c < 12) hd, su_16, su_17, i64_of hg, i64_of ht, ol_mul, on_succ, k0, k1, k2, k3, k4]
              refine b215_136 ?_
              simp only [↓br_pos, ↓br_neg, ↓rF_I, ↓rF_L, ↓rF_R, ↓rF_N, rO_m, rB_m, ↓rI_m, wI_m, ↓rB2_m, ↓rB3_m, wB2_m, wB3_m, ↓rL_m, wL_m, ↓rQ_m, wQ_m, ↓lI_m, pI_m, pL_m, pR_m, sI_m, sBy_m, sBo_m, sL_m, sQ_m, fst_m, true_and, and_true, tg_some, ln_some, uI_1, uI_2, uL_1, uL_2, uL_3, uQ_1, uQ_2, uQ_3, rv_i, rv_l, rv_n, rv_b0, rv_b1, RMR, ne_eq, reduceCtorEq, not_false_eq_true, Option.getD_some, if_true, if_false, and_self, false_and, and_false, Nat.add_left_cancel_iff, Nat.add_eq_left, Nat.left_eq_add, Nat.one_ne_zero, Nat.reduceAdd, Nat.reduceLT, Nat.reduceLeDiff, Nat.reduceEqDiff, true_implies, false_implies, implies_true, Option.some.injEq, forall_eq', forall_eq, reduceCtorEq, brT, brF, br_s, i_10, i_01, ib_0_2, ib_1_2, tn_0, tn_1, Int32.le_refl, eq_self, rv_bN, rv_iM, RCM 81, RLY, lit_at hw, su_17, i64_of hg, on_succ]
              exact b215_146 nx
            · have k4 := iff_true_intro (cm.mpr (by omega))
              simp only [if_pos (Or.inr u : (spB τ ρ p c).2.1 = 0 ∨ gOn τ ρ p c * (spB τ ρ p c).2.1 < (spB τ ρ p c).1 * tOn ρ p c), if_neg (fun q => q.elim y x : ¬ ((spB τ ρ p c).2.2.2 = 0 ∨ (spB τ ρ p c).2.2.1 * tOn ρ p c < gOn τ ρ p c * (spB τ ρ p c).2.2.2))] at nx
              simp only [↓br_pos, ↓br_neg, ↓rF_I, ↓rF_L, ↓rF_R, ↓rF_N, rO_m, rB_m, ↓rI_m, wI_m, ↓rB2_m, ↓rB3_m, wB2_m, wB3_m, ↓rL_m, wL_m, ↓rQ_m, wQ_m, ↓lI_m, pI_m, pL_m, pR_m, sI_m, sBy_m, sBo_m, sL_m, sQ_m, fst_m, true_and, and_true, tg_some, ln_some, uI_1, uI_2, uL_1, uL_2, uL_3, uQ_1, uQ_2, uQ_3, rv_i, rv_l, rv_n, rv_b0, rv_b1, RMR, ne_eq, reduceCtorEq, not_false_eq_true, Option.getD_some, if_true, if_false, and_self, false_and, and_false, Nat.add_left_cancel_iff, Nat.add_eq_left, Nat.left_eq_add, Nat.one_ne_zero, Nat.reduceAdd, Nat.reduceLT, Nat.reduceLeDiff, Nat.reduceEqDiff, true_implies, false_implies, implies_true, Option.some.injEq, forall_eq', forall_eq, reduceCtorEq, brT, brF, br_s, i_10, i_01, ib_0_2, ib_1_2, tn_0, tn_1, Int32.le_refl, eq_self, rv_bN, rv_iM, RCM 81, RLY, lit_at hw, ad_2, ad_4, ad_6, ad_8, ad_10, ad_12, ad_16, ad_24, ad_27, ad_28, ad_31, ad_35, ad_43, ad_51, ad_107, ad_131, ad_311, ml_3, ml_6, ml_7, ml_60, ml_100, ml_2471, mq_12, ar_2, ar_3, ar_4, ar_5, ar_6, of_add, of_mul, on_succ, mt hτ (by omega : 28 + p < 79), l1, g_158c hw hτ hρ hv hr (by omega : p < 3) (by omega : c < 12) hd, su_16, su_17, i64_of hg, i64_of ht, ol_mul, on_succ, k0, k1, k2, k3, k4]
              exact b215_146 nx
        · have k2 := iff_true_intro (cl.mpr (by omega))
          by_cases y : (spB τ ρ p c).2.2.2 = 0
          · have k3 := iff_true_intro (cd.mpr y)
            simp only [if_neg (fun q => q.elim v u : ¬ ((spB τ ρ p c).2.1 = 0 ∨ gOn τ ρ p c * (spB τ ρ p c).2.1 < (spB τ ρ p c).1 * tOn ρ p c)), if_pos (Or.inl y : (spB τ ρ p c).2.2.2 = 0 ∨ (spB τ ρ p c).2.2.1 * tOn ρ p c < gOn τ ρ p c * (spB τ ρ p c).2.2.2)] at nx
            simp only [↓br_pos, ↓br_neg, ↓rF_I, ↓rF_L, ↓rF_R, ↓rF_N, rO_m, rB_m, ↓rI_m, wI_m, ↓rB2_m, ↓rB3_m, wB2_m, wB3_m, ↓rL_m, wL_m, ↓rQ_m, wQ_m, ↓lI_m, pI_m, pL_m, pR_m, sI_m, sBy_m, sBo_m, sL_m, sQ_m, fst_m, true_and, and_true, tg_some, ln_some, uI_1, uI_2, uL_1, uL_2, uL_3, uQ_1, uQ_2, uQ_3, rv_i, rv_l, rv_n, rv_b0, rv_b1, RMR, ne_eq, reduceCtorEq, not_false_eq_true, Option.getD_some, if_true, if_false, and_self, false_and, and_false, Nat.add_left_cancel_iff, Nat.add_eq_left, Nat.left_eq_add, Nat.one_ne_zero, Nat.reduceAdd, Nat.reduceLT, Nat.reduceLeDiff, Nat.reduceEqDiff, true_implies, false_implies, implies_true, Option.some.injEq, forall_eq', forall_eq, reduceCtorEq, brT, brF, br_s, i_10, i_01, ib_0_2, ib_1_2, tn_0, tn_1, Int32.le_refl, eq_self, rv_bN, rv_iM, RCM 81, RLY, lit_at hw, ad_2, ad_4, ad_6, ad_8, ad_10, ad_12, ad_16, ad_24, ad_27, ad_28, ad_31, ad_35, ad_43, ad_51, ad_107, ad_131, ad_311, ml_3, ml_6, ml_7, ml_60, ml_100, ml_2471, mq_12, ar_2, ar_3, ar_4, ar_5, ar_6, of_add, of_mul, on_succ, mt hτ (by omega : 28 + p < 79), l1, g_158c hw hτ hρ hv hr (by omega : p < 3) (by omega : c < 12) hd, su_16, su_17, i64_of hg, i64_of ht, ol_mul, on_succ, k0, k1, k2, k3]
            refine b215_136 ?_
            simp only [↓br_pos, ↓br_neg, ↓rF_I, ↓rF_L, ↓rF_R, ↓rF_N, rO_m, rB_m, ↓rI_m, wI_m, ↓rB2_m, ↓rB3_m, wB2_m, wB3_m, ↓rL_m, wL_m, ↓rQ_m, wQ_m, ↓lI_m, pI_m, pL_m, pR_m, sI_m, sBy_m, sBo_m, sL_m, sQ_m, fst_m, true_and, and_true, tg_some, ln_some, uI_1, uI_2, uL_1, uL_2, uL_3, uQ_1, uQ_2, uQ_3, rv_i, rv_l, rv_n, rv_b0, rv_b1, RMR, ne_eq, reduceCtorEq, not_false_eq_true, Option.getD_some, if_true, if_false, and_self, false_and, and_false, Nat.add_left_cancel_iff, Nat.add_eq_left, Nat.left_eq_add, Nat.one_ne_zero, Nat.reduceAdd, Nat.reduceLT, Nat.reduceLeDiff, Nat.reduceEqDiff, true_implies, false_implies, implies_true, Option.some.injEq, forall_eq', forall_eq, reduceCtorEq, brT, brF, br_s, i_10, i_01, ib_0_2, ib_1_2, tn_0, tn_1, Int32.le_refl, eq_self, rv_bN, rv_iM, RCM 81, RLY, lit_at hw, su_17, i64_of hg, on_succ]
            exact b215_146 nx
          · have k3 := iff_false_intro (fun q => y (cd.mp q))
            by_cases x : (spB τ ρ p c).2.2.1 * tOn ρ p c < gOn τ ρ p c * (spB τ ρ p c).2.2.2
            · have k4 := iff_false_intro (fun q => absurd (cm.mp q) (by omega))
              simp only [if_neg (fun q => q.elim v u : ¬ ((spB τ ρ p c).2.1 = 0 ∨ gOn τ ρ p c * (spB τ ρ p c).2.1 < (spB τ ρ p c).1 * tOn ρ p c)), if_pos (Or.inr x : (spB τ ρ p c).2.2.2 = 0 ∨ (spB τ ρ p c).2.2.1 * tOn ρ p c < gOn τ ρ p c * (spB τ ρ p c).2.2.2)] at nx
              simp only [↓br_pos, ↓br_neg, ↓rF_I, ↓rF_L, ↓rF_R, ↓rF_N, rO_m, rB_m, ↓rI_m, wI_m, ↓rB2_m, ↓rB3_m, wB2_m, wB3_m, ↓rL_m, wL_m, ↓rQ_m, wQ_m, ↓lI_m, pI_m, pL_m, pR_m, sI_m, sBy_m, sBo_m, sL_m, sQ_m, fst_m, true_and, and_true, tg_some, ln_some, uI_1, uI_2, uL_1, uL_2, uL_3, uQ_1, uQ_2, uQ_3, rv_i, rv_l, rv_n, rv_b0, rv_b1, RMR, ne_eq, reduceCtorEq, not_false_eq_true, Option.getD_some, if_true, if_false, and_self, false_and, and_false, Nat.add_left_cancel_iff, Nat.add_eq_left, Nat.left_eq_add, Nat.one_ne_zero, Nat.reduceAdd, Nat.reduceLT, Nat.reduceLeDiff, Nat.reduceEqDiff, true_implies, false_implies, implies_true, Option.some.injEq, forall_eq', forall_eq, reduceCtorEq, brT, brF, br_s, i_10, i_01, ib_0_2, ib_1_2, tn_0, tn_1, Int32.le_refl, eq_self, rv_bN, rv_iM, RCM 81, RLY, lit_at hw, ad_2, ad_4, ad_6, ad_8, ad_10, ad_12, ad_16, ad_24, ad_27, ad_28, ad_31, ad_35, ad_43, ad_51, ad_107, ad_131, ad_311, ml_3, ml_6, ml_7, ml_60, ml_100, ml_2471, mq_12, ar_2, ar_3, ar_4, ar_5, ar_6, of_add, of_mul, on_succ, mt hτ (by omega : 28 + p < 79), l1, g_158c hw hτ hρ hv hr (by omega : p < 3) (by omega : c < 12) hd, su_16, su_17, i64_of hg, i64_of ht, ol_mul, on_succ, k0, k1, k2, k3, k4]
              refine b215_136 ?_
              simp only [↓br_pos, ↓br_neg, ↓rF_I, ↓rF_L, ↓rF_R, ↓rF_N, rO_m, rB_m, ↓rI_m, wI_m, ↓rB2_m, ↓rB3_m, wB2_m, wB3_m, ↓rL_m, wL_m, ↓rQ_m, wQ_m, ↓lI_m, pI_m, pL_m, pR_m, sI_m, sBy_m, sBo_m, sL_m, sQ_m, fst_m, true_and, and_true, tg_some, ln_some, uI_1, uI_2, uL_1, uL_2, uL_3, uQ_1, uQ_2, uQ_3, rv_i, rv_l, rv_n, rv_b0, rv_b1, RMR, ne_eq, reduceCtorEq, not_false_eq_true, Option.getD_some, if_true, if_false, and_self, false_and, and_false, Nat.add_left_cancel_iff, Nat.add_eq_left, Nat.left_eq_add, Nat.one_ne_zero, Nat.reduceAdd, Nat.reduceLT, Nat.reduceLeDiff, Nat.reduceEqDiff, true_implies, false_implies, implies_true, Option.some.injEq, forall_eq', forall_eq, reduceCtorEq, brT, brF, br_s, i_10, i_01, ib_0_2, ib_1_2, tn_0, tn_1, Int32.le_refl, eq_self, rv_bN, rv_iM, RCM 81, RLY, lit_at hw, su_17, i64_of hg, on_succ]
              exact b215_146 nx
            · have k4 := iff_true_intro (cm.mpr (by omega))
              simp only [if_neg (fun q => q.elim v u : ¬ ((spB τ ρ p c).2.1 = 0 ∨ gOn τ ρ p c * (spB τ ρ p c).2.1 < (spB τ ρ p c).1 * tOn ρ p c)), if_neg (fun q => q.elim y x : ¬ ((spB τ ρ p c).2.2.2 = 0 ∨ (spB τ ρ p c).2.2.1 * tOn ρ p c < gOn τ ρ p c * (spB τ ρ p c).2.2.2))] at nx
              simp only [↓br_pos, ↓br_neg, ↓rF_I, ↓rF_L, ↓rF_R, ↓rF_N, rO_m, rB_m, ↓rI_m, wI_m, ↓rB2_m, ↓rB3_m, wB2_m, wB3_m, ↓rL_m, wL_m, ↓rQ_m, wQ_m, ↓lI_m, pI_m, pL_m, pR_m, sI_m, sBy_m, sBo_m, sL_m, sQ_m, fst_m, true_and, and_true, tg_some, ln_some, uI_1, uI_2, uL_1, uL_2, uL_3, uQ_1, uQ_2, uQ_3, rv_i, rv_l, rv_n, rv_b0, rv_b1, RMR, ne_eq, reduceCtorEq, not_false_eq_true, Option.getD_some, if_true, if_false, and_self, false_and, and_false, Nat.add_left_cancel_iff, Nat.add_eq_left, Nat.left_eq_add, Nat.one_ne_zero, Nat.reduceAdd, Nat.reduceLT, Nat.reduceLeDiff, Nat.reduceEqDiff, true_implies, false_implies, implies_true, Option.some.injEq, forall_eq', forall_eq, reduceCtorEq, brT, brF, br_s, i_10, i_01, ib_0_2, ib_1_2, tn_0, tn_1, Int32.le_refl, eq_self, rv_bN, rv_iM, RCM 81, RLY, lit_at hw, ad_2, ad_4, ad_6, ad_8, ad_10, ad_12, ad_16, ad_24, ad_27, ad_28, ad_31, ad_35, ad_43, ad_51, ad_107, ad_131, ad_311, ml_3, ml_6, ml_7, ml_60, ml_100, ml_2471, mq_12, ar_2, ar_3, ar_4, ar_5, ar_6, of_add, of_mul, on_succ, mt hτ (by omega : 28 + p < 79), l1, g_158c hw hτ hρ hv hr (by omega : p < 3) (by omega : c < 12) hd, su_16, su_17, i64_of hg, i64_of ht, ol_mul, on_succ, k0, k1, k2, k3, k4]
              exact b215_146 nx
theorem m_215z {w : mT} {σ : mS} {tp n : Nat} {t : Nat → Nat} {τ ρ : Rw} {bk : Nat → Rw} {has : Nat → Bool} {im : Nat → Rw} {p : Int32} {D : Nat} {K : Int64 → Hp → Prop} (h : mIn w σ tp t τ ρ n bk has im) (hn1 : bN p (τ 1) ≠ 1) (hD : 3 ≤ D) : wpL D 215 [.ref 81, .int p] (mW w σ) K ↔ K (-1) (mW w (uI σ 81 0 0)) := by
  have M := h
  obtain ⟨hw, hτ, hρ, hv, hr, hp2, htp, htb, htl, hn, hn12, hbk, him⟩ := h
  have M0 := mIn_Z M (frZ_0 (j := 0) (x := 0) (by omega))
  obtain ⟨_, hτ0, hρ0, _, _, hp20, _, htb0, _, hn0, _, hbk0, him0⟩ := M0
  have M0 := mIn_Z M (frZ_0 (j := 0) (x := 0) (by omega))
  refine cL_of (m := 2) (fun d hd Q hQ => ?_) rfl hD
  have z := bN_01.resolve_right hn1
  refine b215_0 ?_
  simp only [↓br_pos, ↓br_neg, ↓rF_I, ↓rF_L, ↓rF_R, ↓rF_N, rO_m, rB_m, ↓rI_m, wI_m, ↓rB2_m, ↓rB3_m, wB2_m, wB3_m, ↓rL_m, wL_m, ↓rQ_m, wQ_m, ↓lI_m, pI_m, pL_m, pR_m, sI_m, sBy_m, sBo_m, sL_m, sQ_m, fst_m, true_and, and_true, tg_some, ln_some, uI_1, uI_2, uL_1, uL_2, uL_3, uQ_1, uQ_2, uQ_3, rv_i, rv_l, rv_n, rv_b0, rv_b1, RMR, ne_eq, reduceCtorEq, not_false_eq_true, Option.getD_some, if_true, if_false, and_self, false_and, and_false, Nat.add_left_cancel_iff, Nat.add_eq_left, Nat.left_eq_add, Nat.one_ne_zero, Nat.reduceAdd, Nat.reduceLT, Nat.reduceLeDiff, Nat.reduceEqDiff, true_implies, false_implies, implies_true, Option.some.injEq, forall_eq', forall_eq, reduceCtorEq, brT, brF, br_s, i_10, i_01, ib_0_2, ib_1_2, tn_0, tn_1, Int32.le_refl, eq_self, rv_bN, rv_iM, RCM 81, RLY, lit_at hw, g_152 hw hτ0 hv hd, z, z00]
  exact hQ
theorem m_215 {w : mT} {σ : mS} {tp n : Nat} {t : Nat → Nat} {τ ρ : Rw} {bk : Nat → Rw} {has : Nat → Bool} {im : Nat → Rw} {p : Nat} (h : mIn w σ tp t τ ρ n bk has im) (hp : p < τ 1) : ∃ σ', frA σ σ' ∧ mIn w σ' tp t τ ρ n bk has im ∧ ∀ {D : Nat} {K : Int64 → Hp → Prop}, 3 ≤ D → (wpL D 215 [.ref 81, .int (Int32.ofNat p)] (mW w σ) K ↔ K (spV (spB τ ρ p (τ (28 + p)))) (mW w σ')) := by
  have M := h
  obtain ⟨hw, hτ, hρ, hv, hr, hp2, htp, htb, htl, hn, hn12, hbk, him⟩ := h
  have M0 := mIn_Z M (frZ_0 (j := 0) (x := 0) (by omega))
  obtain ⟨_, hτ0, hρ0, _, _, hp20, _, htb0, _, hn0, _, hbk0, him0⟩ := M0
  have M0 := mIn_Z M (frZ_0 (j := 0) (x := 0) (by omega))
  have v1 := hv.2.1
  obtain ⟨σ', f', q'⟩ := lp_215 hw hv hr hp (τ (28 + p)) 0 (uI σ 81 0 0) (by omega) hτ0 hρ0
  have ff : frZ σ σ' := frZ_tr (frZ_0 (by omega)) f'
  refine ⟨σ', frZ_A ff, mIn_Z M ff, fun hD => cL_of (m := 2) (fun d hd Q hQ => ?_) rfl hD⟩
  refine b215_0 ?_
  simp only [↓br_pos, ↓br_neg, ↓rF_I, ↓rF_L, ↓rF_R, ↓rF_N, rO_m, rB_m, ↓rI_m, wI_m, ↓rB2_m, ↓rB3_m, wB2_m, wB3_m, ↓rL_m, wL_m, ↓rQ_m, wQ_m, ↓lI_m, pI_m, pL_m, pR_m, sI_m, sBy_m, sBo_m, sL_m, sQ_m, fst_m, true_and, and_true, tg_some, ln_some, uI_1, uI_2, uL_1, uL_2, uL_3, uQ_1, uQ_2, uQ_3, rv_i, rv_l, rv_n, rv_b0, rv_b1, RMR, ne_eq, reduceCtorEq, not_false_eq_true, Option.getD_some, if_true, if_false, and_self, false_and, and_false, Nat.add_left_cancel_iff, Nat.add_eq_left, Nat.left_eq_add, Nat.one_ne_zero, Nat.reduceAdd, Nat.reduceLT, Nat.reduceLeDiff, Nat.reduceEqDiff, true_implies, false_implies, implies_true, Option.some.injEq, forall_eq', forall_eq, reduceCtorEq, brT, brF, br_s, i_10, i_01, ib_0_2, ib_1_2, tn_0, tn_1, Int32.le_refl, eq_self, rv_bN, rv_iM, RCM 81, RLY, lit_at hw, g_152 hw hτ0 hv hd, bN_on hp (by omega : τ 1 < 2147483648), z10]
  exact b215_25 (q' hd hQ)
theorem lp_223 {w : mT} {σ : mS} {τ ρ : Rw} {p t aim d : Nat} {Q : Option (Option Value) → Hp → Prop} (hw : lit w) (hτ : mTold σ τ) (hρ : mRow σ 85 0 ρ) (hv : vTold τ) (hr : vRow τ ρ) (hp : p < τ 1) (ht : t ≤ 99) (ha : aim ≤ 999) (k16 : σ.1 81 16 = Int32.ofNat (tPi τ ρ p)) (k17 : σ.1 81 17 = Int32.ofNat (gPi τ ρ p)) (hQ : Q (some (some (.int (neI (neB τ ρ p t aim (τ 0)).1)))) (mW w σ)) : ∀ (r l : Nat) (x : Value), l + r = τ 0 → (x = jk ∨ ∃ u : Int64, x = .long u) → Wp 223 81 [.ref 81, .int (Int32.ofNat p), .int (Int32.ofNat t), .int (Int32.ofNat aim), .long (Int64.ofNat (t * τ (28 + p))), jk, .int (neI (neB τ ρ p t aim l).1), .long (Int64.ofNat (neB τ ρ p t aim l).2), jk, .int (Int32.ofNat l), x, jk] [] (mW w σ) Q d := by
  have v0 := hv.1
  have v2 := (hv.2.2.2.2.2.1 p hp).2
  have m1 : t * τ (28 + p) ≤ 99 * 12 := Nat.mul_le_mul ht v2
  have nl := neB_lt (τ := τ) (ρ := ρ) (p := p) (t := t) (aim := aim) (n := τ 0) (fun l hl => by
    have q := neF_b hv hr hp ht ha hl
    unfold neF dist
    omega)
  have tb := tPi_lt hv hr hp
  have gb := gPi_le hv hr hp
  intro r
  induction r with
  | zero =>
    intro l x hl hx
    have hl' : l = τ 0 := by omega
    subst hl'
    rcases hx with rfl | ⟨u, rfl⟩
    · refine b223_81 ?_
      simp only [↓br_pos, ↓br_neg, ↓rF_I, ↓rF_L, ↓rF_R, ↓rF_N, rO_m, rB_m, ↓rI_m, wI_m, ↓rB2_m, ↓rB3_m, wB2_m, wB3_m, ↓rL_m, wL_m, ↓rQ_m, wQ_m, ↓lI_m, pI_m, pL_m, pR_m, sI_m, sBy_m, sBo_m, sL_m, sQ_m, fst_m, true_and, and_true, tg_some, ln_some, uI_1, uI_2, uL_1, uL_2, uL_3, uQ_1, uQ_2, uQ_3, rv_i, rv_l, rv_n, rv_b0, rv_b1, RMR, ne_eq, reduceCtorEq, not_false_eq_true, Option.getD_some, if_true, if_false, and_self, false_and, and_false, Nat.add_left_cancel_iff, Nat.add_eq_left, Nat.left_eq_add, Nat.one_ne_zero, Nat.reduceAdd, Nat.reduceLT, Nat.reduceLeDiff, Nat.reduceEqDiff, true_implies, false_implies, implies_true, Option.some.injEq, forall_eq', forall_eq, reduceCtorEq, brT, brF, br_s, i_10, i_01, ib_0_2, ib_1_2, tn_0, tn_1, Int32.le_refl, eq_self, rv_bN, rv_iM, RCM 81, RLY, lit_at hw, mt_0 hτ, Int32.le_refl]
      exact hQ
    · refine b223_81a ?_
      simp only [↓br_pos, ↓br_neg, ↓rF_I, ↓rF_L, ↓rF_R, ↓rF_N, rO_m, rB_m, ↓rI_m, wI_m, ↓rB2_m, ↓rB3_m, wB2_m, wB3_m, ↓rL_m, wL_m, ↓rQ_m, wQ_m, ↓lI_m, pI_m, pL_m, pR_m, sI_m, sBy_m, sBo_m, sL_m, sQ_m, fst_m, true_and, and_true, tg_some, ln_some, uI_1, uI_2, uL_1, uL_2, uL_3, uQ_1, uQ_2, uQ_3, rv_i, rv_l, rv_n, rv_b0, rv_b1, RMR, ne_eq, reduceCtorEq, not_false_eq_true, Option.getD_some, if_true, if_false, and_self, false_and, and_false, Nat.add_left_cancel_iff, Nat.add_eq_left, Nat.left_eq_add, Nat.one_ne_zero, Nat.reduceAdd, Nat.reduceLT, Nat.reduceLeDiff, Nat.reduceEqDiff, true_implies, false_implies, implies_true, Option.some.injEq, forall_eq', forall_eq, reduceCtorEq, brT, brF, br_s, i_10, i_01, ib_0_2, ib_1_2, tn_0, tn_1, Int32.le_refl, eq_self, rv_bN, rv_iM, RCM 81, RLY, lit_at hw, mt_0 hτ, Int32.le_refl]
      exact hQ
  | succ r ih =>
    intro l x hl hx
    have hl' : l < τ 0 := by omega
    have nb := nl l (by omega)
    have m12 := mr hρ (by omega : 12 + l < 2471)
    have m16 := mt hτ (by omega : 16 + l < 79)
    have gr := (hv.2.2.2.2.1 l hl').2.2
    have lf := left_lt hr hl'
    have l1 : (Int32.ofNat (τ 0) ≤ Int32.ofNat l) ↔ False := iff_false_intro (fun q => absurd ((on_le (by omega) (by omega)).mp q) (by omega))
    have fb := neF_b hv hr hp ht ha hl'
    have ab : (if 0 < Int64.ofNat (gPi τ ρ p + t * τ (28 + p) * τ (16 + l)) - Int64.ofNat (aim * (tPi τ ρ p + t * τ (28 + p))) then Int64.ofNat (gPi τ ρ p + t * τ (28 + p) * τ (16 + l)) - Int64.ofNat (aim * (tPi τ ρ p + t * τ (28 + p))) else -(Int64.ofNat (gPi τ ρ p + t * τ (28 + p) * τ (16 + l)) - Int64.ofNat (aim * (tPi τ ρ p + t * τ (28 + p))))) = Int64.ofNat (neF τ ρ p t aim l) := labs (by omega) (by omega)
    have fl : neF τ ρ p t aim l < 500000000 := by unfold neF dist; omega
    have i4 := i64_of (a := ρ (12 + l)) (by omega)
    have i5 := i64_of (a := gPi τ ρ p) (by omega)
    have i7 := i64_of (a := τ (16 + l)) (by omega)
    have i8 := i64_of (a := tPi τ ρ p) (by omega)
    have i3 := i64_of (a := aim) (by omega)
    have c0 := lgp (a := ρ (12 + l)) (b := t * τ (28 + p)) (by omega) (by omega)
    have c2 := lgp (a := neF τ ρ p t aim l) (b := (neB τ ρ p t aim l).2) (by omega) (by omega)
    have nx := fun x hx => ih (l + 1) x (by omega) hx
    rcases hx with rfl | ⟨u, rfl⟩
    · skip
      refine b223_81 ?_
      by_cases z0 : t * τ (28 + p) ≤ ρ (12 + l)
      · have c0' := iff_true_intro (c0.mpr z0)
        by_cases z1 : (neB τ ρ p t aim l).1 = 0
        · have c1' := iff_true_intro ((neI_2 (by omega)).mpr z1)
          have eB : neB τ ρ p t aim (l + 1) = (l + 1, neF τ ρ p t aim l) := if_pos ⟨z0, Or.inl z1⟩
          rw [eB] at nx
          simp only [↓br_pos, ↓br_neg, ↓rF_I, ↓rF_L, ↓rF_R, ↓rF_N, rO_m, rB_m, ↓rI_m, wI_m, ↓rB2_m, ↓rB3_m, wB2_m, wB3_m, ↓rL_m, wL_m, ↓rQ_m, wQ_m, ↓lI_m, pI_m, pL_m, pR_m, sI_m, sBy_m, sBo_m, sL_m, sQ_m, fst_m, true_and, and_true, tg_some, ln_some, uI_1, uI_2, uL_1, uL_2, uL_3, uQ_1, uQ_2, uQ_3, rv_i, rv_l, rv_n, rv_b0, rv_b1, RMR, ne_eq, reduceCtorEq, not_false_eq_true, Option.getD_some, if_true, if_false, and_self, false_and, and_false, Nat.add_left_cancel_iff, Nat.add_eq_left, Nat.left_eq_add, Nat.one_ne_zero, Nat.reduceAdd, Nat.reduceLT, Nat.reduceLeDiff, Nat.reduceEqDiff, true_implies, false_implies, implies_true, Option.some.injEq, forall_eq', forall_eq, reduceCtorEq, brT, brF, br_s, i_10, i_01, ib_0_2, ib_1_2, tn_0, tn_1, Int32.le_refl, eq_self, rv_bN, rv_iM, RCM 81, RLY, lit_at hw, ad_2, ad_4, ad_6, ad_8, ad_10, ad_12, ad_16, ad_24, ad_27, ad_28, ad_31, ad_35, ad_43, ad_51, ad_107, ad_131, ad_311, ml_3, ml_6, ml_7, ml_60, ml_100, ml_2471, mq_12, ar_2, ar_3, ar_4, ar_5, ar_6, of_add, of_mul, on_succ, mt_0 hτ, l1, m12, m16, k16, k17, c0', i5, i4, i7, i8, i3, ol_mul, ol_add, ab, c1']
          refine b223_172 ?_
          rw [on_succ]
          exact nx _ (Or.inr ⟨_, rfl⟩)
        · have c1' := iff_false_intro (fun q => z1 ((neI_2 (by omega)).mp q))
          by_cases z2 : neF τ ρ p t aim l < (neB τ ρ p t aim l).2
          · have c2' := iff_false_intro (fun q => absurd (c2.mp q) (by omega))
            have eB : neB τ ρ p t aim (l + 1) = (l + 1, neF τ ρ p t aim l) := if_pos ⟨z0, Or.inr z2⟩
            rw [eB] at nx
            simp only [↓br_pos, ↓br_neg, ↓rF_I, ↓rF_L, ↓rF_R, ↓rF_N, rO_m, rB_m, ↓rI_m, wI_m, ↓rB2_m, ↓rB3_m, wB2_m, wB3_m, ↓rL_m, wL_m, ↓rQ_m, wQ_m, ↓lI_m, pI_m, pL_m, pR_m, sI_m, sBy_m, sBo_m, sL_m, sQ_m, fst_m, true_and, and_true, tg_some, ln_some, uI_1, uI_2, uL_1, uL_2, uL_3, uQ_1, uQ_2, uQ_3, rv_i, rv_l, rv_n, rv_b0, rv_b1, RMR, ne_eq, reduceCtorEq, not_false_eq_true, Option.getD_some, if_true, if_false, and_self, false_and, and_false, Nat.add_left_cancel_iff, Nat.add_eq_left, Nat.left_eq_add, Nat.one_ne_zero, Nat.reduceAdd, Nat.reduceLT, Nat.reduceLeDiff, Nat.reduceEqDiff, true_implies, false_implies, implies_true, Option.some.injEq, forall_eq', forall_eq, reduceCtorEq, brT, brF, br_s, i_10, i_01, ib_0_2, ib_1_2, tn_0, tn_1, Int32.le_refl, eq_self, rv_bN, rv_iM, RCM 81, RLY, lit_at hw, ad_2, ad_4, ad_6, ad_8, ad_10, ad_12, ad_16, ad_24, ad_27, ad_28, ad_31, ad_35, ad_43, ad_51, ad_107, ad_131, ad_311, ml_3, ml_6, ml_7, ml_60, ml_100, ml_2471, mq_12, ar_2, ar_3, ar_4, ar_5, ar_6, of_add, of_mul, on_succ, mt_0 hτ, l1, m12, m16, k16, k17, c0', i5, i4, i7, i8, i3, ol_mul, ol_add, ab, c1', c2']
            refine b223_172 ?_
            rw [on_succ]
            exact nx _ (Or.inr ⟨_, rfl⟩)
          · have c2' := iff_true_intro (c2.mpr (by omega))
            have eB : neB τ ρ p t aim (l + 1) = neB τ ρ p t aim l := if_neg (fun q => q.2.elim z1 z2)
            rw [eB] at nx
            simp only [↓br_pos, ↓br_neg, ↓rF_I, ↓rF_L, ↓rF_R, ↓rF_N, rO_m, rB_m, ↓rI_m, wI_m, ↓rB2_m, ↓rB3_m, wB2_m, wB3_m, ↓rL_m, wL_m, ↓rQ_m, wQ_m, ↓lI_m, pI_m, pL_m, pR_m, sI_m, sBy_m, sBo_m, sL_m, sQ_m, fst_m, true_and, and_true, tg_some, ln_some, uI_1, uI_2, uL_1, uL_2, uL_3, uQ_1, uQ_2, uQ_3, rv_i, rv_l, rv_n, rv_b0, rv_b1, RMR, ne_eq, reduceCtorEq, not_false_eq_true, Option.getD_some, if_true, if_false, and_self, false_and, and_false, Nat.add_left_cancel_iff, Nat.add_eq_left, Nat.left_eq_add, Nat.one_ne_zero, Nat.reduceAdd, Nat.reduceLT, Nat.reduceLeDiff, Nat.reduceEqDiff, true_implies, false_implies, implies_true, Option.some.injEq, forall_eq', forall_eq, reduceCtorEq, brT, brF, br_s, i_10, i_01, ib_0_2, ib_1_2, tn_0, tn_1, Int32.le_refl, eq_self, rv_bN, rv_iM, RCM 81, RLY, lit_at hw, ad_2, ad_4, ad_6, ad_8, ad_10, ad_12, ad_16, ad_24, ad_27, ad_28, ad_31, ad_35, ad_43, ad_51, ad_107, ad_131, ad_311, ml_3, ml_6, ml_7, ml_60, ml_100, ml_2471, mq_12, ar_2, ar_3, ar_4, ar_5, ar_6, of_add, of_mul, on_succ, mt_0 hτ, l1, m12, m16, k16, k17, c0', i5, i4, i7, i8, i3, ol_mul, ol_add, ab, c1', c2']
            refine b223_172 ?_
            rw [on_succ]
            exact nx _ (Or.inr ⟨_, rfl⟩)
      · have c0' := iff_false_intro (fun q => z0 (c0.mp q))
        have eB : neB τ ρ p t aim (l + 1) = neB τ ρ p t aim l := if_neg (fun q => z0 q.1)
        rw [eB] at nx
        simp only [↓br_pos, ↓br_neg, ↓rF_I, ↓rF_L, ↓rF_R, ↓rF_N, rO_m, rB_m, ↓rI_m, wI_m, ↓rB2_m, ↓rB3_m, wB2_m, wB3_m, ↓rL_m, wL_m, ↓rQ_m, wQ_m, ↓lI_m, pI_m, pL_m, pR_m, sI_m, sBy_m, sBo_m, sL_m, sQ_m, fst_m, true_and, and_true, tg_some, ln_some, uI_1, uI_2, uL_1, uL_2, uL_3, uQ_1, uQ_2, uQ_3, rv_i, rv_l, rv_n, rv_b0, rv_b1, RMR, ne_eq, reduceCtorEq, not_false_eq_true, Option.getD_some, if_true, if_false, and_self, false_and, and_false, Nat.add_left_cancel_iff, Nat.add_eq_left, Nat.left_eq_add, Nat.one_ne_zero, Nat.reduceAdd, Nat.reduceLT, Nat.reduceLeDiff, Nat.reduceEqDiff, true_implies, false_implies, implies_true, Option.some.injEq, forall_eq', forall_eq, reduceCtorEq, brT, brF, br_s, i_10, i_01, ib_0_2, ib_1_2, tn_0, tn_1, Int32.le_refl, eq_self, rv_bN, rv_iM, RCM 81, RLY, lit_at hw, ad_2, ad_4, ad_6, ad_8, ad_10, ad_12, ad_16, ad_24, ad_27, ad_28, ad_31, ad_35, ad_43, ad_51, ad_107, ad_131, ad_311, ml_3, ml_6, ml_7, ml_60, ml_100, ml_2471, mq_12, ar_2, ar_3, ar_4, ar_5, ar_6, of_add, of_mul, on_succ, mt_0 hτ, l1, m12, m16, k16, k17, c0', i5, i4, i7, i8, i3, ol_mul, ol_add, ab]
        refine b223_172a ?_
        rw [on_succ]
        exact nx _ (Or.inl rfl)
    · skip
      refine b223_81a ?_
      by_cases z0 : t * τ (28 + p) ≤ ρ (12 + l)
      · have c0' := iff_true_intro (c0.mpr z0)
        by_cases z1 : (neB τ ρ p t aim l).1 = 0
        · have c1' := iff_true_intro ((neI_2 (by omega)).mpr z1)
          have eB : neB τ ρ p t aim (l + 1) = (l + 1, neF τ ρ p t aim l) := if_pos ⟨z0, Or.inl z1⟩
          rw [eB] at nx
          simp only [↓br_pos, ↓br_neg, ↓rF_I, ↓rF_L, ↓rF_R, ↓rF_N, rO_m, rB_m, ↓rI_m, wI_m, ↓rB2_m, ↓rB3_m, wB2_m, wB3_m, ↓rL_m, wL_m, ↓rQ_m, wQ_m, ↓lI_m, pI_m, pL_m, pR_m, sI_m, sBy_m, sBo_m, sL_m, sQ_m, fst_m, true_and, and_true, tg_some, ln_some, uI_1, uI_2, uL_1, uL_2, uL_3, uQ_1, uQ_2, uQ_3, rv_i, rv_l, rv_n, rv_b0, rv_b1, RMR, ne_eq, reduceCtorEq, not_false_eq_true, Option.getD_some, if_true, if_false, and_self, false_and, and_false, Nat.add_left_cancel_iff, Nat.add_eq_left, Nat.left_eq_add, Nat.one_ne_zero, Nat.reduceAdd, Nat.reduceLT, Nat.reduceLeDiff, Nat.reduceEqDiff, true_implies, false_implies, implies_true, Option.some.injEq, forall_eq', forall_eq, reduceCtorEq, brT, brF, br_s, i_10, i_01, ib_0_2, ib_1_2, tn_0, tn_1, Int32.le_refl, eq_self, rv_bN, rv_iM, RCM 81, RLY, lit_at hw, ad_2, ad_4, ad_6, ad_8, ad_10, ad_12, ad_16, ad_24, ad_27, ad_28, ad_31, ad_35, ad_43, ad_51, ad_107, ad_131, ad_311, ml_3, ml_6, ml_7, ml_60, ml_100, ml_2471, mq_12, ar_2, ar_3, ar_4, ar_5, ar_6, of_add, of_mul, on_succ, mt_0 hτ, l1, m12, m16, k16, k17, c0', i5, i4, i7, i8, i3, ol_mul, ol_add, ab, c1']
          refine b223_172 ?_
          rw [on_succ]
          exact nx _ (Or.inr ⟨_, rfl⟩)
        · have c1' := iff_false_intro (fun q => z1 ((neI_2 (by omega)).mp q))
          by_cases z2 : neF τ ρ p t aim l < (neB τ ρ p t aim l).2
          · have c2' := iff_false_intro (fun q => absurd (c2.mp q) (by omega))
            have eB : neB τ ρ p t aim (l + 1) = (l + 1, neF τ ρ p t aim l) := if_pos ⟨z0, Or.inr z2⟩
            rw [eB] at nx
            simp only [↓br_pos, ↓br_neg, ↓rF_I, ↓rF_L, ↓rF_R, ↓rF_N, rO_m, rB_m, ↓rI_m, wI_m, ↓rB2_m, ↓rB3_m, wB2_m, wB3_m, ↓rL_m, wL_m, ↓rQ_m, wQ_m, ↓lI_m, pI_m, pL_m, pR_m, sI_m, sBy_m, sBo_m, sL_m, sQ_m, fst_m, true_and, and_true, tg_some, ln_some, uI_1, uI_2, uL_1, uL_2, uL_3, uQ_1, uQ_2, uQ_3, rv_i, rv_l, rv_n, rv_b0, rv_b1, RMR, ne_eq, reduceCtorEq, not_false_eq_true, Option.getD_some, if_true, if_false, and_self, false_and, and_false, Nat.add_left_cancel_iff, Nat.add_eq_left, Nat.left_eq_add, Nat.one_ne_zero, Nat.reduceAdd, Nat.reduceLT, Nat.reduceLeDiff, Nat.reduceEqDiff, true_implies, false_implies, implies_true, Option.some.injEq, forall_eq', forall_eq, reduceCtorEq, brT, brF, br_s, i_10, i_01, ib_0_2, ib_1_2, tn_0, tn_1, Int32.le_refl, eq_self, rv_bN, rv_iM, RCM 81, RLY, lit_at hw, ad_2, ad_4, ad_6, ad_8, ad_10, ad_12, ad_16, ad_24, ad_27, ad_28, ad_31, ad_35, ad_43, ad_51, ad_107, ad_131, ad_311, ml_3, ml_6, ml_7, ml_60, ml_100, ml_2471, mq_12, ar_2, ar_3, ar_4, ar_5, ar_6, of_add, of_mul, on_succ, mt_0 hτ, l1, m12, m16, k16, k17, c0', i5, i4, i7, i8, i3, ol_mul, ol_add, ab, c1', c2']
            refine b223_172 ?_
            rw [on_succ]
            exact nx _ (Or.inr ⟨_, rfl⟩)
          · have c2' := iff_true_intro (c2.mpr (by omega))
            have eB : neB τ ρ p t aim (l + 1) = neB τ ρ p t aim l := if_neg (fun q => q.2.elim z1 z2)
            rw [eB] at nx
            simp only [↓br_pos, ↓br_neg, ↓rF_I, ↓rF_L, ↓rF_R, ↓rF_N, rO_m, rB_m, ↓rI_m, wI_m, ↓rB2_m, ↓rB3_m, wB2_m, wB3_m, ↓rL_m, wL_m, ↓rQ_m, wQ_m, ↓lI_m, pI_m, pL_m, pR_m, sI_m, sBy_m, sBo_m, sL_m, sQ_m, fst_m, true_and, and_true, tg_some, ln_some, uI_1, uI_2, uL_1, uL_2, uL_3, uQ_1, uQ_2, uQ_3, rv_i, rv_l, rv_n, rv_b0, rv_b1, RMR, ne_eq, reduceCtorEq, not_false_eq_true, Option.getD_some, if_true, if_false, and_self, false_and, and_false, Nat.add_left_cancel_iff, Nat.add_eq_left, Nat.left_eq_add, Nat.one_ne_zero, Nat.reduceAdd, Nat.reduceLT, Nat.reduceLeDiff, Nat.reduceEqDiff, true_implies, false_implies, implies_true, Option.some.injEq, forall_eq', forall_eq, reduceCtorEq, brT, brF, br_s, i_10, i_01, ib_0_2, ib_1_2, tn_0, tn_1, Int32.le_refl, eq_self, rv_bN, rv_iM, RCM 81, RLY, lit_at hw, ad_2, ad_4, ad_6, ad_8, ad_10, ad_12, ad_16, ad_24, ad_27, ad_28, ad_31, ad_35, ad_43, ad_51, ad_107, ad_131, ad_311, ml_3, ml_6, ml_7, ml_60, ml_100, ml_2471, mq_12, ar_2, ar_3, ar_4, ar_5, ar_6, of_add, of_mul, on_succ, mt_0 hτ, l1, m12, m16, k16, k17, c0', i5, i4, i7, i8, i3, ol_mul, ol_add, ab, c1', c2']
            refine b223_172 ?_
            rw [on_succ]
            exact nx _ (Or.inr ⟨_, rfl⟩)
      · have c0' := iff_false_intro (fun q => z0 (c0.mp q))
        have eB : neB τ ρ p t aim (l + 1) = neB τ ρ p t aim l := if_neg (fun q => z0 q.1)
        rw [eB] at nx
        simp only [↓br_pos, ↓br_neg, ↓rF_I, ↓rF_L, ↓rF_R, ↓rF_N, rO_m, rB_m, ↓rI_m, wI_m, ↓rB2_m, ↓rB3_m, wB2_m, wB3_m, ↓rL_m, wL_m, ↓rQ_m, wQ_m, ↓lI_m, pI_m, pL_m, pR_m, sI_m, sBy_m, sBo_m, sL_m, sQ_m, fst_m, true_and, and_true, tg_some, ln_some, uI_1, uI_2, uL_1, uL_2, uL_3, uQ_1, uQ_2, uQ_3, rv_i, rv_l, rv_n, rv_b0, rv_b1, RMR, ne_eq, reduceCtorEq, not_false_eq_true, Option.getD_some, if_true, if_false, and_self, false_and, and_false, Nat.add_left_cancel_iff, Nat.add_eq_left, Nat.left_eq_add, Nat.one_ne_zero, Nat.reduceAdd, Nat.reduceLT, Nat.reduceLeDiff, Nat.reduceEqDiff, true_implies, false_implies, implies_true, Option.some.injEq, forall_eq', forall_eq, reduceCtorEq, brT, brF, br_s, i_10, i_01, ib_0_2, ib_1_2, tn_0, tn_1, Int32.le_refl, eq_self, rv_bN, rv_iM, RCM 81, RLY, lit_at hw, ad_2, ad_4, ad_6, ad_8, ad_10, ad_12, ad_16, ad_24, ad_27, ad_28, ad_31, ad_35, ad_43, ad_51, ad_107, ad_131, ad_311, ml_3, ml_6, ml_7, ml_60, ml_100, ml_2471, mq_12, ar_2, ar_3, ar_4, ar_5, ar_6, of_add, of_mul, on_succ, mt_0 hτ, l1, m12, m16, k16, k17, c0', i5, i4, i7, i8, i3, ol_mul, ol_add, ab]
        refine b223_172 ?_
        rw [on_succ]
        exact nx _ (Or.inr ⟨_, rfl⟩)

theorem m_223z {w : mT} {σ : mS} {tp n : Nat} {t : Nat → Nat} {τ ρ : Rw} {bk : Nat → Rw} {has : Nat → Bool} {im : Nat → Rw} {p y0 aim : Int32} {D : Nat} {K : Int32 → Hp → Prop} (h : mIn w σ tp t τ ρ n bk has im) (hn1 : ¬ neP τ p y0 aim) (hD : 3 ≤ D) : wpI D 223 [.ref 81, .int p, .int y0, .int aim] (mW w σ) K ↔ K (-1) (mW w (uI σ 81 0 0)) := by
  have M := h
  obtain ⟨hw, hτ, hρ, hv, hr, hp2, htp, htb, htl, hn, hn12, hbk, him⟩ := h
  have M0 := mIn_Z M (frZ_0 (j := 0) (x := 0) (by omega))
  obtain ⟨_, hτ0, hρ0, _, _, hp20, _, htb0, _, hn0, _, hbk0, him0⟩ := M0
  have M0 := mIn_Z M (frZ_0 (j := 0) (x := 0) (by omega))
  refine cI_of (m := 2) (fun d hd Q hQ => ?_) rfl hD
  have hd1 : 1 ≤ d := by omega
  refine b223_0 ?_
  rcases bN_01 (a := p) (n := τ 1) with z | z
  · simp only [↓br_pos, ↓br_neg, ↓rF_I, ↓rF_L, ↓rF_R, ↓rF_N, rO_m, rB_m, ↓rI_m, wI_m, ↓rB2_m, ↓rB3_m, wB2_m, wB3_m, ↓rL_m, wL_m, ↓rQ_m, wQ_m, ↓lI_m, pI_m, pL_m, pR_m, sI_m, sBy_m, sBo_m, sL_m, sQ_m, fst_m, true_and, and_true, tg_some, ln_some, uI_1, uI_2, uL_1, uL_2, uL_3, uQ_1, uQ_2, uQ_3, rv_i, rv_l, rv_n, rv_b0, rv_b1, RMR, ne_eq, reduceCtorEq, not_false_eq_true, Option.getD_some, if_true, if_false, and_self, false_and, and_false, Nat.add_left_cancel_iff, Nat.add_eq_left, Nat.left_eq_add, Nat.one_ne_zero, Nat.reduceAdd, Nat.reduceLT, Nat.reduceLeDiff, Nat.reduceEqDiff, true_implies, false_implies, implies_true, Option.some.injEq, forall_eq', forall_eq, reduceCtorEq, brT, brF, br_s, i_10, i_01, ib_0_2, ib_1_2, tn_0, tn_1, Int32.le_refl, eq_self, rv_bN, rv_iM, RCM 81, RLY, lit_at hw, g_152 hw hτ0 hv hd, z, z00]
    exact hQ
  · by_cases y : 1 ≤ y0.toInt ∧ y0.toInt ≤ 99
    · have x : ¬ (0 ≤ aim.toInt ∧ aim.toInt ≤ 999) := fun q => hn1 ⟨z, y.1, y.2, q⟩
      simp only [↓br_pos, ↓br_neg, ↓rF_I, ↓rF_L, ↓rF_R, ↓rF_N, rO_m, rB_m, ↓rI_m, wI_m, ↓rB2_m, ↓rB3_m, wB2_m, wB3_m, ↓rL_m, wL_m, ↓rQ_m, wQ_m, ↓lI_m, pI_m, pL_m, pR_m, sI_m, sBy_m, sBo_m, sL_m, sQ_m, fst_m, true_and, and_true, tg_some, ln_some, uI_1, uI_2, uL_1, uL_2, uL_3, uQ_1, uQ_2, uQ_3, rv_i, rv_l, rv_n, rv_b0, rv_b1, RMR, ne_eq, reduceCtorEq, not_false_eq_true, Option.getD_some, if_true, if_false, and_self, false_and, and_false, Nat.add_left_cancel_iff, Nat.add_eq_left, Nat.left_eq_add, Nat.one_ne_zero, Nat.reduceAdd, Nat.reduceLT, Nat.reduceLeDiff, Nat.reduceEqDiff, true_implies, false_implies, implies_true, Option.some.injEq, forall_eq', forall_eq, reduceCtorEq, brT, brF, br_s, i_10, i_01, ib_0_2, ib_1_2, tn_0, tn_1, Int32.le_refl, eq_self, rv_bN, rv_iM, RCM 81, RLY, lit_at hw, g_152 hw hτ0 hv hd, z, z10, z00, g_129 hd1, vin_99, iB_t y, vin_999, iB_f x]
      exact hQ
    · simp only [↓br_pos, ↓br_neg, ↓rF_I, ↓rF_L, ↓rF_R, ↓rF_N, rO_m, rB_m, ↓rI_m, wI_m, ↓rB2_m, ↓rB3_m, wB2_m, wB3_m, ↓rL_m, wL_m, ↓rQ_m, wQ_m, ↓lI_m, pI_m, pL_m, pR_m, sI_m, sBy_m, sBo_m, sL_m, sQ_m, fst_m, true_and, and_true, tg_some, ln_some, uI_1, uI_2, uL_1, uL_2, uL_3, uQ_1, uQ_2, uQ_3, rv_i, rv_l, rv_n, rv_b0, rv_b1, RMR, ne_eq, reduceCtorEq, not_false_eq_true, Option.getD_some, if_true, if_false, and_self, false_and, and_false, Nat.add_left_cancel_iff, Nat.add_eq_left, Nat.left_eq_add, Nat.one_ne_zero, Nat.reduceAdd, Nat.reduceLT, Nat.reduceLeDiff, Nat.reduceEqDiff, true_implies, false_implies, implies_true, Option.some.injEq, forall_eq', forall_eq, reduceCtorEq, brT, brF, br_s, i_10, i_01, ib_0_2, ib_1_2, tn_0, tn_1, Int32.le_refl, eq_self, rv_bN, rv_iM, RCM 81, RLY, lit_at hw, g_152 hw hτ0 hv hd, z, z10, z00, g_129 hd1, vin_99, iB_f y]
      exact hQ
theorem m_223 {w : mT} {σ : mS} {tp n : Nat} {t : Nat → Nat} {τ ρ : Rw} {bk : Nat → Rw} {has : Nat → Bool} {im : Nat → Rw} {p y0 aim : Nat} (h : mIn w σ tp t τ ρ n bk has im) (hp : p < τ 1) (hy : 1 ≤ y0 ∧ y0 ≤ 99) (ha : aim ≤ 999) : ∃ σ', frA σ σ' ∧ mIn w σ' tp t τ ρ n bk has im ∧ ∀ {D : Nat} {K : Int32 → Hp → Prop}, 3 ≤ D → (wpI D 223 [.ref 81, .int (Int32.ofNat p), .int (Int32.ofNat y0), .int (Int32.ofNat aim)] (mW w σ) K ↔ K (neI (neB τ ρ p y0 aim (τ 0)).1) (mW w σ')) := by
  have M := h
  obtain ⟨hw, hτ, hρ, hv, hr, hp2, htp, htb, htl, hn, hn12, hbk, him⟩ := h
  have M0 := mIn_Z M (frZ_0 (j := 0) (x := 0) (by omega))
  obtain ⟨_, hτ0, hρ0, _, _, hp20, _, htb0, _, hn0, _, hbk0, him0⟩ := M0
  have M0 := mIn_Z M (frZ_0 (j := 0) (x := 0) (by omega))
  have v1 := hv.2.1
  have v2 := (hv.2.2.2.2.2.1 p hp).2
  refine ⟨su (uI σ 81 0 0) (tPi τ ρ p) (gPi τ ρ p), frZ_A uI_0s, mIn_Z M uI_0s, fun hD => cI_of (m := 2) (fun d hd Q hQ => ?_) rfl hD⟩
  have hd1 : 1 ≤ d := by omega
  have hτS := mT_c hτ0 (su_a (σ := (uI σ 81 0 0)) (T := tPi τ ρ p) (G := gPi τ ρ p) (by omega : (83 : Nat) ≠ 81))
  have hρS := mR_c hρ0 (su_a (σ := (uI σ 81 0 0)) (T := tPi τ ρ p) (G := gPi τ ρ p) (by omega : (85 : Nat) ≠ 81))
  have y : 1 ≤ (Int32.ofNat y0).toInt ∧ (Int32.ofNat y0).toInt ≤ 99 := by rw [on_int (by omega)]; omega
  have x : 0 ≤ (Int32.ofNat aim).toInt ∧ (Int32.ofNat aim).toInt ≤ 999 := by rw [on_int (by omega)]; omega
  refine b223_0 ?_
  simp only [↓br_pos, ↓br_neg, ↓rF_I, ↓rF_L, ↓rF_R, ↓rF_N, rO_m, rB_m, ↓rI_m, wI_m, ↓rB2_m, ↓rB3_m, wB2_m, wB3_m, ↓rL_m, wL_m, ↓rQ_m, wQ_m, ↓lI_m, pI_m, pL_m, pR_m, sI_m, sBy_m, sBo_m, sL_m, sQ_m, fst_m, true_and, and_true, tg_some, ln_some, uI_1, uI_2, uL_1, uL_2, uL_3, uQ_1, uQ_2, uQ_3, rv_i, rv_l, rv_n, rv_b0, rv_b1, RMR, ne_eq, reduceCtorEq, not_false_eq_true, Option.getD_some, if_true, if_false, and_self, false_and, and_false, Nat.add_left_cancel_iff, Nat.add_eq_left, Nat.left_eq_add, Nat.one_ne_zero, Nat.reduceAdd, Nat.reduceLT, Nat.reduceLeDiff, Nat.reduceEqDiff, true_implies, false_implies, implies_true, Option.some.injEq, forall_eq', forall_eq, reduceCtorEq, brT, brF, br_s, i_10, i_01, ib_0_2, ib_1_2, tn_0, tn_1, Int32.le_refl, eq_self, rv_bN, rv_iM, RCM 81, RLY, lit_at hw, ad_2, ad_4, ad_6, ad_8, ad_10, ad_12, ad_16, ad_24, ad_27, ad_28, ad_31, ad_35, ad_43, ad_51, ad_107, ad_131, ad_311, ml_3, ml_6, ml_7, ml_60, ml_100, ml_2471, mq_12, ar_2, ar_3, ar_4, ar_5, ar_6, of_add, of_mul, on_succ, g_152 hw hτ0 hv hd, bN_on hp (by omega : τ 1 < 2147483648), z10, g_129 hd1, vin_99, iB_t y, vin_999, iB_t x, mt hτ (by omega : 28 + p < 79), g_158p hw hτ0 hρ0 hv hr hp hd, mt hτS (by omega : 28 + p < 79)]
  simp only [i64_of (by omega : y0 < 2147483648), i64_of (by omega : τ (28 + p) < 2147483648), ol_mul]
  exact b223_78 (lp_223 hw hτS hρS hv hr hp hy.2 ha su_16 su_17 hQ (τ 0) 0 jk (by omega) (Or.inl rfl))
