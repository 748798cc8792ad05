/-! the model's calls: minutes, ends -/
theorem i20 : ((2 : Int32) = 0) ↔ False := by decide
theorem i21 : ((2 : Int32) = 1) ↔ False := by decide
theorem i01 : ((0 : Int32) = 1) ↔ False := by decide
theorem i11 : ((1 : Int32) = 1) ↔ True := by decide
theorem mV_c {τ ρ : Rw} {m : Nat} : (mV1 τ ρ m = 0 ∧ 0 < ρ (10 + m) ∧ kW τ ρ m = false) ∨ (mV1 τ ρ m = 1 ∧ 0 < ρ (10 + m) ∧ kW τ ρ m = true) ∨ (mV1 τ ρ m = 2 ∧ ¬ 0 < ρ (10 + m)) := by
  unfold mV1
  by_cases c : 0 < ρ (10 + m)
  · rw [if_pos c]
    by_cases y : kW τ ρ m = true
    · rw [if_pos y]; exact Or.inr (Or.inl ⟨rfl, c, y⟩)
    · rw [if_neg y]; exact Or.inl ⟨rfl, c, Bool.eq_false_iff.mpr y⟩
  · rw [if_neg c]; exact Or.inr (Or.inr ⟨rfl, c⟩)
theorem k_202 {w : mT} {σ : mS} {τ ρ : Rw} (hw : lit w) (hτ : mTold σ τ) (hρ : mRow σ 85 0 ρ) (hv : vTold τ) (hr : vRow τ ρ) : ∃ σ', frB σ σ' ∧ mRow σ' 85 0 (sMin τ ρ) ∧ ∀ {D : Nat} {K : Int32 → Hp → Prop}, 5 ≤ D → (wpI D 202 [.ref 81] (mW w σ) K ↔ K (iB (mPs τ ρ)) (mW w σ')) := by
  obtain ⟨σ1, f1, t1, e1⟩ := k_200 hw hτ hρ hv hr
  have r1 := vRow_1 (m := 1) hv hr (by omega)
  obtain ⟨σ2, f2, t2, e2⟩ := k_201 hw (mT_c hτ (f1.1 83 (by omega) (by omega))) t1 hv r1
  have t3 := mR_w (j := 1) (x := mS1 τ (mS1 τ ρ 1) 0 1 + 1) t2
  rw [Mn_eq hv hr] at t3
  refine ⟨uI σ2 85 1 (Int32.ofNat (mS1 τ (mS1 τ ρ 1) 0 1 + 1)), frB_tr f1 (frB_tr (frB_R f2) (frB_R (frR_I (by omega)))), t3, fun hD => cI_of (m := 4) (fun d hd Q hQ => ?_) rfl hD⟩
  refine b202_0 ?_
  have e10 : mS1 τ ρ 1 10 = ρ 10 := by rw [A1_eq]; exact R1_10 hv hr
  have ek : kW τ (mS1 τ ρ 1) 0 = kW τ (mR1 τ ρ) 0 := by rw [A1_eq]; rfl
  have w1 : ∀ b, (if 0 < ρ 11 then kW τ ρ 1 else false) = b → mW1 τ ρ = b := fun b q => q
  have w0 : ∀ b, (if 0 < ρ 10 then kW τ (mR1 τ ρ) 0 else false) = b → mW0 τ ρ = b := fun b q => q
  rcases mV_c (τ := τ) (ρ := ρ) (m := 1) with ⟨c1, h1, k1⟩ | ⟨c1, h1, k1⟩ | ⟨c1, h1⟩
  · have h1 : 0 < ρ 11 := h1
    have W1 := w1 false (by rw [if_pos h1]; exact k1)
    rw [iB_f (fun q => by
      rcases q.1.1 with z | z
      · rw [W1] at z; exact absurd z (by decide)
      · exact z h1)] at hQ
    simp only [↓br_pos, ↓br_neg, ↓rF_I, ↓rF_L, ↓rF_R, ↓rF_N, rO_m, rB_m, ↓rI_m, wI_m, ↓rB2_m, ↓rB3_m, wB2_m, wB3_m, ↓rL_m, wL_m, ↓rQ_m, wQ_m, ↓lI_m, pI_m, pL_m, pR_m, sI_m, sBy_m, sBo_m, sL_m, sQ_m, fst_m, true_and, and_true, tg_some, ln_some, uI_1, uI_2, uL_1, uL_2, uL_3, uQ_1, uQ_2, uQ_3, rv_i, rv_l, rv_n, rv_b0, rv_b1, RMR, ne_eq, reduceCtorEq, not_false_eq_true, Option.getD_some, if_true, if_false, and_self, false_and, and_false, Nat.add_left_cancel_iff, Nat.add_eq_left, Nat.left_eq_add, Nat.one_ne_zero, Nat.reduceAdd, Nat.reduceLT, Nat.reduceLeDiff, Nat.reduceEqDiff, true_implies, false_implies, implies_true, Option.some.injEq, forall_eq', forall_eq, reduceCtorEq, brT, brF, br_s, i_10, i_01, ib_0_2, ib_1_2, tn_0, tn_1, Int32.le_refl, eq_self, rv_bN, rv_iM, RCM 81, RLY, lit_at hw, e1 hd, e2 hd, c1, z00, mr_1l t2, on_succ]
    exact hQ
  · have h1 : 0 < ρ 11 := h1
    have W1 := w1 true (by rw [if_pos h1]; exact k1)
    rcases mV_c (τ := τ) (ρ := mS1 τ ρ 1) (m := 0) with ⟨c0, h0, k0⟩ | ⟨c0, h0, k0⟩ | ⟨c0, h0⟩
    · have h0 : 0 < mS1 τ ρ 1 10 := h0
      rw [e10] at h0
      rw [ek] at k0
      have W0 := w0 false (by rw [if_pos h0]; exact k0)
      rw [iB_f (fun q => by
        rcases q.1.2 with z | z
        · rw [W0] at z; exact absurd z (by decide)
        · exact z h0)] at hQ
      simp only [↓br_pos, ↓br_neg, ↓rF_I, ↓rF_L, ↓rF_R, ↓rF_N, rO_m, rB_m, ↓rI_m, wI_m, ↓rB2_m, ↓rB3_m, wB2_m, wB3_m, ↓rL_m, wL_m, ↓rQ_m, wQ_m, ↓lI_m, pI_m, pL_m, pR_m, sI_m, sBy_m, sBo_m, sL_m, sQ_m, fst_m, true_and, and_true, tg_some, ln_some, uI_1, uI_2, uL_1, uL_2, uL_3, uQ_1, uQ_2, uQ_3, rv_i, rv_l, rv_n, rv_b0, rv_b1, RMR, ne_eq, reduceCtorEq, not_false_eq_true, Option.getD_some, if_true, if_false, and_self, false_and, and_false, Nat.add_left_cancel_iff, Nat.add_eq_left, Nat.left_eq_add, Nat.one_ne_zero, Nat.reduceAdd, Nat.reduceLT, Nat.reduceLeDiff, Nat.reduceEqDiff, true_implies, false_implies, implies_true, Option.some.injEq, forall_eq', forall_eq, reduceCtorEq, brT, brF, br_s, i_10, i_01, ib_0_2, ib_1_2, tn_0, tn_1, Int32.le_refl, eq_self, rv_bN, rv_iM, RCM 81, RLY, lit_at hw, e1 hd, e2 hd, c1, c0, z10, z00, mr_1l t2, on_succ]
      exact hQ
    · rw [ek] at k0
      have h0 : 0 < mS1 τ ρ 1 10 := h0
      rw [e10] at h0
      have W0 := w0 true (by rw [if_pos h0]; exact k0)
      rw [iB_t ⟨⟨Or.inl W1, Or.inl W0⟩, Or.inl W1⟩] at hQ
      simp only [↓br_pos, ↓br_neg, ↓rF_I, ↓rF_L, ↓rF_R, ↓rF_N, rO_m, rB_m, ↓rI_m, wI_m, ↓rB2_m, ↓rB3_m, wB2_m, wB3_m, ↓rL_m, wL_m, ↓rQ_m, wQ_m, ↓lI_m, pI_m, pL_m, pR_m, sI_m, sBy_m, sBo_m, sL_m, sQ_m, fst_m, true_and, and_true, tg_some, ln_some, uI_1, uI_2, uL_1, uL_2, uL_3, uQ_1, uQ_2, uQ_3, rv_i, rv_l, rv_n, rv_b0, rv_b1, RMR, ne_eq, reduceCtorEq, not_false_eq_true, Option.getD_some, if_true, if_false, and_self, false_and, and_false, Nat.add_left_cancel_iff, Nat.add_eq_left, Nat.left_eq_add, Nat.one_ne_zero, Nat.reduceAdd, Nat.reduceLT, Nat.reduceLeDiff, Nat.reduceEqDiff, true_implies, false_implies, implies_true, Option.some.injEq, forall_eq', forall_eq, reduceCtorEq, brT, brF, br_s, i_10, i_01, ib_0_2, ib_1_2, tn_0, tn_1, Int32.le_refl, eq_self, rv_bN, rv_iM, RCM 81, RLY, lit_at hw, e1 hd, e2 hd, c1, c0, z10, i11, mr_1l t2, on_succ]
      exact hQ
    · have h0 : ¬ 0 < mS1 τ ρ 1 10 := h0
      rw [e10] at h0
      rw [iB_t ⟨⟨Or.inl W1, Or.inr h0⟩, Or.inl W1⟩] at hQ
      simp only [↓br_pos, ↓br_neg, ↓rF_I, ↓rF_L, ↓rF_R, ↓rF_N, rO_m, rB_m, ↓rI_m, wI_m, ↓rB2_m, ↓rB3_m, wB2_m, wB3_m, ↓rL_m, wL_m, ↓rQ_m, wQ_m, ↓lI_m, pI_m, pL_m, pR_m, sI_m, sBy_m, sBo_m, sL_m, sQ_m, fst_m, true_and, and_true, tg_some, ln_some, uI_1, uI_2, uL_1, uL_2, uL_3, uQ_1, uQ_2, uQ_3, rv_i, rv_l, rv_n, rv_b0, rv_b1, RMR, ne_eq, reduceCtorEq, not_false_eq_true, Option.getD_some, if_true, if_false, and_self, false_and, and_false, Nat.add_left_cancel_iff, Nat.add_eq_left, Nat.left_eq_add, Nat.one_ne_zero, Nat.reduceAdd, Nat.reduceLT, Nat.reduceLeDiff, Nat.reduceEqDiff, true_implies, false_implies, implies_true, Option.some.injEq, forall_eq', forall_eq, reduceCtorEq, brT, brF, br_s, i_10, i_01, ib_0_2, ib_1_2, tn_0, tn_1, Int32.le_refl, eq_self, rv_bN, rv_iM, RCM 81, RLY, lit_at hw, e1 hd, e2 hd, c1, c0, z10, i20, i11, mr_1l t2, on_succ]
      exact hQ
  · have h1 : ¬ 0 < ρ 11 := h1
    have W1 := w1 false (by rw [if_neg h1])
    rcases mV_c (τ := τ) (ρ := mS1 τ ρ 1) (m := 0) with ⟨c0, h0, k0⟩ | ⟨c0, h0, k0⟩ | ⟨c0, h0⟩
    · have h0 : 0 < mS1 τ ρ 1 10 := h0
      rw [e10] at h0
      rw [ek] at k0
      have W0 := w0 false (by rw [if_pos h0]; exact k0)
      rw [iB_f (fun q => by
        rcases q.1.2 with z | z
        · rw [W0] at z; exact absurd z (by decide)
        · exact z h0)] at hQ
      simp only [↓br_pos, ↓br_neg, ↓rF_I, ↓rF_L, ↓rF_R, ↓rF_N, rO_m, rB_m, ↓rI_m, wI_m, ↓rB2_m, ↓rB3_m, wB2_m, wB3_m, ↓rL_m, wL_m, ↓rQ_m, wQ_m, ↓lI_m, pI_m, pL_m, pR_m, sI_m, sBy_m, sBo_m, sL_m, sQ_m, fst_m, true_and, and_true, tg_some, ln_some, uI_1, uI_2, uL_1, uL_2, uL_3, uQ_1, uQ_2, uQ_3, rv_i, rv_l, rv_n, rv_b0, rv_b1, RMR, ne_eq, reduceCtorEq, not_false_eq_true, Option.getD_some, if_true, if_false, and_self, false_and, and_false, Nat.add_left_cancel_iff, Nat.add_eq_left, Nat.left_eq_add, Nat.one_ne_zero, Nat.reduceAdd, Nat.reduceLT, Nat.reduceLeDiff, Nat.reduceEqDiff, true_implies, false_implies, implies_true, Option.some.injEq, forall_eq', forall_eq, reduceCtorEq, brT, brF, br_s, i_10, i_01, ib_0_2, ib_1_2, tn_0, tn_1, Int32.le_refl, eq_self, rv_bN, rv_iM, RCM 81, RLY, lit_at hw, e1 hd, e2 hd, c1, c0, i20, z00, mr_1l t2, on_succ]
      exact hQ
    · rw [ek] at k0
      have h0 : 0 < mS1 τ ρ 1 10 := h0
      rw [e10] at h0
      have W0 := w0 true (by rw [if_pos h0]; exact k0)
      rw [iB_t ⟨⟨Or.inr h1, Or.inl W0⟩, Or.inr W0⟩] at hQ
      simp only [↓br_pos, ↓br_neg, ↓rF_I, ↓rF_L, ↓rF_R, ↓rF_N, rO_m, rB_m, ↓rI_m, wI_m, ↓rB2_m, ↓rB3_m, wB2_m, wB3_m, ↓rL_m, wL_m, ↓rQ_m, wQ_m, ↓lI_m, pI_m, pL_m, pR_m, sI_m, sBy_m, sBo_m, sL_m, sQ_m, fst_m, true_and, and_true, tg_some, ln_some, uI_1, uI_2, uL_1, uL_2, uL_3, uQ_1, uQ_2, uQ_3, rv_i, rv_l, rv_n, rv_b0, rv_b1, RMR, ne_eq, reduceCtorEq, not_false_eq_true, Option.getD_some, if_true, if_false, and_self, false_and, and_false, Nat.add_left_cancel_iff, Nat.add_eq_left, Nat.left_eq_add, Nat.one_ne_zero, Nat.reduceAdd, Nat.reduceLT, Nat.reduceLeDiff, Nat.reduceEqDiff, true_implies, false_implies, implies_true, Option.some.injEq, forall_eq', forall_eq, reduceCtorEq, brT, brF, br_s, i_10, i_01, ib_0_2, ib_1_2, tn_0, tn_1, Int32.le_refl, eq_self, rv_bN, rv_iM, RCM 81, RLY, lit_at hw, e1 hd, e2 hd, c1, c0, z10, i20, i21, i11, mr_1l t2, on_succ]
      exact hQ
    · have h0 : ¬ 0 < mS1 τ ρ 1 10 := h0
      rw [e10] at h0
      have W0 := w0 false (by rw [if_neg h0])
      rw [iB_f (fun q => by
        rcases q.2 with z | z
        · rw [W1] at z; exact absurd z (by decide)
        · rw [W0] at z; exact absurd z (by decide))] at hQ
      simp only [↓br_pos, ↓br_neg, ↓rF_I, ↓rF_L, ↓rF_R, ↓rF_N, rO_m, rB_m, ↓rI_m, wI_m, ↓rB2_m, ↓rB3_m, wB2_m, wB3_m, ↓rL_m, wL_m, ↓rQ_m, wQ_m, ↓lI_m, pI_m, pL_m, pR_m, sI_m, sBy_m, sBo_m, sL_m, sQ_m, fst_m, true_and, and_true, tg_some, ln_some, uI_1, uI_2, uL_1, uL_2, uL_3, uQ_1, uQ_2, uQ_3, rv_i, rv_l, rv_n, rv_b0, rv_b1, RMR, ne_eq, reduceCtorEq, not_false_eq_true, Option.getD_some, if_true, if_false, and_self, false_and, and_false, Nat.add_left_cancel_iff, Nat.add_eq_left, Nat.left_eq_add, Nat.one_ne_zero, Nat.reduceAdd, Nat.reduceLT, Nat.reduceLeDiff, Nat.reduceEqDiff, true_implies, false_implies, implies_true, Option.some.injEq, forall_eq', forall_eq, reduceCtorEq, brT, brF, br_s, i_10, i_01, ib_0_2, ib_1_2, tn_0, tn_1, Int32.le_refl, eq_self, rv_bN, rv_iM, RCM 81, RLY, lit_at hw, e1 hd, e2 hd, c1, c0, i20, i21, mr_1l t2, on_succ]
      exact hQ
theorem lp_203 {w : mT} {τ ρ0 : Rw} {N : Nat} (hw : lit w) (hv : vTold τ) (hr0 : vRow τ ρ0) (hN : N ≤ 200) : ∀ (r i : Nat) (σ : mS), i + r = N → mTold σ τ → mRow σ 85 0 (mnR τ ρ0 i) → ∃ σ', frB σ σ' ∧ mRow σ' 85 0 (mnR τ ρ0 N) ∧ ∀ {Q : Option (Option Value) → Hp → Prop} {d : Nat}, 5 ≤ d → Q (some (some (.int (Int32.ofNat (mnC τ ρ0 N))))) (mW w σ') → Wp 203 27 [.ref 81, .int (Int32.ofNat N), .int (Int32.ofNat (mnC τ ρ0 i)), .int (Int32.ofNat i)] [] (mW w σ) Q d := by
  intro r
  induction r with
  | zero =>
    intro i σ hi hτ hρ
    have hi' : i = N := by omega
    subst hi'
    refine ⟨σ, frB_rf, hρ, fun hd hQ => ?_⟩
    refine b203_27 ?_
    simp only [↓br_pos, ↓br_neg, ↓rF_I, ↓rF_L, ↓rF_R, ↓rF_N, rO_m, rB_m, ↓rI_m, wI_m, ↓rB2_m, ↓rB3_m, wB2_m, wB3_m, ↓rL_m, wL_m, ↓rQ_m, wQ_m, ↓lI_m, pI_m, pL_m, pR_m, sI_m, sBy_m, sBo_m, sL_m, sQ_m, fst_m, true_and, and_true, tg_some, ln_some, uI_1, uI_2, uL_1, uL_2, uL_3, uQ_1, uQ_2, uQ_3, rv_i, rv_l, rv_n, rv_b0, rv_b1, RMR, ne_eq, reduceCtorEq, not_false_eq_true, Option.getD_some, if_true, if_false, and_self, false_and, and_false, Nat.add_left_cancel_iff, Nat.add_eq_left, Nat.left_eq_add, Nat.one_ne_zero, Nat.reduceAdd, Nat.reduceLT, Nat.reduceLeDiff, Nat.reduceEqDiff, true_implies, false_implies, implies_true, Option.some.injEq, forall_eq', forall_eq, reduceCtorEq, brT, brF, br_s, i_10, i_01, ib_0_2, ib_1_2, tn_0, tn_1, Int32.le_refl, eq_self, rv_bN, rv_iM, Int32.le_refl]
    exact hQ
  | succ r ih =>
    intro i σ hi hτ hρ
    obtain ⟨σ1, f1, t1, e1⟩ := k_202 hw hτ hρ hv (vRow_mn hv hr0 i)
    obtain ⟨σ2, f2, t2, e2⟩ := ih (i + 1) σ1 (by omega) (mT_c hτ (f1.1 83 (by omega) (by omega))) t1
    refine ⟨σ2, frB_tr f1 f2, t2, fun hd hQ => ?_⟩
    have l1 : (Int32.ofNat N ≤ Int32.ofNat i) ↔ False := iff_false_intro (fun q => absurd ((on_le (by omega) (by omega)).mp q) (by omega))
    have fin := e2 hd hQ
    have ec : mnC τ ρ0 (i + 1) = mnC τ ρ0 i + (if mPs τ (mnR τ ρ0 i) then 1 else 0) := rfl
    rw [ec] at fin
    refine b203_27 ?_
    by_cases y : mPs τ (mnR τ ρ0 i)
    · rw [if_pos y] at fin
      simp only [↓br_pos, ↓br_neg, ↓rF_I, ↓rF_L, ↓rF_R, ↓rF_N, rO_m, rB_m, ↓rI_m, wI_m, ↓rB2_m, ↓rB3_m, wB2_m, wB3_m, ↓rL_m, wL_m, ↓rQ_m, wQ_m, ↓lI_m, pI_m, pL_m, pR_m, sI_m, sBy_m, sBo_m, sL_m, sQ_m, fst_m, true_and, and_true, tg_some, ln_some, uI_1, uI_2, uL_1, uL_2, uL_3, uQ_1, uQ_2, uQ_3, rv_i, rv_l, rv_n, rv_b0, rv_b1, RMR, ne_eq, reduceCtorEq, not_false_eq_true, Option.getD_some, if_true, if_false, and_self, false_and, and_false, Nat.add_left_cancel_iff, Nat.add_eq_left, Nat.left_eq_add, Nat.one_ne_zero, Nat.reduceAdd, Nat.reduceLT, Nat.reduceLeDiff, Nat.reduceEqDiff, true_implies, false_implies, implies_true, Option.some.injEq, forall_eq', forall_eq, reduceCtorEq, brT, brF, br_s, i_10, i_01, ib_0_2, ib_1_2, tn_0, tn_1, Int32.le_refl, eq_self, rv_bN, rv_iM, RCM 81, RLY, lit_at hw, l1, e1 hd, iB_t y, z10, on_succ]
      exact fin
    · rw [if_neg y, Nat.add_zero] at fin
      have a0 : Int32.ofNat (mnC τ ρ0 i) + (0 : Int32) = Int32.ofNat (mnC τ ρ0 i) := Int32.add_zero _
      simp only [↓br_pos, ↓br_neg, ↓rF_I, ↓rF_L, ↓rF_R, ↓rF_N, rO_m, rB_m, ↓rI_m, wI_m, ↓rB2_m, ↓rB3_m, wB2_m, wB3_m, ↓rL_m, wL_m, ↓rQ_m, wQ_m, ↓lI_m, pI_m, pL_m, pR_m, sI_m, sBy_m, sBo_m, sL_m, sQ_m, fst_m, true_and, and_true, tg_some, ln_some, uI_1, uI_2, uL_1, uL_2, uL_3, uQ_1, uQ_2, uQ_3, rv_i, rv_l, rv_n, rv_b0, rv_b1, RMR, ne_eq, reduceCtorEq, not_false_eq_true, Option.getD_some, if_true, if_false, and_self, false_and, and_false, Nat.add_left_cancel_iff, Nat.add_eq_left, Nat.left_eq_add, Nat.one_ne_zero, Nat.reduceAdd, Nat.reduceLT, Nat.reduceLeDiff, Nat.reduceEqDiff, true_implies, false_implies, implies_true, Option.some.injEq, forall_eq', forall_eq, reduceCtorEq, brT, brF, br_s, i_10, i_01, ib_0_2, ib_1_2, tn_0, tn_1, Int32.le_refl, eq_self, rv_bN, rv_iM, RCM 81, RLY, lit_at hw, l1, e1 hd, iB_f y, z00, a0, on_succ]
      exact fin
theorem m_203z {w : mT} {σ : mS} {tp n : Nat} {t : Nat → Nat} {τ ρ : Rw} {bk : Nat → Rw} {has : Nat → Bool} {im : Nat → Rw} {a : Int32} {D : Nat} {K : Int32 → Hp → Prop} (h : mIn w σ tp t τ ρ n bk has im) (ha : ¬ (1 ≤ a.toInt ∧ a.toInt ≤ 200)) (hD : 6 ≤ D) : wpI D 203 [.ref 81, .int a] (mW w σ) K ↔ K (-1) (mW w (uI σ 81 0 0)) := by
  have M := h
  obtain ⟨hw, hτ, hρ, hv, hr, hp2, htp, htb, htl, hn, hn12, hbk, him⟩ := h
  have M0 := mIn_Z M (frZ_0 (j := 0) (x := 0) (by omega))
  obtain ⟨_, hτ0, hρ0, _, _, hp20, _, htb0, _, hn0, _, hbk0, him0⟩ := M0
  have M0 := mIn_Z M (frZ_0 (j := 0) (x := 0) (by omega))
  refine cI_of (m := 5) (fun d hd Q hQ => ?_) rfl hD
  have hd1 : 1 ≤ d := by omega
  refine b203_0 ?_
  simp only [↓br_pos, ↓br_neg, ↓rF_I, ↓rF_L, ↓rF_R, ↓rF_N, rO_m, rB_m, ↓rI_m, wI_m, ↓rB2_m, ↓rB3_m, wB2_m, wB3_m, ↓rL_m, wL_m, ↓rQ_m, wQ_m, ↓lI_m, pI_m, pL_m, pR_m, sI_m, sBy_m, sBo_m, sL_m, sQ_m, fst_m, true_and, and_true, tg_some, ln_some, uI_1, uI_2, uL_1, uL_2, uL_3, uQ_1, uQ_2, uQ_3, rv_i, rv_l, rv_n, rv_b0, rv_b1, RMR, ne_eq, reduceCtorEq, not_false_eq_true, Option.getD_some, if_true, if_false, and_self, false_and, and_false, Nat.add_left_cancel_iff, Nat.add_eq_left, Nat.left_eq_add, Nat.one_ne_zero, Nat.reduceAdd, Nat.reduceLT, Nat.reduceLeDiff, Nat.reduceEqDiff, true_implies, false_implies, implies_true, Option.some.injEq, forall_eq', forall_eq, reduceCtorEq, brT, brF, br_s, i_10, i_01, ib_0_2, ib_1_2, tn_0, tn_1, Int32.le_refl, eq_self, rv_bN, rv_iM, RCM 81, RLY, lit_at hw, g_129 hd1, vin_200, iB_f ha, z00]
  exact hQ
theorem m_203 {w : mT} {σ : mS} {tp n : Nat} {t : Nat → Nat} {τ ρ : Rw} {bk : Nat → Rw} {has : Nat → Bool} {im : Nat → Rw} {N : Nat} (h : mIn w σ tp t τ ρ n bk has im) (hN : 1 ≤ N ∧ N ≤ 200) : ∃ σ', frA σ σ' ∧ mIn w σ' tp t τ (mnR τ ρ N) (nPh n) (bkPh n bk ρ) has im ∧ ∀ {D : Nat} {K : Int32 → Hp → Prop}, 6 ≤ D → (wpI D 203 [.ref 81, .int (Int32.ofNat N)] (mW w σ) K ↔ K (Int32.ofNat (mnC τ ρ N)) (mW w σ')) := by
  have M := h
  obtain ⟨hw, hτ, hρ, hv, hr, hp2, htp, htb, htl, hn, hn12, hbk, him⟩ := h
  have M0 := mIn_Z M (frZ_0 (j := 0) (x := 0) (by omega))
  obtain ⟨_, hτ0, hρ0, _, _, hp20, _, htb0, _, hn0, _, hbk0, him0⟩ := M0
  have M0 := mIn_Z M (frZ_0 (j := 0) (x := 0) (by omega))
  obtain ⟨σ1, f1, M1, k1⟩ := k_177 M0
  have hρ1 := M1.2.2.1
  have hτ1 := M1.2.1
  have F1 := frA_tr (frA_I (σ := σ) (a := 81) (j := 0) (x := 0) (by omega)) f1
  obtain ⟨σ2, f2, t2, e2⟩ := lp_203 (N := N) hw hv hr hN.2 N 0 σ1 (by omega) hτ1 hρ1
  refine ⟨σ2, frA_tr F1 (frB_A f2), mIn_B M1 f2 t2 (vRow_mn hv hr N), fun hD => cI_of (m := 5) (fun d hd Q hQ => ?_) rfl hD⟩
  have hd1 : 1 ≤ d := by omega
  have hd2 : 2 ≤ d := by omega
  have c1 : 1 ≤ (Int32.ofNat N).toInt ∧ (Int32.ofNat N).toInt ≤ 200 := by rw [on_int (by omega)]; omega
  refine b203_0 ?_
  simp only [↓br_pos, ↓br_neg, ↓rF_I, ↓rF_L, ↓rF_R, ↓rF_N, rO_m, rB_m, ↓rI_m, wI_m, ↓rB2_m, ↓rB3_m, wB2_m, wB3_m, ↓rL_m, wL_m, ↓rQ_m, wQ_m, ↓lI_m, pI_m, pL_m, pR_m, sI_m, sBy_m, sBo_m, sL_m, sQ_m, fst_m, true_and, and_true, tg_some, ln_some, uI_1, uI_2, uL_1, uL_2, uL_3, uQ_1, uQ_2, uQ_3, rv_i, rv_l, rv_n, rv_b0, rv_b1, RMR, ne_eq, reduceCtorEq, not_false_eq_true, Option.getD_some, if_true, if_false, and_self, false_and, and_false, Nat.add_left_cancel_iff, Nat.add_eq_left, Nat.left_eq_add, Nat.one_ne_zero, Nat.reduceAdd, Nat.reduceLT, Nat.reduceLeDiff, Nat.reduceEqDiff, true_implies, false_implies, implies_true, Option.some.injEq, forall_eq', forall_eq, reduceCtorEq, brT, brF, br_s, i_10, i_01, ib_0_2, ib_1_2, tn_0, tn_1, Int32.le_refl, eq_self, rv_bN, rv_iM, RCM 81, RLY, lit_at hw, g_129 hd1, vin_200, iB_t c1, z10, k1 hd2]
  exact e2 hd hQ
theorem lp_204 {w : mT} {τ ρ0 : Rw} (hw : lit w) (hv : vTold τ) : ∀ (k i : Nat) (σ : mS) (ρ : Rw), i + k = 500 → mTold σ τ → mRow σ 85 0 ρ → vRow τ ρ → mRow σ 89 0 ρ0 → ∃ σ', frB σ σ' ∧ mRow σ' 85 0 ρ0 ∧ ∀ {Q : Option (Option Value) → Hp → Prop} {d : Nat}, 5 ≤ d → Q (some (some (.int (enN τ k i ρ)))) (mW w σ') → Wp 204 20 [.ref 81, .int (Int32.ofNat i), jk] [] (mW w σ) Q d := by
  have fr9 : ∀ σ : mS, frB σ (cpG σ 89 0 85 0 2471) := fun σ => ⟨fun a _ r => cpG_o r, fun j _ _ => by rw [cpG_o (by omega)], rfl⟩
  intro k
  induction k with
  | zero =>
    intro i σ ρ hi hτ hρ hr h9
    have hi' : i = 500 := by omega
    subst hi'
    have c8 := vR_c0 hr
    have c9 := vR_c1 hr
    refine ⟨cpG σ 89 0 85 0 2471, fr9 σ, cpG_r h9, fun hd hQ => ?_⟩
    have hd1 := Nat.le_trans (by omega : 1 ≤ 5) hd
    have l1 : ((500 : Int32) ≤ Int32.ofNat 500) ↔ True := by decide
    refine b204_20 ?_
    have eE : enN τ 0 500 ρ = if 0 < ρ 10 ∨ 0 < ρ 11 then -2 else 500 := rfl
    rw [eE] at hQ
    by_cases y : 0 < ρ 10 ∨ 0 < ρ 11
    · rw [if_pos y] at hQ
      have c1 : (Int32.ofNat (ρ 10 + ρ 11) ≤ 0) ↔ False := iff_false_intro (fun q => by have := (of_le0 (by omega)).mp q; omega)
      simp only [↓br_pos, ↓br_neg, ↓rF_I, ↓rF_L, ↓rF_R, ↓rF_N, rO_m, rB_m, ↓rI_m, wI_m, ↓rB2_m, ↓rB3_m, wB2_m, wB3_m, ↓rL_m, wL_m, ↓rQ_m, wQ_m, ↓lI_m, pI_m, pL_m, pR_m, sI_m, sBy_m, sBo_m, sL_m, sQ_m, fst_m, true_and, and_true, tg_some, ln_some, uI_1, uI_2, uL_1, uL_2, uL_3, uQ_1, uQ_2, uQ_3, rv_i, rv_l, rv_n, rv_b0, rv_b1, RMR, ne_eq, reduceCtorEq, not_false_eq_true, Option.getD_some, if_true, if_false, and_self, false_and, and_false, Nat.add_left_cancel_iff, Nat.add_eq_left, Nat.left_eq_add, Nat.one_ne_zero, Nat.reduceAdd, Nat.reduceLT, Nat.reduceLeDiff, Nat.reduceEqDiff, true_implies, false_implies, implies_true, Option.some.injEq, forall_eq', forall_eq, reduceCtorEq, brT, brF, br_s, i_10, i_01, ib_0_2, ib_1_2, tn_0, tn_1, Int32.le_refl, eq_self, rv_bN, rv_iM, RCM 81, RLY, lit_at hw, ad_2, ad_4, ad_6, ad_8, ad_10, ad_12, ad_16, ad_24, ad_27, ad_28, ad_31, ad_35, ad_43, ad_51, ad_107, ad_131, ad_311, ml_3, ml_6, ml_7, ml_60, ml_100, ml_2471, mq_12, ar_2, ar_3, ar_4, ar_5, ar_6, of_add, of_mul, on_succ, l1, mr_10l hρ, mr_11l hρ, c1, g_149' (σ := σ) (oa := 0) (ob := 0) (x := 0) (y := 0) (a89 hw) (a85 hw) rfl rfl (by omega) hd1, z10]
      exact hQ
    · rw [if_neg y] at hQ
      have c1 : (Int32.ofNat (ρ 10 + ρ 11) ≤ 0) ↔ True := iff_true_intro ((of_le0 (by omega)).mpr (by omega))
      simp only [↓br_pos, ↓br_neg, ↓rF_I, ↓rF_L, ↓rF_R, ↓rF_N, rO_m, rB_m, ↓rI_m, wI_m, ↓rB2_m, ↓rB3_m, wB2_m, wB3_m, ↓rL_m, wL_m, ↓rQ_m, wQ_m, ↓lI_m, pI_m, pL_m, pR_m, sI_m, sBy_m, sBo_m, sL_m, sQ_m, fst_m, true_and, and_true, tg_some, ln_some, uI_1, uI_2, uL_1, uL_2, uL_3, uQ_1, uQ_2, uQ_3, rv_i, rv_l, rv_n, rv_b0, rv_b1, RMR, ne_eq, reduceCtorEq, not_false_eq_true, Option.getD_some, if_true, if_false, and_self, false_and, and_false, Nat.add_left_cancel_iff, Nat.add_eq_left, Nat.left_eq_add, Nat.one_ne_zero, Nat.reduceAdd, Nat.reduceLT, Nat.reduceLeDiff, Nat.reduceEqDiff, true_implies, false_implies, implies_true, Option.some.injEq, forall_eq', forall_eq, reduceCtorEq, brT, brF, br_s, i_10, i_01, ib_0_2, ib_1_2, tn_0, tn_1, Int32.le_refl, eq_self, rv_bN, rv_iM, RCM 81, RLY, lit_at hw, ad_2, ad_4, ad_6, ad_8, ad_10, ad_12, ad_16, ad_24, ad_27, ad_28, ad_31, ad_35, ad_43, ad_51, ad_107, ad_131, ad_311, ml_3, ml_6, ml_7, ml_60, ml_100, ml_2471, mq_12, ar_2, ar_3, ar_4, ar_5, ar_6, of_add, of_mul, on_succ, l1, mr_10l hρ, mr_11l hρ, c1, g_149' (σ := σ) (oa := 0) (ob := 0) (x := 0) (y := 0) (a89 hw) (a85 hw) rfl rfl (by omega) hd1, z00]
      exact hQ
  | succ k ih =>
    intro i σ ρ hi hτ hρ hr h9
    have c8 := vR_c0 hr
    have c9 := vR_c1 hr
    have l1 : ((500 : Int32) ≤ Int32.ofNat i) ↔ False := iff_false_intro (fun q => absurd ((on_le (i := 500) (by omega) (by omega)).mp q) (by omega))
    have eE : enN τ (k + 1) i ρ = if 0 < ρ 10 ∨ 0 < ρ 11 then enN τ k (i + 1) (sMin τ ρ) else Int32.ofNat i := rfl
    rw [eE]
    by_cases y : 0 < ρ 10 ∨ 0 < ρ 11
    · rw [if_pos y]
      have c1 : (Int32.ofNat (ρ 10 + ρ 11) ≤ 0) ↔ False := iff_false_intro (fun q => by have := (of_le0 (by omega)).mp q; omega)
      obtain ⟨σ1, f1, t1, e1⟩ := k_202 hw hτ hρ hv hr
      obtain ⟨σ2, f2, t2, e2⟩ := ih (i + 1) σ1 (sMin τ ρ) (by omega) (mT_c hτ (f1.1 83 (by omega) (by omega))) t1 (vRow_mn hv hr 1) (mR_c h9 (f1.1 89 (by omega) (by omega)))
      refine ⟨σ2, frB_tr f1 f2, t2, fun hd hQ => ?_⟩
      refine b204_20 ?_
      simp only [↓br_pos, ↓br_neg, ↓rF_I, ↓rF_L, ↓rF_R, ↓rF_N, rO_m, rB_m, ↓rI_m, wI_m, ↓rB2_m, ↓rB3_m, wB2_m, wB3_m, ↓rL_m, wL_m, ↓rQ_m, wQ_m, ↓lI_m, pI_m, pL_m, pR_m, sI_m, sBy_m, sBo_m, sL_m, sQ_m, fst_m, true_and, and_true, tg_some, ln_some, uI_1, uI_2, uL_1, uL_2, uL_3, uQ_1, uQ_2, uQ_3, rv_i, rv_l, rv_n, rv_b0, rv_b1, RMR, ne_eq, reduceCtorEq, not_false_eq_true, Option.getD_some, if_true, if_false, and_self, false_and, and_false, Nat.add_left_cancel_iff, Nat.add_eq_left, Nat.left_eq_add, Nat.one_ne_zero, Nat.reduceAdd, Nat.reduceLT, Nat.reduceLeDiff, Nat.reduceEqDiff, true_implies, false_implies, implies_true, Option.some.injEq, forall_eq', forall_eq, reduceCtorEq, brT, brF, br_s, i_10, i_01, ib_0_2, ib_1_2, tn_0, tn_1, Int32.le_refl, eq_self, rv_bN, rv_iM, RCM 81, RLY, lit_at hw, ad_2, ad_4, ad_6, ad_8, ad_10, ad_12, ad_16, ad_24, ad_27, ad_28, ad_31, ad_35, ad_43, ad_51, ad_107, ad_131, ad_311, ml_3, ml_6, ml_7, ml_60, ml_100, ml_2471, mq_12, ar_2, ar_3, ar_4, ar_5, ar_6, of_add, of_mul, on_succ, l1, mr_10l hρ, mr_11l hρ, c1, e1 hd]
      exact e2 hd hQ
    · rw [if_neg y]
      have c1 : (Int32.ofNat (ρ 10 + ρ 11) ≤ 0) ↔ True := iff_true_intro ((of_le0 (by omega)).mpr (by omega))
      refine ⟨cpG σ 89 0 85 0 2471, fr9 σ, cpG_r h9, fun hd hQ => ?_⟩
      have hd1 := Nat.le_trans (by omega : 1 ≤ 5) hd
      refine b204_20 ?_
      simp only [↓br_pos, ↓br_neg, ↓rF_I, ↓rF_L, ↓rF_R, ↓rF_N, rO_m, rB_m, ↓rI_m, wI_m, ↓rB2_m, ↓rB3_m, wB2_m, wB3_m, ↓rL_m, wL_m, ↓rQ_m, wQ_m, ↓lI_m, pI_m, pL_m, pR_m, sI_m, sBy_m, sBo_m, sL_m, sQ_m, fst_m, true_and, and_true, tg_some, ln_some, uI_1, uI_2, uL_1, uL_2, uL_3, uQ_1, uQ_2, uQ_3, rv_i, rv_l, rv_n, rv_b0, rv_b1, RMR, ne_eq, reduceCtorEq, not_false_eq_true, Option.getD_some, if_true, if_false, and_self, false_and, and_false, Nat.add_left_cancel_iff, Nat.add_eq_left, Nat.left_eq_add, Nat.one_ne_zero, Nat.reduceAdd, Nat.reduceLT, Nat.reduceLeDiff, Nat.reduceEqDiff, true_implies, false_implies, implies_true, Option.some.injEq, forall_eq', forall_eq, reduceCtorEq, brT, brF, br_s, i_10, i_01, ib_0_2, ib_1_2, tn_0, tn_1, Int32.le_refl, eq_self, rv_bN, rv_iM, RCM 81, RLY, lit_at hw, ad_2, ad_4, ad_6, ad_8, ad_10, ad_12, ad_16, ad_24, ad_27, ad_28, ad_31, ad_35, ad_43, ad_51, ad_107, ad_131, ad_311, ml_3, ml_6, ml_7, ml_60, ml_100, ml_2471, mq_12, ar_2, ar_3, ar_4, ar_5, ar_6, of_add, of_mul, on_succ, l1, mr_10l hρ, mr_11l hρ, c1, g_149' (σ := σ) (oa := 0) (ob := 0) (x := 0) (y := 0) (a89 hw) (a85 hw) rfl rfl (by omega) hd1, z00]
      exact hQ
theorem m_204 {w : mT} {σ : mS} {tp n : Nat} {t : Nat → Nat} {τ ρ : Rw} {bk : Nat → Rw} {has : Nat → Bool} {im : Nat → Rw}  (h : mIn w σ tp t τ ρ n bk has im) : ∃ σ', frA σ σ' ∧ mIn w σ' tp t τ ρ n bk has im ∧ ∀ {D : Nat} {K : Int32 → Hp → Prop}, 6 ≤ D → (wpI D 204 [.ref 81] (mW w σ) K ↔ K (enN τ 500 0 ρ) (mW w σ')) := by
  have M := h
  obtain ⟨hw, hτ, hρ, hv, hr, hp2, htp, htb, htl, hn, hn12, hbk, him⟩ := h
  have M0 := mIn_Z M (frZ_0 (j := 0) (x := 0) (by omega))
  obtain ⟨_, hτ0, hρ0, _, _, hp20, _, htb0, _, hn0, _, hbk0, him0⟩ := M0
  have M0 := mIn_Z M (frZ_0 (j := 0) (x := 0) (by omega))
  have e : ∀ c, c ≠ 89 → (cpG (uI σ 81 0 0) 85 0 89 0 2471).1 c = (uI σ 81 0 0).1 c := fun c q => cpG_o q
  have M1 : mIn w (cpG (uI σ 81 0 0) 85 0 89 0 2471) tp t τ ρ n bk has im := by
    refine ⟨hw, mT_c hτ0 (e 83 (by omega)), mR_c hρ0 (e 85 (by omega)), hv, hr, by rw [e 81 (by omega)]; exact hp20, htp, fun i hi => by rw [e 82 (by omega)]; exact htb0 i hi, htl, by rw [e 81 (by omega)]; exact hn0, hn12, fun i hi => ⟨mR_c (hbk0 i hi).1 (e 86 (by omega)), (hbk0 i hi).2⟩, fun k hk => ?_⟩
    obtain ⟨a, b⟩ := him0 k hk
    exact ⟨by rw [e 87 (by omega)]; exact a, fun q => ⟨mR_c (b q).1 (e 88 (by omega)), (b q).2⟩⟩
  obtain ⟨σ2, f2, t2, e2⟩ := lp_204 hw hv 500 0 _ ρ (by omega) M1.2.1 M1.2.2.1 hr (cpG_r hρ0)
  refine ⟨σ2, frA_tr (frA_I (a := 81) (j := 0) (x := 0) (by omega)) (frA_tr (frA_G (by omega)) (frB_A f2)), mIn_B M1 f2 t2 hr, fun hD => cI_of (m := 5) (fun d hd Q hQ => ?_) rfl hD⟩
  have hd1 : 1 ≤ d := by omega
  refine b204_0 ?_
  simp only [↓br_pos, ↓br_neg, ↓rF_I, ↓rF_L, ↓rF_R, ↓rF_N, rO_m, rB_m, ↓rI_m, wI_m, ↓rB2_m, ↓rB3_m, wB2_m, wB3_m, ↓rL_m, wL_m, ↓rQ_m, wQ_m, ↓lI_m, pI_m, pL_m, pR_m, sI_m, sBy_m, sBo_m, sL_m, sQ_m, fst_m, true_and, and_true, tg_some, ln_some, uI_1, uI_2, uL_1, uL_2, uL_3, uQ_1, uQ_2, uQ_3, rv_i, rv_l, rv_n, rv_b0, rv_b1, RMR, ne_eq, reduceCtorEq, not_false_eq_true, Option.getD_some, if_true, if_false, and_self, false_and, and_false, Nat.add_left_cancel_iff, Nat.add_eq_left, Nat.left_eq_add, Nat.one_ne_zero, Nat.reduceAdd, Nat.reduceLT, Nat.reduceLeDiff, Nat.reduceEqDiff, true_implies, false_implies, implies_true, Option.some.injEq, forall_eq', forall_eq, reduceCtorEq, brT, brF, br_s, i_10, i_01, ib_0_2, ib_1_2, tn_0, tn_1, Int32.le_refl, eq_self, rv_bN, rv_iM, RCM 81, RLY, lit_at hw, g_149' (σ := (uI σ 81 0 0)) (oa := 0) (ob := 0) (x := 0) (y := 0) (a85 hw) (a89 hw) rfl rfl (by omega) hd1]
  exact e2 hd hQ
