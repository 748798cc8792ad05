/-! the model's calls: fewest, order, ready, cost: they are safe -/
theorem nb0 : vp_nar .boolean (0 : Int32) = 0 := by decide
theorem g_228 {w : mT} {σ : mS} {τ ρ : Rw} {s : Nat} {D : Nat} {K : Int32 → Hp → Prop} (hw : lit w) (hρ : mRow σ 85 0 ρ) (hr : vRow τ ρ) (hs : s < τ 2) (hs8 : s < 8) (hD : 1 ≤ D) : wpI D 228 [.ref 81, .int (Int32.ofNat s)] (mW w σ) K ↔ K (iB (ρ (43 + s) = 0)) (mW w σ) := by
  refine cI_of (m := 0) (fun d hd Q hQ => ?_) rfl hD
  have rs := vR_sa hr s hs
  refine b228_0 ?_
  by_cases z : ρ (43 + s) = 0
  · have c : (Int32.ofNat (ρ (43 + s)) = 0) ↔ True := iff_true_intro (by rw [z]; rfl)
    rw [iB_t z] at hQ
    simp only [↓br_pos, ↓br_neg, ↓rF_I, ↓rF_L, ↓rF_R, ↓rF_N, rO_m, rB_m, ↓rI_m, wI_m, ↓rB2_m, ↓rB3_m, wB2_m, wB3_m, ↓rL_m, wL_m, ↓rQ_m, wQ_m, ↓lI_m, pI_m, pL_m, pR_m, sI_m, sBy_m, sBo_m, sL_m, sQ_m, fst_m, true_and, and_true, tg_some, ln_some, uI_1, uI_2, uL_1, uL_2, uL_3, uQ_1, uQ_2, uQ_3, rv_i, rv_l, rv_n, rv_b0, rv_b1, RMR, ne_eq, reduceCtorEq, not_false_eq_true, Option.getD_some, if_true, if_false, and_self, false_and, and_false, Nat.add_left_cancel_iff, Nat.add_eq_left, Nat.left_eq_add, Nat.one_ne_zero, Nat.reduceAdd, Nat.reduceLT, Nat.reduceLeDiff, Nat.reduceEqDiff, true_implies, false_implies, implies_true, Option.some.injEq, forall_eq', forall_eq, reduceCtorEq, brT, brF, br_s, i_10, i_01, ib_0_2, ib_1_2, tn_0, tn_1, Int32.le_refl, eq_self, rv_bN, rv_iM, RCM 81, RLY, lit_at hw, ad_2, ad_4, ad_6, ad_8, ad_10, ad_12, ad_16, ad_24, ad_27, ad_28, ad_31, ad_35, ad_43, ad_51, ad_107, ad_131, ad_311, ml_3, ml_6, ml_7, ml_60, ml_100, ml_2471, mq_12, ar_2, ar_3, ar_4, ar_5, ar_6, of_add, of_mul, on_succ, mr hρ (by omega : 43 + s < 2471), c]
    exact hQ
  · have c : (Int32.ofNat (ρ (43 + s)) = 0) ↔ False := iff_false_intro (fun q => z ((of_eq0 (by omega)).mp q))
    rw [iB_f z] at hQ
    simp only [↓br_pos, ↓br_neg, ↓rF_I, ↓rF_L, ↓rF_R, ↓rF_N, rO_m, rB_m, ↓rI_m, wI_m, ↓rB2_m, ↓rB3_m, wB2_m, wB3_m, ↓rL_m, wL_m, ↓rQ_m, wQ_m, ↓lI_m, pI_m, pL_m, pR_m, sI_m, sBy_m, sBo_m, sL_m, sQ_m, fst_m, true_and, and_true, tg_some, ln_some, uI_1, uI_2, uL_1, uL_2, uL_3, uQ_1, uQ_2, uQ_3, rv_i, rv_l, rv_n, rv_b0, rv_b1, RMR, ne_eq, reduceCtorEq, not_false_eq_true, Option.getD_some, if_true, if_false, and_self, false_and, and_false, Nat.add_left_cancel_iff, Nat.add_eq_left, Nat.left_eq_add, Nat.one_ne_zero, Nat.reduceAdd, Nat.reduceLT, Nat.reduceLeDiff, Nat.reduceEqDiff, true_implies, false_implies, implies_true, Option.some.injEq, forall_eq', forall_eq, reduceCtorEq, brT, brF, br_s, i_10, i_01, ib_0_2, ib_1_2, tn_0, tn_1, Int32.le_refl, eq_self, rv_bN, rv_iM, RCM 81, RLY, lit_at hw, ad_2, ad_4, ad_6, ad_8, ad_10, ad_12, ad_16, ad_24, ad_27, ad_28, ad_31, ad_35, ad_43, ad_51, ad_107, ad_131, ad_311, ml_3, ml_6, ml_7, ml_60, ml_100, ml_2471, mq_12, ar_2, ar_3, ar_4, ar_5, ar_6, of_add, of_mul, on_succ, mr hρ (by omega : 43 + s < 2471), c]
    exact hQ
theorem lp_229 {w : mT} {σ : mS} {τ ρ : Rw} {d : Nat} {Q : Option (Option Value) → Hp → Prop} (hw : lit w) (hτ : mTold σ τ) (hρ : mRow σ 85 0 ρ) (hv : vTold τ) (hr : vRow τ ρ) (hd : 1 ≤ d) (h1 : Q (some (some (.int (-1)))) (mW w σ)) (h2 : ∀ s, s < τ 2 → σ.1 96 s = 0 → Q (some (some (.int (Int32.ofNat s)))) (mW w σ)) : ∀ (r i : Nat) (a1 : Int32), i + r = τ 2 → (a1 = -1 ∨ ∃ s, s < τ 2 ∧ σ.1 96 s = 0 ∧ a1 = Int32.ofNat s) → Wp 229 4 [.ref 81, .int a1, .int (Int32.ofNat i)] [] (mW w σ) Q d := by
  have v2 := hv.2.2.1
  intro r
  induction r with
  | zero =>
    intro i a1 hi ha
    have hi' : i = τ 2 := by omega
    subst hi'
    refine b229_4 ?_
    simp only [↓br_pos, ↓br_neg, ↓rF_I, ↓rF_L, ↓rF_R, ↓rF_N, rO_m, rB_m, ↓rI_m, wI_m, ↓rB2_m, ↓rB3_m, wB2_m, wB3_m, ↓rL_m, wL_m, ↓rQ_m, wQ_m, ↓lI_m, pI_m, pL_m, pR_m, sI_m, sBy_m, sBo_m, sL_m, sQ_m, fst_m, true_and, and_true, tg_some, ln_some, uI_1, uI_2, uL_1, uL_2, uL_3, uQ_1, uQ_2, uQ_3, rv_i, rv_l, rv_n, rv_b0, rv_b1, RMR, ne_eq, reduceCtorEq, not_false_eq_true, Option.getD_some, if_true, if_false, and_self, false_and, and_false, Nat.add_left_cancel_iff, Nat.add_eq_left, Nat.left_eq_add, Nat.one_ne_zero, Nat.reduceAdd, Nat.reduceLT, Nat.reduceLeDiff, Nat.reduceEqDiff, true_implies, false_implies, implies_true, Option.some.injEq, forall_eq', forall_eq, reduceCtorEq, brT, brF, br_s, i_10, i_01, ib_0_2, ib_1_2, tn_0, tn_1, Int32.le_refl, eq_self, rv_bN, rv_iM, RCM 81, RLY, lit_at hw, mt_2 hτ, Int32.le_refl]
    rcases ha with rfl | ⟨s, hs, ht, rfl⟩
    · exact h1
    · exact h2 s hs ht
  | succ r ih =>
    intro i a1 hi ha
    have l1 : (Int32.ofNat (τ 2) ≤ Int32.ofNat i) ↔ False := iff_false_intro (fun q => absurd ((on_le (by omega) (by omega)).mp q) (by omega))
    have nx := ih (i + 1) a1 (by omega) ha
    have g8 := fun {K : Int32 → Hp → Prop} => g_228 (K := K) hw hρ hr (by omega : i < τ 2) (by omega : i < 8) hd
    refine b229_4 ?_
    by_cases z : ρ (43 + i) = 0
    · by_cases y : σ.1 96 i = 0
      · have ny := ih (i + 1) (Int32.ofNat i) (by omega) (Or.inr ⟨i, by omega, y, rfl⟩)
        rcases ha with rfl | ⟨s, hs, ht, rfl⟩
        · have c1 : ((-1 : Int32) = -1) ↔ True := iff_true_intro rfl
          simp only [↓br_pos, ↓br_neg, ↓rF_I, ↓rF_L, ↓rF_R, ↓rF_N, rO_m, rB_m, ↓rI_m, wI_m, ↓rB2_m, ↓rB3_m, wB2_m, wB3_m, ↓rL_m, wL_m, ↓rQ_m, wQ_m, ↓lI_m, pI_m, pL_m, pR_m, sI_m, sBy_m, sBo_m, sL_m, sQ_m, fst_m, true_and, and_true, tg_some, ln_some, uI_1, uI_2, uL_1, uL_2, uL_3, uQ_1, uQ_2, uQ_3, rv_i, rv_l, rv_n, rv_b0, rv_b1, RMR, ne_eq, reduceCtorEq, not_false_eq_true, Option.getD_some, if_true, if_false, and_self, false_and, and_false, Nat.add_left_cancel_iff, Nat.add_eq_left, Nat.left_eq_add, Nat.one_ne_zero, Nat.reduceAdd, Nat.reduceLT, Nat.reduceLeDiff, Nat.reduceEqDiff, true_implies, false_implies, implies_true, Option.some.injEq, forall_eq', forall_eq, reduceCtorEq, brT, brF, br_s, i_10, i_01, ib_0_2, ib_1_2, tn_0, tn_1, Int32.le_refl, eq_self, rv_bN, rv_iM, RCM 81, RLY, lit_at hw, mt_2 hτ, l1, g8, iB_t z, z10, ix (by omega : i < 8) (by omega), y, c1, on_succ]
          exact ny
        · have c1 : (Int32.ofNat s = (-1 : Int32)) ↔ False := on_m1 (by omega)
          have g1 := fun {K : Int32 → Hp → Prop} => g_155 (K := K) (s := i) (x := 3) (a := 3) hw hτ rfl (by omega) hd
          have g2 := fun {K : Int32 → Hp → Prop} => g_155 (K := K) (s := s) (x := 3) (a := 3) hw hτ rfl (by omega) hd
          simp only [↓rF_I, ↓rF_L, ↓rF_R, ↓rF_N, rO_m, rB_m, ↓rI_m, wI_m, ↓rB2_m, ↓rB3_m, wB2_m, wB3_m, ↓rL_m, wL_m, ↓rQ_m, wQ_m, ↓lI_m, pI_m, pL_m, pR_m, sI_m, sBy_m, sBo_m, sL_m, sQ_m, fst_m, true_and, and_true, tg_some, ln_some, uI_1, uI_2, uL_1, uL_2, uL_3, uQ_1, uQ_2, uQ_3, rv_i, rv_l, rv_n, rv_b0, rv_b1, RMR, ne_eq, reduceCtorEq, not_false_eq_true, Option.getD_some, if_true, if_false, and_self, false_and, and_false, Nat.add_left_cancel_iff, Nat.add_eq_left, Nat.left_eq_add, Nat.one_ne_zero, Nat.reduceAdd, Nat.reduceLT, Nat.reduceLeDiff, Nat.reduceEqDiff, true_implies, false_implies, implies_true, Option.some.injEq, forall_eq', forall_eq, reduceCtorEq, brT, brF, br_s, i_10, i_01, ib_0_2, ib_1_2, tn_0, tn_1, Int32.le_refl, eq_self, rv_bN, rv_iM, RCM 81, RLY, lit_at hw, mt_2 hτ, l1, g8, iB_t z, z10, ix (by omega : i < 8) (by omega), y, c1, g1, g2, on_succ]
          exact br2 nx ny
      · simp only [↓br_pos, ↓br_neg, ↓rF_I, ↓rF_L, ↓rF_R, ↓rF_N, rO_m, rB_m, ↓rI_m, wI_m, ↓rB2_m, ↓rB3_m, wB2_m, wB3_m, ↓rL_m, wL_m, ↓rQ_m, wQ_m, ↓lI_m, pI_m, pL_m, pR_m, sI_m, sBy_m, sBo_m, sL_m, sQ_m, fst_m, true_and, and_true, tg_some, ln_some, uI_1, uI_2, uL_1, uL_2, uL_3, uQ_1, uQ_2, uQ_3, rv_i, rv_l, rv_n, rv_b0, rv_b1, RMR, ne_eq, reduceCtorEq, not_false_eq_true, Option.getD_some, if_true, if_false, and_self, false_and, and_false, Nat.add_left_cancel_iff, Nat.add_eq_left, Nat.left_eq_add, Nat.one_ne_zero, Nat.reduceAdd, Nat.reduceLT, Nat.reduceLeDiff, Nat.reduceEqDiff, true_implies, false_implies, implies_true, Option.some.injEq, forall_eq', forall_eq, reduceCtorEq, brT, brF, br_s, i_10, i_01, ib_0_2, ib_1_2, tn_0, tn_1, Int32.le_refl, eq_self, rv_bN, rv_iM, RCM 81, RLY, lit_at hw, mt_2 hτ, l1, g8, iB_t z, z10, ix (by omega : i < 8) (by omega), y, on_succ]
        exact nx
    · simp only [↓br_pos, ↓br_neg, ↓rF_I, ↓rF_L, ↓rF_R, ↓rF_N, rO_m, rB_m, ↓rI_m, wI_m, ↓rB2_m, ↓rB3_m, wB2_m, wB3_m, ↓rL_m, wL_m, ↓rQ_m, wQ_m, ↓lI_m, pI_m, pL_m, pR_m, sI_m, sBy_m, sBo_m, sL_m, sQ_m, fst_m, true_and, and_true, tg_some, ln_some, uI_1, uI_2, uL_1, uL_2, uL_3, uQ_1, uQ_2, uQ_3, rv_i, rv_l, rv_n, rv_b0, rv_b1, RMR, ne_eq, reduceCtorEq, not_false_eq_true, Option.getD_some, if_true, if_false, and_self, false_and, and_false, Nat.add_left_cancel_iff, Nat.add_eq_left, Nat.left_eq_add, Nat.one_ne_zero, Nat.reduceAdd, Nat.reduceLT, Nat.reduceLeDiff, Nat.reduceEqDiff, true_implies, false_implies, implies_true, Option.some.injEq, forall_eq', forall_eq, reduceCtorEq, brT, brF, br_s, i_10, i_01, ib_0_2, ib_1_2, tn_0, tn_1, Int32.le_refl, eq_self, rv_bN, rv_iM, RCM 81, RLY, lit_at hw, mt_2 hτ, l1, g8, iB_f z, z00, on_succ]
      exact nx
theorem s_229 {w : mT} {σ : mS} {τ ρ : Rw} {D : Nat} {K : Int32 → Hp → Prop} (hw : lit w) (hτ : mTold σ τ) (hρ : mRow σ 85 0 ρ) (hv : vTold τ) (hr : vRow τ ρ) (h1 : K (-1) (mW w σ)) (h2 : ∀ s, s < τ 2 → σ.1 96 s = 0 → K (Int32.ofNat s) (mW w σ)) (hD : 2 ≤ D) : wpI D 229 [.ref 81] (mW w σ) K := by
  refine sI_of (m := 1) (fun d hd Q hQ => ?_) rfl hD
  exact b229_0 (lp_229 hw hτ hρ hv hr hd (hQ _ _ h1) (fun s hs ht => hQ _ _ (h2 s hs ht)) (τ 2) 0 (-1) (by omega) (Or.inl rfl))
theorem lp_230 {w : mT} {σ : mS} {τ ρ : Rw} {d : Nat} {Q : Option (Option Value) → Hp → Prop} (hw : lit w) (hτ : mTold σ τ) (hρ : mRow σ 85 0 ρ) (hv : vTold τ) (hr : vRow τ ρ) (hd : 1 ≤ d) (h2 : ∀ s, s < τ 2 → σ.1 96 s ≠ 0 → σ.1 95 s = 0 → Q (some (some (.int (Int32.ofNat s)))) (mW w σ)) : ∀ (r i : Nat) (a1 : Int32), i + r = τ 2 → ((a1 = -1 ∧ ∃ j, i ≤ j ∧ j < τ 2 ∧ σ.1 96 j ≠ 0 ∧ σ.1 95 j = 0) ∨ ∃ s, s < τ 2 ∧ σ.1 96 s ≠ 0 ∧ σ.1 95 s = 0 ∧ a1 = Int32.ofNat s) → Wp 230 4 [.ref 81, .int a1, .int (Int32.ofNat i)] [] (mW w σ) Q d := by
  have v2 := hv.2.2.1
  intro r
  induction r with
  | zero =>
    intro i a1 hi ha
    have hi' : i = τ 2 := by omega
    subst hi'
    refine b230_4 ?_
    simp only [↓br_pos, ↓br_neg, ↓rF_I, ↓rF_L, ↓rF_R, ↓rF_N, rO_m, rB_m, ↓rI_m, wI_m, ↓rB2_m, ↓rB3_m, wB2_m, wB3_m, ↓rL_m, wL_m, ↓rQ_m, wQ_m, ↓lI_m, pI_m, pL_m, pR_m, sI_m, sBy_m, sBo_m, sL_m, sQ_m, fst_m, true_and, and_true, tg_some, ln_some, uI_1, uI_2, uL_1, uL_2, uL_3, uQ_1, uQ_2, uQ_3, rv_i, rv_l, rv_n, rv_b0, rv_b1, RMR, ne_eq, reduceCtorEq, not_false_eq_true, Option.getD_some, if_true, if_false, and_self, false_and, and_false, Nat.add_left_cancel_iff, Nat.add_eq_left, Nat.left_eq_add, Nat.one_ne_zero, Nat.reduceAdd, Nat.reduceLT, Nat.reduceLeDiff, Nat.reduceEqDiff, true_implies, false_implies, implies_true, Option.some.injEq, forall_eq', forall_eq, reduceCtorEq, brT, brF, br_s, i_10, i_01, ib_0_2, ib_1_2, tn_0, tn_1, Int32.le_refl, eq_self, rv_bN, rv_iM, RCM 81, RLY, lit_at hw, mt_2 hτ, Int32.le_refl]
    rcases ha with ⟨_, j, j1, j2, _⟩ | ⟨s, hs, ht, hu, rfl⟩
    · omega
    · exact h2 s hs ht hu
  | succ r ih =>
    intro i a1 hi ha
    have l1 : (Int32.ofNat (τ 2) ≤ Int32.ofNat i) ↔ False := iff_false_intro (fun q => absurd ((on_le (by omega) (by omega)).mp q) (by omega))
    have nx : ¬ (σ.1 96 i ≠ 0 ∧ σ.1 95 i = 0) → Wp 230 4 [.ref 81, .int a1, .int (Int32.ofNat (i + 1))] [] (mW w σ) Q d := fun q => ih (i + 1) a1 (by omega) (ha.imp (fun p => by
      obtain ⟨p0, j, j1, j2, j3, j4⟩ := p
      refine ⟨p0, j, ?_, j2, j3, j4⟩
      have : j ≠ i := fun e => q (by rw [← e]; exact ⟨j3, j4⟩)
      omega) id)
    refine b230_4 ?_
    by_cases z : σ.1 96 i = 0
    · simp only [↓br_pos, ↓br_neg, ↓rF_I, ↓rF_L, ↓rF_R, ↓rF_N, rO_m, rB_m, ↓rI_m, wI_m, ↓rB2_m, ↓rB3_m, wB2_m, wB3_m, ↓rL_m, wL_m, ↓rQ_m, wQ_m, ↓lI_m, pI_m, pL_m, pR_m, sI_m, sBy_m, sBo_m, sL_m, sQ_m, fst_m, true_and, and_true, tg_some, ln_some, uI_1, uI_2, uL_1, uL_2, uL_3, uQ_1, uQ_2, uQ_3, rv_i, rv_l, rv_n, rv_b0, rv_b1, RMR, ne_eq, reduceCtorEq, not_false_eq_true, Option.getD_some, if_true, if_false, and_self, false_and, and_false, Nat.add_left_cancel_iff, Nat.add_eq_left, Nat.left_eq_add, Nat.one_ne_zero, Nat.reduceAdd, Nat.reduceLT, Nat.reduceLeDiff, Nat.reduceEqDiff, true_implies, false_implies, implies_true, Option.some.injEq, forall_eq', forall_eq, reduceCtorEq, brT, brF, br_s, i_10, i_01, ib_0_2, ib_1_2, tn_0, tn_1, Int32.le_refl, eq_self, rv_bN, rv_iM, RCM 81, RLY, lit_at hw, mt_2 hτ, l1, ix (by omega : i < 8) (by omega), z, on_succ]
      exact nx (fun q => q.1 z)
    · by_cases y : σ.1 95 i = 0
      · have ny := ih (i + 1) (Int32.ofNat i) (by omega) (Or.inr ⟨i, by omega, z, y, rfl⟩)
        rcases ha with ⟨rfl, _⟩ | ⟨s, hs, ht, hu, rfl⟩
        · have c1 : ((-1 : Int32) = -1) ↔ True := iff_true_intro rfl
          simp only [↓br_pos, ↓br_neg, ↓rF_I, ↓rF_L, ↓rF_R, ↓rF_N, rO_m, rB_m, ↓rI_m, wI_m, ↓rB2_m, ↓rB3_m, wB2_m, wB3_m, ↓rL_m, wL_m, ↓rQ_m, wQ_m, ↓lI_m, pI_m, pL_m, pR_m, sI_m, sBy_m, sBo_m, sL_m, sQ_m, fst_m, true_and, and_true, tg_some, ln_some, uI_1, uI_2, uL_1, uL_2, uL_3, uQ_1, uQ_2, uQ_3, rv_i, rv_l, rv_n, rv_b0, rv_b1, RMR, ne_eq, reduceCtorEq, not_false_eq_true, Option.getD_some, if_true, if_false, and_self, false_and, and_false, Nat.add_left_cancel_iff, Nat.add_eq_left, Nat.left_eq_add, Nat.one_ne_zero, Nat.reduceAdd, Nat.reduceLT, Nat.reduceLeDiff, Nat.reduceEqDiff, true_implies, false_implies, implies_true, Option.some.injEq, forall_eq', forall_eq, reduceCtorEq, brT, brF, br_s, i_10, i_01, ib_0_2, ib_1_2, tn_0, tn_1, Int32.le_refl, eq_self, rv_bN, rv_iM, RCM 81, RLY, lit_at hw, mt_2 hτ, l1, ix (by omega : i < 8) (by omega), z, y, c1, on_succ]
          exact ny
        · have nz := ih (i + 1) (Int32.ofNat s) (by omega) (Or.inr ⟨s, hs, ht, hu, rfl⟩)
          have c1 : (Int32.ofNat s = (-1 : Int32)) ↔ False := on_m1 (by omega)
          have g1 := fun {K : Int32 → Hp → Prop} => g_155 (K := K) (s := i) (x := 4) (a := 4) hw hτ rfl (by omega) hd
          have g2 := fun {K : Int32 → Hp → Prop} => g_155 (K := K) (s := s) (x := 4) (a := 4) hw hτ rfl (by omega) hd
          simp only [↓rF_I, ↓rF_L, ↓rF_R, ↓rF_N, rO_m, rB_m, ↓rI_m, wI_m, ↓rB2_m, ↓rB3_m, wB2_m, wB3_m, ↓rL_m, wL_m, ↓rQ_m, wQ_m, ↓lI_m, pI_m, pL_m, pR_m, sI_m, sBy_m, sBo_m, sL_m, sQ_m, fst_m, true_and, and_true, tg_some, ln_some, uI_1, uI_2, uL_1, uL_2, uL_3, uQ_1, uQ_2, uQ_3, rv_i, rv_l, rv_n, rv_b0, rv_b1, RMR, ne_eq, reduceCtorEq, not_false_eq_true, Option.getD_some, if_true, if_false, and_self, false_and, and_false, Nat.add_left_cancel_iff, Nat.add_eq_left, Nat.left_eq_add, Nat.one_ne_zero, Nat.reduceAdd, Nat.reduceLT, Nat.reduceLeDiff, Nat.reduceEqDiff, true_implies, false_implies, implies_true, Option.some.injEq, forall_eq', forall_eq, reduceCtorEq, brT, brF, br_s, i_10, i_01, ib_0_2, ib_1_2, tn_0, tn_1, Int32.le_refl, eq_self, rv_bN, rv_iM, RCM 81, RLY, lit_at hw, mt_2 hτ, l1, ix (by omega : i < 8) (by omega), z, y, c1, g1, g2, on_succ]
          exact br2 nz ny
      · simp only [↓br_pos, ↓br_neg, ↓rF_I, ↓rF_L, ↓rF_R, ↓rF_N, rO_m, rB_m, ↓rI_m, wI_m, ↓rB2_m, ↓rB3_m, wB2_m, wB3_m, ↓rL_m, wL_m, ↓rQ_m, wQ_m, ↓lI_m, pI_m, pL_m, pR_m, sI_m, sBy_m, sBo_m, sL_m, sQ_m, fst_m, true_and, and_true, tg_some, ln_some, uI_1, uI_2, uL_1, uL_2, uL_3, uQ_1, uQ_2, uQ_3, rv_i, rv_l, rv_n, rv_b0, rv_b1, RMR, ne_eq, reduceCtorEq, not_false_eq_true, Option.getD_some, if_true, if_false, and_self, false_and, and_false, Nat.add_left_cancel_iff, Nat.add_eq_left, Nat.left_eq_add, Nat.one_ne_zero, Nat.reduceAdd, Nat.reduceLT, Nat.reduceLeDiff, Nat.reduceEqDiff, true_implies, false_implies, implies_true, Option.some.injEq, forall_eq', forall_eq, reduceCtorEq, brT, brF, br_s, i_10, i_01, ib_0_2, ib_1_2, tn_0, tn_1, Int32.le_refl, eq_self, rv_bN, rv_iM, RCM 81, RLY, lit_at hw, mt_2 hτ, l1, ix (by omega : i < 8) (by omega), z, y, on_succ]
        exact nx (fun q => y q.2)
theorem s_230 {w : mT} {σ : mS} {τ ρ : Rw} {D : Nat} {K : Int32 → Hp → Prop} (hw : lit w) (hτ : mTold σ τ) (hρ : mRow σ 85 0 ρ) (hv : vTold τ) (hr : vRow τ ρ) (he : ∃ j, j < τ 2 ∧ σ.1 96 j ≠ 0 ∧ σ.1 95 j = 0) (h2 : ∀ s, s < τ 2 → σ.1 96 s ≠ 0 → σ.1 95 s = 0 → K (Int32.ofNat s) (mW w σ)) (hD : 2 ≤ D) : wpI D 230 [.ref 81] (mW w σ) K := by
  refine sI_of (m := 1) (fun d hd Q hQ => ?_) rfl hD
  obtain ⟨j, j1, j2, j3⟩ := he
  exact b230_0 (lp_230 hw hτ hρ hv hr hd (fun s hs ht hu => hQ _ _ (h2 s hs ht hu)) (τ 2) 0 (-1) (by omega) (Or.inl ⟨rfl, j, Nat.zero_le _, j1, j2, j3⟩))
/-- how many are not taken; are taken and not put off; are put off from i on -/
def uk (σ : mS) : Nat := sm 8 (fun s => if σ.1 96 s = 0 then 1 else 0)
def n1 (σ : mS) : Nat := sm 8 (fun s => if σ.1 96 s ≠ 0 ∧ σ.1 95 s = 0 then 1 else 0)
def ofc (σ : mS) (i : Nat) : Nat := sm 8 (fun s => if i ≤ s ∧ σ.1 95 s ≠ 0 then 1 else 0)
theorem u96 {σ : mS} {s j : Nat} {x : Int32} : (uI σ 96 s x).1 96 j = if j = s then x else σ.1 96 j := by
  rw [uI_1]
  by_cases e : j = s
  · rw [if_pos ⟨rfl, e⟩, if_pos e]
  · rw [if_neg (fun q => e q.2), if_neg e]
theorem uk_t {σ : mS} {s : Nat} (hs : s < 8) (h : σ.1 96 s = 0) : uk (uI σ 96 s 1) + 1 = uk σ := by
  have := sm_up (n := 8) (i := s) (x := 0) (f := fun s => if σ.1 96 s = 0 then 1 else 0) (g := fun j => if (uI σ 96 s 1).1 96 j = 0 then 1 else 0) hs (fun j hj => by
    have q := u96 (σ := σ) (s := s) (j := j) (x := 1)
    by_cases e : j = s
    · rw [if_pos e] at q
      rw [q, if_pos e, if_neg (by decide)]
    · rw [if_neg e] at q
      rw [q, if_neg e])
  have e : (if σ.1 96 s = 0 then 1 else 0 : Nat) = 1 := if_pos h
  rw [e] at this
  exact this
theorem uk_c {σ σ' : mS} (h : σ'.1 96 = σ.1 96) : uk σ' = uk σ := by unfold uk; rw [h]
theorem n1_c {σ σ' : mS} (h : σ'.1 96 = σ.1 96) (h' : σ'.1 95 = σ.1 95) : n1 σ' = n1 σ := by unfold n1; rw [h, h']
theorem n1_t {σ : mS} {s : Nat} (hs : s < 8) (h : σ.1 96 s = 0) : n1 (uI σ 96 s 1) = n1 σ + (if σ.1 95 s = 0 then 1 else 0) := by
  have := sm_up (n := 8) (i := s) (x := if σ.1 95 s = 0 then 1 else 0) (f := fun s => if σ.1 96 s ≠ 0 ∧ σ.1 95 s = 0 then 1 else 0) (g := fun j => if (uI σ 96 s 1).1 96 j ≠ 0 ∧ (uI σ 96 s 1).1 95 j = 0 then 1 else 0) hs (fun j hj => by
    have e95 : (uI σ 96 s 1).1 95 j = σ.1 95 j := by rw [uI_1, if_neg (by omega)]
    have q := u96 (σ := σ) (s := s) (j := j) (x := 1)
    rw [e95]
    by_cases e : j = s
    · rw [if_pos e] at q
      rw [q, if_pos e, e]
      by_cases y : σ.1 95 s = 0
      · rw [if_pos ⟨by decide, y⟩, if_pos y]
      · rw [if_neg (fun q => y q.2), if_neg y]
    · rw [if_neg e] at q
      rw [q, if_neg e])
  have e : (if σ.1 96 s ≠ 0 ∧ σ.1 95 s = 0 then 1 else 0 : Nat) = 0 := if_neg (fun q => q.1 h)
  rw [e] at this
  exact this
theorem n1_8 {σ : mS} : n1 σ + ofc σ 0 ≤ 8 := by
  unfold n1 ofc
  rw [← sm_add]
  have := sm_le (n := 8) (f := fun i => (if σ.1 96 i ≠ 0 ∧ σ.1 95 i = 0 then 1 else 0) + (if 0 ≤ i ∧ σ.1 95 i ≠ 0 then 1 else 0)) (g := fun _ => 1) (fun i _ => by
    by_cases y : σ.1 95 i = 0
    · rw [if_neg (fun q : 0 ≤ i ∧ σ.1 95 i ≠ 0 => q.2 y)]; split <;> omega
    · rw [if_neg (fun q : σ.1 96 i ≠ 0 ∧ σ.1 95 i = 0 => y q.2)]; split <;> omega)
  rw [sm_o (n := 8) (f := fun _ => 1) (fun _ _ => rfl)] at this
  exact this
theorem ofc_y {σ : mS} {i : Nat} (hi : i < 8) (h : σ.1 95 i ≠ 0) : ofc σ (i + 1) + 1 = ofc σ i := by
  have := sm_up (n := 8) (i := i) (x := 0) (f := fun s => if i ≤ s ∧ σ.1 95 s ≠ 0 then 1 else 0) (g := fun s => if i + 1 ≤ s ∧ σ.1 95 s ≠ 0 then 1 else 0) hi (fun j hj => by
    by_cases e : j = i
    · rw [if_pos e, if_neg (fun q => by omega)]
    · rw [if_neg e]
      by_cases y : i ≤ j ∧ σ.1 95 j ≠ 0
      · rw [if_pos y, if_pos ⟨by omega, y.2⟩]
      · rw [if_neg y, if_neg (fun q => y ⟨by omega, q.2⟩)])
  have e : (if i ≤ i ∧ σ.1 95 i ≠ 0 then 1 else 0 : Nat) = 1 := if_pos ⟨Nat.le_refl _, h⟩
  rw [e] at this
  exact this
theorem ofc_n {σ : mS} {i : Nat} (h : σ.1 95 i = 0) : ofc σ (i + 1) = ofc σ i := by
  unfold ofc
  refine sm_eq (fun j _ => ?_)
  by_cases y : i ≤ j ∧ σ.1 95 j ≠ 0
  · have : j ≠ i := fun e => y.2 (by rw [e]; exact h)
    rw [if_pos y, if_pos ⟨by omega, y.2⟩]
  · rw [if_neg y, if_neg (fun q => y ⟨by omega, q.2⟩)]
theorem ofc_c {σ σ' : mS} {i : Nat} (h : σ'.1 95 = σ.1 95) : ofc σ' i = ofc σ i := by unfold ofc; rw [h]
/-- a plan -/
def plI (σ : mS) (m : Nat) : Prop := σ.1 81 41 = Int32.ofNat m ∧ m ≤ 8 ∧ ∀ i, i < m → ∃ s, s < 8 ∧ σ.1 97 i = Int32.ofNat s
theorem lp_231d {w : mT} {τ ρ : Rw} {d : Nat} {a1 : Int32} {σ0 : mS} {Q : Option (Option Value) → Hp → Prop} (hw : lit w) (hτ0 : mTold σ0 τ) (hv : vTold τ) (hQ : ∀ σ' m, frZ σ0 σ' → plI σ' m → Q (some none) (mW w σ')) : ∀ (r i m : Nat) (σ : mS) (x : Value), i + r = τ 2 → frZ σ0 σ → plI σ m → m + ofc σ i ≤ 8 → (x = jk ∨ ∃ u : Int32, x = .int u) → Wp 231 199 [.ref 81, .int a1, .int (Int32.ofNat i), x] [] (mW w σ) Q d := by
  have v2 := hv.2.2.1
  intro r
  induction r with
  | zero =>
    intro i m σ x hi hf hp hm hx
    have hτ := mT_c hτ0 (hf.1 83 (by omega) (by omega))
    have hi' : i = τ 2 := by omega
    subst hi'
    rcases hx with rfl | ⟨u, rfl⟩
    · refine b231_199a ?_
      simp only [↓br_pos, ↓br_neg, ↓rF_I, ↓rF_L, ↓rF_R, ↓rF_N, rO_m, rB_m, ↓rI_m, wI_m, ↓rB2_m, ↓rB3_m, wB2_m, wB3_m, ↓rL_m, wL_m, ↓rQ_m, wQ_m, ↓lI_m, pI_m, pL_m, pR_m, sI_m, sBy_m, sBo_m, sL_m, sQ_m, fst_m, true_and, and_true, tg_some, ln_some, uI_1, uI_2, uL_1, uL_2, uL_3, uQ_1, uQ_2, uQ_3, rv_i, rv_l, rv_n, rv_b0, rv_b1, RMR, ne_eq, reduceCtorEq, not_false_eq_true, Option.getD_some, if_true, if_false, and_self, false_and, and_false, Nat.add_left_cancel_iff, Nat.add_eq_left, Nat.left_eq_add, Nat.one_ne_zero, Nat.reduceAdd, Nat.reduceLT, Nat.reduceLeDiff, Nat.reduceEqDiff, true_implies, false_implies, implies_true, Option.some.injEq, forall_eq', forall_eq, reduceCtorEq, brT, brF, br_s, i_10, i_01, ib_0_2, ib_1_2, tn_0, tn_1, Int32.le_refl, eq_self, rv_bN, rv_iM, RCM 81, RLY, lit_at hw, mt_2 hτ, Int32.le_refl]
      exact hQ σ m hf hp
    · refine b231_199 ?_
      simp only [↓br_pos, ↓br_neg, ↓rF_I, ↓rF_L, ↓rF_R, ↓rF_N, rO_m, rB_m, ↓rI_m, wI_m, ↓rB2_m, ↓rB3_m, wB2_m, wB3_m, ↓rL_m, wL_m, ↓rQ_m, wQ_m, ↓lI_m, pI_m, pL_m, pR_m, sI_m, sBy_m, sBo_m, sL_m, sQ_m, fst_m, true_and, and_true, tg_some, ln_some, uI_1, uI_2, uL_1, uL_2, uL_3, uQ_1, uQ_2, uQ_3, rv_i, rv_l, rv_n, rv_b0, rv_b1, RMR, ne_eq, reduceCtorEq, not_false_eq_true, Option.getD_some, if_true, if_false, and_self, false_and, and_false, Nat.add_left_cancel_iff, Nat.add_eq_left, Nat.left_eq_add, Nat.one_ne_zero, Nat.reduceAdd, Nat.reduceLT, Nat.reduceLeDiff, Nat.reduceEqDiff, true_implies, false_implies, implies_true, Option.some.injEq, forall_eq', forall_eq, reduceCtorEq, brT, brF, br_s, i_10, i_01, ib_0_2, ib_1_2, tn_0, tn_1, Int32.le_refl, eq_self, rv_bN, rv_iM, RCM 81, RLY, lit_at hw, mt_2 hτ, Int32.le_refl]
      exact hQ σ m hf hp
  | succ r ih =>
    intro i m σ x hi hf hp hm hx
    have hτ := mT_c hτ0 (hf.1 83 (by omega) (by omega))
    have l1 : (Int32.ofNat (τ 2) ≤ Int32.ofNat i) ↔ False := iff_false_intro (fun q => absurd ((on_le (by omega) (by omega)).mp q) (by omega))
    by_cases z : σ.1 95 i = 0
    · have nx := ih (i + 1) m σ x (by omega) hf hp (by rw [ofc_n z]; exact hm) hx
      rcases hx with rfl | ⟨u, rfl⟩
      · refine b231_199a ?_
        simp only [↓br_pos, ↓br_neg, ↓rF_I, ↓rF_L, ↓rF_R, ↓rF_N, rO_m, rB_m, ↓rI_m, wI_m, ↓rB2_m, ↓rB3_m, wB2_m, wB3_m, ↓rL_m, wL_m, ↓rQ_m, wQ_m, ↓lI_m, pI_m, pL_m, pR_m, sI_m, sBy_m, sBo_m, sL_m, sQ_m, fst_m, true_and, and_true, tg_some, ln_some, uI_1, uI_2, uL_1, uL_2, uL_3, uQ_1, uQ_2, uQ_3, rv_i, rv_l, rv_n, rv_b0, rv_b1, RMR, ne_eq, reduceCtorEq, not_false_eq_true, Option.getD_some, if_true, if_false, and_self, false_and, and_false, Nat.add_left_cancel_iff, Nat.add_eq_left, Nat.left_eq_add, Nat.one_ne_zero, Nat.reduceAdd, Nat.reduceLT, Nat.reduceLeDiff, Nat.reduceEqDiff, true_implies, false_implies, implies_true, Option.some.injEq, forall_eq', forall_eq, reduceCtorEq, brT, brF, br_s, i_10, i_01, ib_0_2, ib_1_2, tn_0, tn_1, Int32.le_refl, eq_self, rv_bN, rv_iM, RCM 81, RLY, lit_at hw, mt_2 hτ, l1, ix (by omega : i < 8) (by omega), z, on_succ]
        exact nx
      · refine b231_199 ?_
        simp only [↓br_pos, ↓br_neg, ↓rF_I, ↓rF_L, ↓rF_R, ↓rF_N, rO_m, rB_m, ↓rI_m, wI_m, ↓rB2_m, ↓rB3_m, wB2_m, wB3_m, ↓rL_m, wL_m, ↓rQ_m, wQ_m, ↓lI_m, pI_m, pL_m, pR_m, sI_m, sBy_m, sBo_m, sL_m, sQ_m, fst_m, true_and, and_true, tg_some, ln_some, uI_1, uI_2, uL_1, uL_2, uL_3, uQ_1, uQ_2, uQ_3, rv_i, rv_l, rv_n, rv_b0, rv_b1, RMR, ne_eq, reduceCtorEq, not_false_eq_true, Option.getD_some, if_true, if_false, and_self, false_and, and_false, Nat.add_left_cancel_iff, Nat.add_eq_left, Nat.left_eq_add, Nat.one_ne_zero, Nat.reduceAdd, Nat.reduceLT, Nat.reduceLeDiff, Nat.reduceEqDiff, true_implies, false_implies, implies_true, Option.some.injEq, forall_eq', forall_eq, reduceCtorEq, brT, brF, br_s, i_10, i_01, ib_0_2, ib_1_2, tn_0, tn_1, Int32.le_refl, eq_self, rv_bN, rv_iM, RCM 81, RLY, lit_at hw, mt_2 hτ, l1, ix (by omega : i < 8) (by omega), z, on_succ]
        exact nx
    · have oy := ofc_y (by omega : i < 8) z
      have nx := ih (i + 1) (m + 1) (uI (uI σ 97 m (Int32.ofNat i)) 81 41 (Int32.ofNat (m + 1))) x (by omega) (frZ_tr hf (frZ_tr (frZ_I (by omega)) (frZ_0 (by omega)))) ⟨by rw [uI_1, if_pos ⟨rfl, rfl⟩], by omega, fun j hj => by
        rw [uI_1, if_neg (by omega), uI_1]
        by_cases e : j = m
        · rw [if_pos ⟨rfl, e⟩]; exact ⟨i, by omega, rfl⟩
        · rw [if_neg (fun q => e q.2)]; exact hp.2.2 j (by omega)⟩ (by rw [ofc_c (σ := σ) (by rw [uI_o (by omega), uI_o (by omega)])]; omega) hx
      rcases hx with rfl | ⟨u, rfl⟩
      · refine b231_199a ?_
        simp only [↓br_pos, ↓br_neg, ↓rF_I, ↓rF_L, ↓rF_R, ↓rF_N, rO_m, rB_m, ↓rI_m, wI_m, ↓rB2_m, ↓rB3_m, wB2_m, wB3_m, ↓rL_m, wL_m, ↓rQ_m, wQ_m, ↓lI_m, pI_m, pL_m, pR_m, sI_m, sBy_m, sBo_m, sL_m, sQ_m, fst_m, true_and, and_true, tg_some, ln_some, uI_1, uI_2, uL_1, uL_2, uL_3, uQ_1, uQ_2, uQ_3, rv_i, rv_l, rv_n, rv_b0, rv_b1, RMR, ne_eq, reduceCtorEq, not_false_eq_true, Option.getD_some, if_true, if_false, and_self, false_and, and_false, Nat.add_left_cancel_iff, Nat.add_eq_left, Nat.left_eq_add, Nat.one_ne_zero, Nat.reduceAdd, Nat.reduceLT, Nat.reduceLeDiff, Nat.reduceEqDiff, true_implies, false_implies, implies_true, Option.some.injEq, forall_eq', forall_eq, reduceCtorEq, brT, brF, br_s, i_10, i_01, ib_0_2, ib_1_2, tn_0, tn_1, Int32.le_refl, eq_self, rv_bN, rv_iM, RCM 81, RLY, lit_at hw, mt_2 hτ, l1, ix (by omega : i < 8) (by omega), z, hp.1, ix (by omega : m < 8) (by omega), on_succ]
        exact nx
      · refine b231_199 ?_
        simp only [↓br_pos, ↓br_neg, ↓rF_I, ↓rF_L, ↓rF_R, ↓rF_N, rO_m, rB_m, ↓rI_m, wI_m, ↓rB2_m, ↓rB3_m, wB2_m, wB3_m, ↓rL_m, wL_m, ↓rQ_m, wQ_m, ↓lI_m, pI_m, pL_m, pR_m, sI_m, sBy_m, sBo_m, sL_m, sQ_m, fst_m, true_and, and_true, tg_some, ln_some, uI_1, uI_2, uL_1, uL_2, uL_3, uQ_1, uQ_2, uQ_3, rv_i, rv_l, rv_n, rv_b0, rv_b1, RMR, ne_eq, reduceCtorEq, not_false_eq_true, Option.getD_some, if_true, if_false, and_self, false_and, and_false, Nat.add_left_cancel_iff, Nat.add_eq_left, Nat.left_eq_add, Nat.one_ne_zero, Nat.reduceAdd, Nat.reduceLT, Nat.reduceLeDiff, Nat.reduceEqDiff, true_implies, false_implies, implies_true, Option.some.injEq, forall_eq', forall_eq, reduceCtorEq, brT, brF, br_s, i_10, i_01, ib_0_2, ib_1_2, tn_0, tn_1, Int32.le_refl, eq_self, rv_bN, rv_iM, RCM 81, RLY, lit_at hw, mt_2 hτ, l1, ix (by omega : i < 8) (by omega), z, hp.1, ix (by omega : m < 8) (by omega), on_succ]
        exact nx
theorem lp_231c {w : mT} {τ ρ : Rw} {d : Nat} {a1 : Int32} {σ0 : mS} {Q : Option (Option Value) → Hp → Prop} (hw : lit w) (hτ0 : mTold σ0 τ) (hρ0 : mRow σ0 85 0 ρ) (hv : vTold τ) (hr : vRow τ ρ) (hd : 2 ≤ d) (hQ : ∀ σ' m, frZ σ0 σ' → plI σ' m → Q (some none) (mW w σ')) : ∀ (f : Nat) (σ : mS) (a2 : Int32) (x : Value), uk σ ≤ f → frZ σ0 σ → plI σ (n1 σ) → (a2 = -1 ∨ ∃ s, s < τ 2 ∧ σ.1 96 s = 0 ∧ a2 = Int32.ofNat s) → (x = jk ∨ ∃ u : Int32, x = .int u) → Wp 231 148 [.ref 81, .int a1, .int a2, x] [] (mW w σ) Q d := by
  have v2 := hv.2.2.1
  intro f
  induction f with
  | zero =>
    intro σ a2 x hu hf hp ha hx
    rcases ha with rfl | ⟨s, hs, ht, rfl⟩
    · have c1 : ((-1 : Int32) = -1) ↔ True := iff_true_intro rfl
      have fin := lp_231d (a1 := a1) (d := d) (τ := τ) (ρ := ρ) hw (mT_c hτ0 (hf.1 83 (by omega) (by omega))) hv (fun σ' m f' p' => hQ σ' m (frZ_tr hf f') p') (τ 2) 0 (n1 σ) σ x (by omega) frZ_rf hp n1_8 hx
      rcases hx with rfl | ⟨u, rfl⟩
      · refine b231_148a ?_
        simp only [↓br_pos, ↓br_neg, ↓rF_I, ↓rF_L, ↓rF_R, ↓rF_N, rO_m, rB_m, ↓rI_m, wI_m, ↓rB2_m, ↓rB3_m, wB2_m, wB3_m, ↓rL_m, wL_m, ↓rQ_m, wQ_m, ↓lI_m, pI_m, pL_m, pR_m, sI_m, sBy_m, sBo_m, sL_m, sQ_m, fst_m, true_and, and_true, tg_some, ln_some, uI_1, uI_2, uL_1, uL_2, uL_3, uQ_1, uQ_2, uQ_3, rv_i, rv_l, rv_n, rv_b0, rv_b1, RMR, ne_eq, reduceCtorEq, not_false_eq_true, Option.getD_some, if_true, if_false, and_self, false_and, and_false, Nat.add_left_cancel_iff, Nat.add_eq_left, Nat.left_eq_add, Nat.one_ne_zero, Nat.reduceAdd, Nat.reduceLT, Nat.reduceLeDiff, Nat.reduceEqDiff, true_implies, false_implies, implies_true, Option.some.injEq, forall_eq', forall_eq, reduceCtorEq, brT, brF, br_s, i_10, i_01, ib_0_2, ib_1_2, tn_0, tn_1, Int32.le_refl, eq_self, rv_bN, rv_iM, c1]
        exact fin
      · refine b231_148 ?_
        simp only [↓br_pos, ↓br_neg, ↓rF_I, ↓rF_L, ↓rF_R, ↓rF_N, rO_m, rB_m, ↓rI_m, wI_m, ↓rB2_m, ↓rB3_m, wB2_m, wB3_m, ↓rL_m, wL_m, ↓rQ_m, wQ_m, ↓lI_m, pI_m, pL_m, pR_m, sI_m, sBy_m, sBo_m, sL_m, sQ_m, fst_m, true_and, and_true, tg_some, ln_some, uI_1, uI_2, uL_1, uL_2, uL_3, uQ_1, uQ_2, uQ_3, rv_i, rv_l, rv_n, rv_b0, rv_b1, RMR, ne_eq, reduceCtorEq, not_false_eq_true, Option.getD_some, if_true, if_false, and_self, false_and, and_false, Nat.add_left_cancel_iff, Nat.add_eq_left, Nat.left_eq_add, Nat.one_ne_zero, Nat.reduceAdd, Nat.reduceLT, Nat.reduceLeDiff, Nat.reduceEqDiff, true_implies, false_implies, implies_true, Option.some.injEq, forall_eq', forall_eq, reduceCtorEq, brT, brF, br_s, i_10, i_01, ib_0_2, ib_1_2, tn_0, tn_1, Int32.le_refl, eq_self, rv_bN, rv_iM, c1]
        exact fin
    · have := uk_t (by omega : s < 8) ht
      omega
  | succ f ih =>
    intro σ a2 x hu hf hp ha hx
    rcases ha with rfl | ⟨s, hs, ht, rfl⟩
    · have c1 : ((-1 : Int32) = -1) ↔ True := iff_true_intro rfl
      have fin := lp_231d (a1 := a1) (d := d) (τ := τ) (ρ := ρ) hw (mT_c hτ0 (hf.1 83 (by omega) (by omega))) hv (fun σ' m f' p' => hQ σ' m (frZ_tr hf f') p') (τ 2) 0 (n1 σ) σ x (by omega) frZ_rf hp n1_8 hx
      rcases hx with rfl | ⟨u, rfl⟩
      · refine b231_148a ?_
        simp only [↓br_pos, ↓br_neg, ↓rF_I, ↓rF_L, ↓rF_R, ↓rF_N, rO_m, rB_m, ↓rI_m, wI_m, ↓rB2_m, ↓rB3_m, wB2_m, wB3_m, ↓rL_m, wL_m, ↓rQ_m, wQ_m, ↓lI_m, pI_m, pL_m, pR_m, sI_m, sBy_m, sBo_m, sL_m, sQ_m, fst_m, true_and, and_true, tg_some, ln_some, uI_1, uI_2, uL_1, uL_2, uL_3, uQ_1, uQ_2, uQ_3, rv_i, rv_l, rv_n, rv_b0, rv_b1, RMR, ne_eq, reduceCtorEq, not_false_eq_true, Option.getD_some, if_true, if_false, and_self, false_and, and_false, Nat.add_left_cancel_iff, Nat.add_eq_left, Nat.left_eq_add, Nat.one_ne_zero, Nat.reduceAdd, Nat.reduceLT, Nat.reduceLeDiff, Nat.reduceEqDiff, true_implies, false_implies, implies_true, Option.some.injEq, forall_eq', forall_eq, reduceCtorEq, brT, brF, br_s, i_10, i_01, ib_0_2, ib_1_2, tn_0, tn_1, Int32.le_refl, eq_self, rv_bN, rv_iM, c1]
        exact fin
      · refine b231_148 ?_
        simp only [↓br_pos, ↓br_neg, ↓rF_I, ↓rF_L, ↓rF_R, ↓rF_N, rO_m, rB_m, ↓rI_m, wI_m, ↓rB2_m, ↓rB3_m, wB2_m, wB3_m, ↓rL_m, wL_m, ↓rQ_m, wQ_m, ↓lI_m, pI_m, pL_m, pR_m, sI_m, sBy_m, sBo_m, sL_m, sQ_m, fst_m, true_and, and_true, tg_some, ln_some, uI_1, uI_2, uL_1, uL_2, uL_3, uQ_1, uQ_2, uQ_3, rv_i, rv_l, rv_n, rv_b0, rv_b1, RMR, ne_eq, reduceCtorEq, not_false_eq_true, Option.getD_some, if_true, if_false, and_self, false_and, and_false, Nat.add_left_cancel_iff, Nat.add_eq_left, Nat.left_eq_add, Nat.one_ne_zero, Nat.reduceAdd, Nat.reduceLT, Nat.reduceLeDiff, Nat.reduceEqDiff, true_implies, false_implies, implies_true, Option.some.injEq, forall_eq', forall_eq, reduceCtorEq, brT, brF, br_s, i_10, i_01, ib_0_2, ib_1_2, tn_0, tn_1, Int32.le_refl, eq_self, rv_bN, rv_iM, c1]
        exact fin
    · have ut := uk_t (by omega : s < 8) ht
      have nt := n1_t (by omega : s < 8) ht
      have c1 : (Int32.ofNat s = (-1 : Int32)) ↔ False := on_m1 (by omega)
      have f1 : frZ σ (uI σ 96 s 1) := frZ_I (by omega)
      by_cases z : σ.1 95 s = 0
      · rw [if_pos z] at nt
        have b8 := n1_8 (σ := uI σ 96 s 1)
        have f2 : frZ σ (uI (uI (uI σ 96 s 1) 97 (n1 σ) (Int32.ofNat s)) 81 41 (Int32.ofNat (n1 σ + 1))) := frZ_tr f1 (frZ_tr (frZ_I (by omega)) (frZ_0 (by omega)))
        have en : n1 (uI (uI (uI σ 96 s 1) 97 (n1 σ) (Int32.ofNat s)) 81 41 (Int32.ofNat (n1 σ + 1))) = n1 σ + 1 := by rw [n1_c (σ := uI σ 96 s 1) (by rw [uI_o (by omega), uI_o (by omega)]) (by rw [uI_o (by omega), uI_o (by omega)])]; exact nt
        have eu : uk (uI (uI (uI σ 96 s 1) 97 (n1 σ) (Int32.ofNat s)) 81 41 (Int32.ofNat (n1 σ + 1))) = uk (uI σ 96 s 1) := uk_c (by rw [uI_o (by omega), uI_o (by omega)])
        have p2 : plI (uI (uI (uI σ 96 s 1) 97 (n1 σ) (Int32.ofNat s)) 81 41 (Int32.ofNat (n1 σ + 1))) (n1 (uI (uI (uI σ 96 s 1) 97 (n1 σ) (Int32.ofNat s)) 81 41 (Int32.ofNat (n1 σ + 1)))) := by
          rw [en]
          refine ⟨by rw [uI_1, if_pos ⟨rfl, rfl⟩], by omega, fun j hj => ?_⟩
          rw [uI_1, if_neg (by omega), uI_1]
          by_cases e : j = n1 σ
          · rw [if_pos ⟨rfl, e⟩]; exact ⟨s, by omega, rfl⟩
          · rw [if_neg (fun q => e q.2), uI_1, if_neg (by omega)]; exact hp.2.2 j (by omega)
        have fin : wpI d 229 [.ref 81] (mW w (uI (uI (uI σ 96 s 1) 97 (n1 σ) (Int32.ofNat s)) 81 41 (Int32.ofNat (n1 σ + 1)))) (fun x8 h7 => Wp 231 148 [.ref 81, .int a1, .int x8, x] [] h7 Q d) := by
          refine s_229 hw (mT_c hτ0 ((frZ_tr hf f2).1 83 (by omega) (by omega))) (mR_c hρ0 ((frZ_tr hf f2).1 85 (by omega) (by omega))) hv hr ?_ (fun s' hs' ht' => ?_) hd
          · exact ih _ _ _ (by omega) (frZ_tr hf f2) p2 (Or.inl rfl) hx
          · exact ih _ _ _ (by omega) (frZ_tr hf f2) p2 (Or.inr ⟨s', hs', ht', rfl⟩) hx
        rcases hx with rfl | ⟨u, rfl⟩
        · refine b231_148a ?_
          simp only [↓br_pos, ↓br_neg, ↓rF_I, ↓rF_L, ↓rF_R, ↓rF_N, rO_m, rB_m, ↓rI_m, wI_m, ↓rB2_m, ↓rB3_m, wB2_m, wB3_m, ↓rL_m, wL_m, ↓rQ_m, wQ_m, ↓lI_m, pI_m, pL_m, pR_m, sI_m, sBy_m, sBo_m, sL_m, sQ_m, fst_m, true_and, and_true, tg_some, ln_some, uI_1, uI_2, uL_1, uL_2, uL_3, uQ_1, uQ_2, uQ_3, rv_i, rv_l, rv_n, rv_b0, rv_b1, RMR, ne_eq, reduceCtorEq, not_false_eq_true, Option.getD_some, if_true, if_false, and_self, false_and, and_false, Nat.add_left_cancel_iff, Nat.add_eq_left, Nat.left_eq_add, Nat.one_ne_zero, Nat.reduceAdd, Nat.reduceLT, Nat.reduceLeDiff, Nat.reduceEqDiff, true_implies, false_implies, implies_true, Option.some.injEq, forall_eq', forall_eq, reduceCtorEq, brT, brF, br_s, i_10, i_01, ib_0_2, ib_1_2, tn_0, tn_1, Int32.le_refl, eq_self, rv_bN, rv_iM, RCM 81, RLY, lit_at hw, c1, ix (by omega : s < 8) (by omega), nb1, z, hp.1, ix (by omega : n1 σ < 8) (by omega), on_succ]
          exact fin
        · refine b231_148 ?_
          simp only [↓br_pos, ↓br_neg, ↓rF_I, ↓rF_L, ↓rF_R, ↓rF_N, rO_m, rB_m, ↓rI_m, wI_m, ↓rB2_m, ↓rB3_m, wB2_m, wB3_m, ↓rL_m, wL_m, ↓rQ_m, wQ_m, ↓lI_m, pI_m, pL_m, pR_m, sI_m, sBy_m, sBo_m, sL_m, sQ_m, fst_m, true_and, and_true, tg_some, ln_some, uI_1, uI_2, uL_1, uL_2, uL_3, uQ_1, uQ_2, uQ_3, rv_i, rv_l, rv_n, rv_b0, rv_b1, RMR, ne_eq, reduceCtorEq, not_false_eq_true, Option.getD_some, if_true, if_false, and_self, false_and, and_false, Nat.add_left_cancel_iff, Nat.add_eq_left, Nat.left_eq_add, Nat.one_ne_zero, Nat.reduceAdd, Nat.reduceLT, Nat.reduceLeDiff, Nat.reduceEqDiff, true_implies, false_implies, implies_true, Option.some.injEq, forall_eq', forall_eq, reduceCtorEq, brT, brF, br_s, i_10, i_01, ib_0_2, ib_1_2, tn_0, tn_1, Int32.le_refl, eq_self, rv_bN, rv_iM, RCM 81, RLY, lit_at hw, c1, ix (by omega : s < 8) (by omega), nb1, z, hp.1, ix (by omega : n1 σ < 8) (by omega), on_succ]
          exact fin
      · rw [if_neg z, Nat.add_zero] at nt
        have p2 : plI (uI σ 96 s 1) (n1 (uI σ 96 s 1)) := by
          rw [nt]
          exact ⟨by rw [uI_1, if_neg (by omega)]; exact hp.1, hp.2.1, fun j hj => by rw [uI_1, if_neg (by omega)]; exact hp.2.2 j hj⟩
        have fin : wpI d 229 [.ref 81] (mW w (uI σ 96 s 1)) (fun x8 h7 => Wp 231 148 [.ref 81, .int a1, .int x8, x] [] h7 Q d) := by
          refine s_229 hw (mT_c hτ0 ((frZ_tr hf f1).1 83 (by omega) (by omega))) (mR_c hρ0 ((frZ_tr hf f1).1 85 (by omega) (by omega))) hv hr ?_ (fun s' hs' ht' => ?_) hd
          · exact ih _ _ _ (by omega) (frZ_tr hf f1) p2 (Or.inl rfl) hx
          · exact ih _ _ _ (by omega) (frZ_tr hf f1) p2 (Or.inr ⟨s', hs', ht', rfl⟩) hx
        rcases hx with rfl | ⟨u, rfl⟩
        · refine b231_148a ?_
          simp only [↓br_pos, ↓br_neg, ↓rF_I, ↓rF_L, ↓rF_R, ↓rF_N, rO_m, rB_m, ↓rI_m, wI_m, ↓rB2_m, ↓rB3_m, wB2_m, wB3_m, ↓rL_m, wL_m, ↓rQ_m, wQ_m, ↓lI_m, pI_m, pL_m, pR_m, sI_m, sBy_m, sBo_m, sL_m, sQ_m, fst_m, true_and, and_true, tg_some, ln_some, uI_1, uI_2, uL_1, uL_2, uL_3, uQ_1, uQ_2, uQ_3, rv_i, rv_l, rv_n, rv_b0, rv_b1, RMR, ne_eq, reduceCtorEq, not_false_eq_true, Option.getD_some, if_true, if_false, and_self, false_and, and_false, Nat.add_left_cancel_iff, Nat.add_eq_left, Nat.left_eq_add, Nat.one_ne_zero, Nat.reduceAdd, Nat.reduceLT, Nat.reduceLeDiff, Nat.reduceEqDiff, true_implies, false_implies, implies_true, Option.some.injEq, forall_eq', forall_eq, reduceCtorEq, brT, brF, br_s, i_10, i_01, ib_0_2, ib_1_2, tn_0, tn_1, Int32.le_refl, eq_self, rv_bN, rv_iM, RCM 81, RLY, lit_at hw, c1, ix (by omega : s < 8) (by omega), nb1, z]
          exact fin
        · refine b231_148 ?_
          simp only [↓br_pos, ↓br_neg, ↓rF_I, ↓rF_L, ↓rF_R, ↓rF_N, rO_m, rB_m, ↓rI_m, wI_m, ↓rB2_m, ↓rB3_m, wB2_m, wB3_m, ↓rL_m, wL_m, ↓rQ_m, wQ_m, ↓lI_m, pI_m, pL_m, pR_m, sI_m, sBy_m, sBo_m, sL_m, sQ_m, fst_m, true_and, and_true, tg_some, ln_some, uI_1, uI_2, uL_1, uL_2, uL_3, uQ_1, uQ_2, uQ_3, rv_i, rv_l, rv_n, rv_b0, rv_b1, RMR, ne_eq, reduceCtorEq, not_false_eq_true, Option.getD_some, if_true, if_false, and_self, false_and, and_false, Nat.add_left_cancel_iff, Nat.add_eq_left, Nat.left_eq_add, Nat.one_ne_zero, Nat.reduceAdd, Nat.reduceLT, Nat.reduceLeDiff, Nat.reduceEqDiff, true_implies, false_implies, implies_true, Option.some.injEq, forall_eq', forall_eq, reduceCtorEq, brT, brF, br_s, i_10, i_01, ib_0_2, ib_1_2, tn_0, tn_1, Int32.le_refl, eq_self, rv_bN, rv_iM, RCM 81, RLY, lit_at hw, c1, ix (by omega : s < 8) (by omega), nb1, z]
          exact fin
theorem lp_231b {w : mT} {τ ρ : Rw} {d : Nat} {a1 : Int32} {σ0 : mS} {Q : Option (Option Value) → Hp → Prop} (hw : lit w) (hτ0 : mTold σ0 τ) (hρ0 : mRow σ0 85 0 ρ) (hv : vTold τ) (hr : vRow τ ρ) (hd : 2 ≤ d) (hQ : ∀ σ' m, frZ σ0 σ' → plI σ' m → Q (some none) (mW w σ')) : ∀ (r i : Nat) (σ : mS) (x : Value), i + r = 8 → frZ σ0 σ → σ.1 81 41 = 0 → (∀ j, j < i → σ.1 96 j = 0) → (x = jk ∨ ∃ u : Int32, x = .int u) → Wp 231 124 [.ref 81, .int a1, .int (Int32.ofNat i), x] [] (mW w σ) Q d := by
  intro r
  induction r with
  | zero =>
    intro i σ x hi hf h41 hz hx
    have hi' : i = 8 := by omega
    subst hi'
    have c8 : ((8 : Int32) ≤ Int32.ofNat 8) ↔ True := by decide
    have en : n1 σ = 0 := sm_z (fun j hj => if_neg (fun q => q.1 (hz j hj)))
    have hp : plI σ (n1 σ) := by rw [en]; exact ⟨h41, by omega, fun j hj => by omega⟩
    have fin : wpI d 229 [.ref 81] (mW w σ) (fun x2 h1 => Wp 231 148 [.ref 81, .int a1, .int x2, x] [] h1 Q d) := by
      refine s_229 hw (mT_c hτ0 (hf.1 83 (by omega) (by omega))) (mR_c hρ0 (hf.1 85 (by omega) (by omega))) hv hr ?_ (fun s' hs' ht' => ?_) hd
      · exact lp_231c hw hτ0 hρ0 hv hr hd hQ _ σ _ _ (Nat.le_refl _) hf hp (Or.inl rfl) hx
      · exact lp_231c hw hτ0 hρ0 hv hr hd hQ _ σ _ _ (Nat.le_refl _) hf hp (Or.inr ⟨s', hs', ht', rfl⟩) hx
    rcases hx with rfl | ⟨u, rfl⟩
    · refine b231_124a ?_
      simp only [↓br_pos, ↓br_neg, ↓rF_I, ↓rF_L, ↓rF_R, ↓rF_N, rO_m, rB_m, ↓rI_m, wI_m, ↓rB2_m, ↓rB3_m, wB2_m, wB3_m, ↓rL_m, wL_m, ↓rQ_m, wQ_m, ↓lI_m, pI_m, pL_m, pR_m, sI_m, sBy_m, sBo_m, sL_m, sQ_m, fst_m, true_and, and_true, tg_some, ln_some, uI_1, uI_2, uL_1, uL_2, uL_3, uQ_1, uQ_2, uQ_3, rv_i, rv_l, rv_n, rv_b0, rv_b1, RMR, ne_eq, reduceCtorEq, not_false_eq_true, Option.getD_some, if_true, if_false, and_self, false_and, and_false, Nat.add_left_cancel_iff, Nat.add_eq_left, Nat.left_eq_add, Nat.one_ne_zero, Nat.reduceAdd, Nat.reduceLT, Nat.reduceLeDiff, Nat.reduceEqDiff, true_implies, false_implies, implies_true, Option.some.injEq, forall_eq', forall_eq, reduceCtorEq, brT, brF, br_s, i_10, i_01, ib_0_2, ib_1_2, tn_0, tn_1, Int32.le_refl, eq_self, rv_bN, rv_iM, RCM 81, RLY, lit_at hw, c8]
      exact fin
    · refine b231_124 ?_
      simp only [↓br_pos, ↓br_neg, ↓rF_I, ↓rF_L, ↓rF_R, ↓rF_N, rO_m, rB_m, ↓rI_m, wI_m, ↓rB2_m, ↓rB3_m, wB2_m, wB3_m, ↓rL_m, wL_m, ↓rQ_m, wQ_m, ↓lI_m, pI_m, pL_m, pR_m, sI_m, sBy_m, sBo_m, sL_m, sQ_m, fst_m, true_and, and_true, tg_some, ln_some, uI_1, uI_2, uL_1, uL_2, uL_3, uQ_1, uQ_2, uQ_3, rv_i, rv_l, rv_n, rv_b0, rv_b1, RMR, ne_eq, reduceCtorEq, not_false_eq_true, Option.getD_some, if_true, if_false, and_self, false_and, and_false, Nat.add_left_cancel_iff, Nat.add_eq_left, Nat.left_eq_add, Nat.one_ne_zero, Nat.reduceAdd, Nat.reduceLT, Nat.reduceLeDiff, Nat.reduceEqDiff, true_implies, false_implies, implies_true, Option.some.injEq, forall_eq', forall_eq, reduceCtorEq, brT, brF, br_s, i_10, i_01, ib_0_2, ib_1_2, tn_0, tn_1, Int32.le_refl, eq_self, rv_bN, rv_iM, RCM 81, RLY, lit_at hw, c8]
      exact fin
  | succ r ih =>
    intro i σ x hi hf h41 hz hx
    have c8 : ((8 : Int32) ≤ Int32.ofNat i) ↔ False := iff_false_intro (fun q => absurd ((on_le (i := 8) (by omega) (by omega)).mp q) (by omega))
    have nx := ih (i + 1) (uI σ 96 i 0) x (by omega) (frZ_tr hf (frZ_I (by omega))) (by rw [uI_1, if_neg (by omega)]; exact h41) (fun j hj => by
      rw [uI_1]
      by_cases e : j = i
      · rw [if_pos ⟨rfl, e⟩]
      · rw [if_neg (fun q => e q.2)]; exact hz j (by omega)) hx
    rcases hx with rfl | ⟨u, rfl⟩
    · refine b231_124a ?_
      simp only [↓br_pos, ↓br_neg, ↓rF_I, ↓rF_L, ↓rF_R, ↓rF_N, rO_m, rB_m, ↓rI_m, wI_m, ↓rB2_m, ↓rB3_m, wB2_m, wB3_m, ↓rL_m, wL_m, ↓rQ_m, wQ_m, ↓lI_m, pI_m, pL_m, pR_m, sI_m, sBy_m, sBo_m, sL_m, sQ_m, fst_m, true_and, and_true, tg_some, ln_some, uI_1, uI_2, uL_1, uL_2, uL_3, uQ_1, uQ_2, uQ_3, rv_i, rv_l, rv_n, rv_b0, rv_b1, RMR, ne_eq, reduceCtorEq, not_false_eq_true, Option.getD_some, if_true, if_false, and_self, false_and, and_false, Nat.add_left_cancel_iff, Nat.add_eq_left, Nat.left_eq_add, Nat.one_ne_zero, Nat.reduceAdd, Nat.reduceLT, Nat.reduceLeDiff, Nat.reduceEqDiff, true_implies, false_implies, implies_true, Option.some.injEq, forall_eq', forall_eq, reduceCtorEq, brT, brF, br_s, i_10, i_01, ib_0_2, ib_1_2, tn_0, tn_1, Int32.le_refl, eq_self, rv_bN, rv_iM, RCM 81, RLY, lit_at hw, c8, ix (by omega : i < 8) (by omega), nb0, on_succ]
      exact nx
    · refine b231_124 ?_
      simp only [↓br_pos, ↓br_neg, ↓rF_I, ↓rF_L, ↓rF_R, ↓rF_N, rO_m, rB_m, ↓rI_m, wI_m, ↓rB2_m, ↓rB3_m, wB2_m, wB3_m, ↓rL_m, wL_m, ↓rQ_m, wQ_m, ↓lI_m, pI_m, pL_m, pR_m, sI_m, sBy_m, sBo_m, sL_m, sQ_m, fst_m, true_and, and_true, tg_some, ln_some, uI_1, uI_2, uL_1, uL_2, uL_3, uQ_1, uQ_2, uQ_3, rv_i, rv_l, rv_n, rv_b0, rv_b1, RMR, ne_eq, reduceCtorEq, not_false_eq_true, Option.getD_some, if_true, if_false, and_self, false_and, and_false, Nat.add_left_cancel_iff, Nat.add_eq_left, Nat.left_eq_add, Nat.one_ne_zero, Nat.reduceAdd, Nat.reduceLT, Nat.reduceLeDiff, Nat.reduceEqDiff, true_implies, false_implies, implies_true, Option.some.injEq, forall_eq', forall_eq, reduceCtorEq, brT, brF, br_s, i_10, i_01, ib_0_2, ib_1_2, tn_0, tn_1, Int32.le_refl, eq_self, rv_bN, rv_iM, RCM 81, RLY, lit_at hw, c8, ix (by omega : i < 8) (by omega), nb0, on_succ]
      exact nx
theorem lp_231a {w : mT} {τ ρ : Rw} {d : Nat} {σ0 : mS} {Q : Option (Option Value) → Hp → Prop} (hw : lit w) (hτ0 : mTold σ0 τ) (hρ0 : mRow σ0 85 0 ρ) (hv : vTold τ) (hr : vRow τ ρ) (hd : 2 ≤ d) (hQ : ∀ σ' m, frZ σ0 σ' → plI σ' m → Q (some none) (mW w σ')) : ∀ (f : Nat) (σ : mS) (a1 a2 : Int32) (x : Value), uk σ ≤ f → frZ σ0 σ → (∀ j, j < 8 → σ.1 95 j ≠ 0 → σ.1 96 j ≠ 0) → (a2 = -1 ∨ ∃ s, s < τ 2 ∧ σ.1 96 s = 0 ∧ a2 = Int32.ofNat s) → (x = jk ∨ ∃ u : Int32, x = .int u) → Wp 231 47 [.ref 81, .int a1, .int a2, x] [] (mW w σ) Q d := by
  have hd1 : 1 ≤ d := by omega
  have v2 := hv.2.2.1
  have base : ∀ (σ : mS) (a1 : Int32) (x : Value), frZ σ0 σ → (x = jk ∨ ∃ u : Int32, x = .int u) → Wp 231 47 [.ref 81, .int a1, .int (-1 : Int32), x] [] (mW w σ) Q d := fun σ a1 x hf hx => by
    have c1 : ((-1 : Int32) = -1) ↔ True := iff_true_intro rfl
    have f1 : frZ σ (uI σ 81 41 0) := frZ_0 (by omega)
    have fin := lp_231b (a1 := a1) (d := d) hw hτ0 hρ0 hv hr hd hQ 8 0 (uI σ 81 41 0) x (by omega) (frZ_tr hf f1) (by rw [uI_1, if_pos ⟨rfl, rfl⟩]) (fun j hj => by omega) hx
    rcases hx with rfl | ⟨u, rfl⟩
    · refine b231_47 ?_
      simp only [↓br_pos, ↓br_neg, ↓rF_I, ↓rF_L, ↓rF_R, ↓rF_N, rO_m, rB_m, ↓rI_m, wI_m, ↓rB2_m, ↓rB3_m, wB2_m, wB3_m, ↓rL_m, wL_m, ↓rQ_m, wQ_m, ↓lI_m, pI_m, pL_m, pR_m, sI_m, sBy_m, sBo_m, sL_m, sQ_m, fst_m, true_and, and_true, tg_some, ln_some, uI_1, uI_2, uL_1, uL_2, uL_3, uQ_1, uQ_2, uQ_3, rv_i, rv_l, rv_n, rv_b0, rv_b1, RMR, ne_eq, reduceCtorEq, not_false_eq_true, Option.getD_some, if_true, if_false, and_self, false_and, and_false, Nat.add_left_cancel_iff, Nat.add_eq_left, Nat.left_eq_add, Nat.one_ne_zero, Nat.reduceAdd, Nat.reduceLT, Nat.reduceLeDiff, Nat.reduceEqDiff, true_implies, false_implies, implies_true, Option.some.injEq, forall_eq', forall_eq, reduceCtorEq, brT, brF, br_s, i_10, i_01, ib_0_2, ib_1_2, tn_0, tn_1, Int32.le_refl, eq_self, rv_bN, rv_iM, RCM 81, RLY, lit_at hw, c1]
      exact fin
    · refine b231_47a ?_
      simp only [↓br_pos, ↓br_neg, ↓rF_I, ↓rF_L, ↓rF_R, ↓rF_N, rO_m, rB_m, ↓rI_m, wI_m, ↓rB2_m, ↓rB3_m, wB2_m, wB3_m, ↓rL_m, wL_m, ↓rQ_m, wQ_m, ↓lI_m, pI_m, pL_m, pR_m, sI_m, sBy_m, sBo_m, sL_m, sQ_m, fst_m, true_and, and_true, tg_some, ln_some, uI_1, uI_2, uL_1, uL_2, uL_3, uQ_1, uQ_2, uQ_3, rv_i, rv_l, rv_n, rv_b0, rv_b1, RMR, ne_eq, reduceCtorEq, not_false_eq_true, Option.getD_some, if_true, if_false, and_self, false_and, and_false, Nat.add_left_cancel_iff, Nat.add_eq_left, Nat.left_eq_add, Nat.one_ne_zero, Nat.reduceAdd, Nat.reduceLT, Nat.reduceLeDiff, Nat.reduceEqDiff, true_implies, false_implies, implies_true, Option.some.injEq, forall_eq', forall_eq, reduceCtorEq, brT, brF, br_s, i_10, i_01, ib_0_2, ib_1_2, tn_0, tn_1, Int32.le_refl, eq_self, rv_bN, rv_iM, RCM 81, RLY, lit_at hw, c1]
      exact fin
  intro f
  induction f with
  | zero =>
    intro σ a1 a2 x hu hf hI ha hx
    rcases ha with rfl | ⟨s, hs, ht, rfl⟩
    · exact base σ a1 x hf hx
    · have := uk_t (by omega : s < 8) ht
      omega
  | succ f ih =>
    intro σ a1 a2 x hu hf hI ha hx
    rcases ha with rfl | ⟨s, hs, ht, rfl⟩
    · exact base σ a1 x hf hx
    have ut := uk_t (by omega : s < 8) ht
    have c1 : (Int32.ofNat s = (-1 : Int32)) ↔ False := on_m1 (by omega)
    have f1 : frZ σ (uI σ 96 s 1) := frZ_I (by omega)
    have hτ1 := mT_c hτ0 ((frZ_tr hf f1).1 83 (by omega) (by omega))
    have hρ1 := mR_c hρ0 ((frZ_tr hf f1).1 85 (by omega) (by omega))
    have o0 : σ.1 95 s = 0 := by
      apply Decidable.byContradiction
      intro q
      exact hI s (by omega) q ht
    have I1 : ∀ j, j < 8 → (uI σ 96 s 1).1 95 j ≠ 0 → (uI σ 96 s 1).1 96 j ≠ 0 := fun j hj hz => by
      rw [uI_1, if_neg (by omega)] at hz
      rw [uI_1]
      by_cases e : j = s
      · rw [if_pos ⟨rfl, e⟩]; decide
      · rw [if_neg (fun q => e q.2)]; exact hI j hj hz
    have g4 := fun {K : Int32 → Hp → Prop} => g_155 (K := K) (s := s) (x := 4) (a := 4) hw hτ1 rfl (by omega) hd1
    have g3 := fun {K : Int32 → Hp → Prop} => g_155 (K := K) (s := s) (x := 3) (a := 3) hw hτ1 rfl (by omega) hd1
    rcases hx with rfl | ⟨u, rfl⟩
    · skip
      refine b231_47 ?_
      simp only [↓rF_I, ↓rF_L, ↓rF_R, ↓rF_N, rO_m, rB_m, ↓rI_m, wI_m, ↓rB2_m, ↓rB3_m, wB2_m, wB3_m, ↓rL_m, wL_m, ↓rQ_m, wQ_m, ↓lI_m, pI_m, pL_m, pR_m, sI_m, sBy_m, sBo_m, sL_m, sQ_m, fst_m, true_and, and_true, tg_some, ln_some, uI_1, uI_2, uL_1, uL_2, uL_3, uQ_1, uQ_2, uQ_3, rv_i, rv_l, rv_n, rv_b0, rv_b1, RMR, ne_eq, reduceCtorEq, not_false_eq_true, Option.getD_some, if_true, if_false, and_self, false_and, and_false, Nat.add_left_cancel_iff, Nat.add_eq_left, Nat.left_eq_add, Nat.one_ne_zero, Nat.reduceAdd, Nat.reduceLT, Nat.reduceLeDiff, Nat.reduceEqDiff, true_implies, false_implies, implies_true, Option.some.injEq, forall_eq', forall_eq, reduceCtorEq, brT, brF, br_s, i_10, i_01, ib_0_2, ib_1_2, tn_0, tn_1, Int32.le_refl, eq_self, rv_bN, rv_iM, RCM 81, RLY, lit_at hw, c1, ix (by omega : s < 8) (by omega), nb1, g4, g3]
      refine br2 ?_ ?_
      · refine s_229 hw hτ1 hρ1 hv hr ?_ (fun s' hs' ht' => ?_) hd
        · exact ih _ _ _ _ (by omega) (frZ_tr hf f1) I1 (Or.inl rfl) (Or.inl rfl)
        · exact ih _ _ _ _ (by omega) (frZ_tr hf f1) I1 (Or.inr ⟨s', hs', ht', rfl⟩) (Or.inl rfl)
      · refine s_230 hw hτ1 hρ1 hv hr ⟨s, hs, by rw [uI_1, if_pos ⟨rfl, rfl⟩]; decide, by rw [uI_1, if_neg (by omega)]; exact o0⟩ (fun q hq tq oq => ?_) hd
        have f3 := fun x : Int32 => (frZ_tr f1 (frZ_tr (frZ_I (by omega)) (frZ_0 (by omega))) : frZ σ (uI (uI (uI σ 96 s 1) 95 q 1) 81 42 x))
        have I3 : ∀ (x : Int32) j, j < 8 → (uI (uI (uI σ 96 s 1) 95 q 1) 81 42 x).1 95 j ≠ 0 → (uI (uI (uI σ 96 s 1) 95 q 1) 81 42 x).1 96 j ≠ 0 := fun x j hj hz => by
          rw [uI_1, if_neg (by omega), uI_1] at hz
          rw [uI_1, if_neg (by omega), uI_1, if_neg (by omega)]
          by_cases e : j = q
          · rw [e]; exact tq
          · rw [if_neg (fun q => e q.2)] at hz; exact I1 j hj hz
        have u3 : ∀ x : Int32, uk (uI (uI (uI σ 96 s 1) 95 q 1) 81 42 x) = uk (uI σ 96 s 1) := fun x => uk_c (by rw [uI_o (by omega), uI_o (by omega)])
        have g5 := fun {x : Int32} {K : Int32 → Hp → Prop} => g_155 (K := K) (s := q) (x := 4) (a := 4) hw (mT_c hτ0 ((frZ_tr hf (f3 x)).1 83 (by omega) (by omega))) rfl (by omega) hd1
        simp only [↓rF_I, ↓rF_L, ↓rF_R, ↓rF_N, rO_m, rB_m, ↓rI_m, wI_m, ↓rB2_m, ↓rB3_m, wB2_m, wB3_m, ↓rL_m, wL_m, ↓rQ_m, wQ_m, ↓lI_m, pI_m, pL_m, pR_m, sI_m, sBy_m, sBo_m, sL_m, sQ_m, fst_m, true_and, and_true, tg_some, ln_some, uI_1, uI_2, uL_1, uL_2, uL_3, uQ_1, uQ_2, uQ_3, rv_i, rv_l, rv_n, rv_b0, rv_b1, RMR, ne_eq, reduceCtorEq, not_false_eq_true, Option.getD_some, if_true, if_false, and_self, false_and, and_false, Nat.add_left_cancel_iff, Nat.add_eq_left, Nat.left_eq_add, Nat.one_ne_zero, Nat.reduceAdd, Nat.reduceLT, Nat.reduceLeDiff, Nat.reduceEqDiff, true_implies, false_implies, implies_true, Option.some.injEq, forall_eq', forall_eq, reduceCtorEq, brT, brF, br_s, i_10, i_01, ib_0_2, ib_1_2, tn_0, tn_1, Int32.le_refl, eq_self, rv_bN, rv_iM, RCM 81, RLY, lit_at hw, ix (by omega : q < 8) (by omega), nb1, g5]
        refine s_229 hw (mT_c hτ0 ((frZ_tr hf (f3 _)).1 83 (by omega) (by omega))) (mR_c hρ0 ((frZ_tr hf (f3 _)).1 85 (by omega) (by omega))) hv hr ?_ (fun s' hs' ht' => ?_) hd
        · exact ih _ _ _ _ (by rw [u3]; omega) (frZ_tr hf (f3 _)) (I3 _) (Or.inl rfl) (Or.inr ⟨_, rfl⟩)
        · exact ih _ _ _ _ (by rw [u3]; omega) (frZ_tr hf (f3 _)) (I3 _) (Or.inr ⟨s', hs', ht', rfl⟩) (Or.inr ⟨_, rfl⟩)
    · skip
      refine b231_47a ?_
      simp only [↓rF_I, ↓rF_L, ↓rF_R, ↓rF_N, rO_m, rB_m, ↓rI_m, wI_m, ↓rB2_m, ↓rB3_m, wB2_m, wB3_m, ↓rL_m, wL_m, ↓rQ_m, wQ_m, ↓lI_m, pI_m, pL_m, pR_m, sI_m, sBy_m, sBo_m, sL_m, sQ_m, fst_m, true_and, and_true, tg_some, ln_some, uI_1, uI_2, uL_1, uL_2, uL_3, uQ_1, uQ_2, uQ_3, rv_i, rv_l, rv_n, rv_b0, rv_b1, RMR, ne_eq, reduceCtorEq, not_false_eq_true, Option.getD_some, if_true, if_false, and_self, false_and, and_false, Nat.add_left_cancel_iff, Nat.add_eq_left, Nat.left_eq_add, Nat.one_ne_zero, Nat.reduceAdd, Nat.reduceLT, Nat.reduceLeDiff, Nat.reduceEqDiff, true_implies, false_implies, implies_true, Option.some.injEq, forall_eq', forall_eq, reduceCtorEq, brT, brF, br_s, i_10, i_01, ib_0_2, ib_1_2, tn_0, tn_1, Int32.le_refl, eq_self, rv_bN, rv_iM, RCM 81, RLY, lit_at hw, c1, ix (by omega : s < 8) (by omega), nb1, g4, g3]
      refine br2 ?_ ?_
      · refine s_229 hw hτ1 hρ1 hv hr ?_ (fun s' hs' ht' => ?_) hd
        · exact ih _ _ _ _ (by omega) (frZ_tr hf f1) I1 (Or.inl rfl) (Or.inr ⟨_, rfl⟩)
        · exact ih _ _ _ _ (by omega) (frZ_tr hf f1) I1 (Or.inr ⟨s', hs', ht', rfl⟩) (Or.inr ⟨_, rfl⟩)
      · refine s_230 hw hτ1 hρ1 hv hr ⟨s, hs, by rw [uI_1, if_pos ⟨rfl, rfl⟩]; decide, by rw [uI_1, if_neg (by omega)]; exact o0⟩ (fun q hq tq oq => ?_) hd
        have f3 := fun x : Int32 => (frZ_tr f1 (frZ_tr (frZ_I (by omega)) (frZ_0 (by omega))) : frZ σ (uI (uI (uI σ 96 s 1) 95 q 1) 81 42 x))
        have I3 : ∀ (x : Int32) j, j < 8 → (uI (uI (uI σ 96 s 1) 95 q 1) 81 42 x).1 95 j ≠ 0 → (uI (uI (uI σ 96 s 1) 95 q 1) 81 42 x).1 96 j ≠ 0 := fun x j hj hz => by
          rw [uI_1, if_neg (by omega), uI_1] at hz
          rw [uI_1, if_neg (by omega), uI_1, if_neg (by omega)]
          by_cases e : j = q
          · rw [e]; exact tq
          · rw [if_neg (fun q => e q.2)] at hz; exact I1 j hj hz
        have u3 : ∀ x : Int32, uk (uI (uI (uI σ 96 s 1) 95 q 1) 81 42 x) = uk (uI σ 96 s 1) := fun x => uk_c (by rw [uI_o (by omega), uI_o (by omega)])
        have g5 := fun {x : Int32} {K : Int32 → Hp → Prop} => g_155 (K := K) (s := q) (x := 4) (a := 4) hw (mT_c hτ0 ((frZ_tr hf (f3 x)).1 83 (by omega) (by omega))) rfl (by omega) hd1
        simp only [↓rF_I, ↓rF_L, ↓rF_R, ↓rF_N, rO_m, rB_m, ↓rI_m, wI_m, ↓rB2_m, ↓rB3_m, wB2_m, wB3_m, ↓rL_m, wL_m, ↓rQ_m, wQ_m, ↓lI_m, pI_m, pL_m, pR_m, sI_m, sBy_m, sBo_m, sL_m, sQ_m, fst_m, true_and, and_true, tg_some, ln_some, uI_1, uI_2, uL_1, uL_2, uL_3, uQ_1, uQ_2, uQ_3, rv_i, rv_l, rv_n, rv_b0, rv_b1, RMR, ne_eq, reduceCtorEq, not_false_eq_true, Option.getD_some, if_true, if_false, and_self, false_and, and_false, Nat.add_left_cancel_iff, Nat.add_eq_left, Nat.left_eq_add, Nat.one_ne_zero, Nat.reduceAdd, Nat.reduceLT, Nat.reduceLeDiff, Nat.reduceEqDiff, true_implies, false_implies, implies_true, Option.some.injEq, forall_eq', forall_eq, reduceCtorEq, brT, brF, br_s, i_10, i_01, ib_0_2, ib_1_2, tn_0, tn_1, Int32.le_refl, eq_self, rv_bN, rv_iM, RCM 81, RLY, lit_at hw, ix (by omega : q < 8) (by omega), nb1, g5]
        refine s_229 hw (mT_c hτ0 ((frZ_tr hf (f3 _)).1 83 (by omega) (by omega))) (mR_c hρ0 ((frZ_tr hf (f3 _)).1 85 (by omega) (by omega))) hv hr ?_ (fun s' hs' ht' => ?_) hd
        · exact ih _ _ _ _ (by rw [u3]; omega) (frZ_tr hf (f3 _)) (I3 _) (Or.inl rfl) (Or.inr ⟨_, rfl⟩)
        · exact ih _ _ _ _ (by rw [u3]; omega) (frZ_tr hf (f3 _)) (I3 _) (Or.inr ⟨s', hs', ht', rfl⟩) (Or.inr ⟨_, rfl⟩)
theorem lp_231 {w : mT} {τ ρ : Rw} {d : Nat} {σ0 : mS} {Q : Option (Option Value) → Hp → Prop} (hw : lit w) (hτ0 : mTold σ0 τ) (hρ0 : mRow σ0 85 0 ρ) (hv : vTold τ) (hr : vRow τ ρ) (hd : 2 ≤ d) (hQ : ∀ σ' m, frZ σ0 σ' → plI σ' m → Q (some none) (mW w σ')) : ∀ (r i : Nat) (σ : mS), i + r = 8 → frZ σ0 σ → (∀ j, j < i → σ.1 95 j = 0) → Wp 231 2 [.ref 81, .int (Int32.ofNat i), jk, jk] [] (mW w σ) Q d := by
  intro r
  induction r with
  | zero =>
    intro i σ hi hf hz
    have hi' : i = 8 := by omega
    subst hi'
    have c8 : ((8 : Int32) ≤ Int32.ofNat 8) ↔ True := by decide
    have f1 : frZ σ (uI σ 81 42 0) := frZ_0 (by omega)
    have hτ1 := mT_c hτ0 ((frZ_tr hf f1).1 83 (by omega) (by omega))
    have hρ1 := mR_c hρ0 ((frZ_tr hf f1).1 85 (by omega) (by omega))
    have I1 : ∀ j, j < 8 → (uI σ 81 42 0).1 95 j ≠ 0 → (uI σ 81 42 0).1 96 j ≠ 0 := fun j hj q => absurd (by rw [uI_1, if_neg (by omega)]; exact hz j hj) q
    have hρ := mR_c hρ0 (hf.1 85 (by omega) (by omega))
    refine b231_2 ?_
    simp only [↓br_pos, ↓br_neg, ↓rF_I, ↓rF_L, ↓rF_R, ↓rF_N, rO_m, rB_m, ↓rI_m, wI_m, ↓rB2_m, ↓rB3_m, wB2_m, wB3_m, ↓rL_m, wL_m, ↓rQ_m, wQ_m, ↓lI_m, pI_m, pL_m, pR_m, sI_m, sBy_m, sBo_m, sL_m, sQ_m, fst_m, true_and, and_true, tg_some, ln_some, uI_1, uI_2, uL_1, uL_2, uL_3, uQ_1, uQ_2, uQ_3, rv_i, rv_l, rv_n, rv_b0, rv_b1, RMR, ne_eq, reduceCtorEq, not_false_eq_true, Option.getD_some, if_true, if_false, and_self, false_and, and_false, Nat.add_left_cancel_iff, Nat.add_eq_left, Nat.left_eq_add, Nat.one_ne_zero, Nat.reduceAdd, Nat.reduceLT, Nat.reduceLeDiff, Nat.reduceEqDiff, true_implies, false_implies, implies_true, Option.some.injEq, forall_eq', forall_eq, reduceCtorEq, brT, brF, br_s, i_10, i_01, ib_0_2, ib_1_2, tn_0, tn_1, Int32.le_refl, eq_self, rv_bN, rv_iM, RCM 81, RLY, lit_at hw, c8, mr_0l hρ]
    refine s_229 hw hτ1 hρ1 hv hr ?_ (fun s' hs' ht' => ?_) hd
    · exact lp_231a hw hτ0 hρ0 hv hr hd hQ _ _ _ _ _ (Nat.le_refl _) (frZ_tr hf f1) I1 (Or.inl rfl) (Or.inl rfl)
    · exact lp_231a hw hτ0 hρ0 hv hr hd hQ _ _ _ _ _ (Nat.le_refl _) (frZ_tr hf f1) I1 (Or.inr ⟨s', hs', ht', rfl⟩) (Or.inl rfl)
  | succ r ih =>
    intro i σ hi hf hz
    have c8 : ((8 : Int32) ≤ Int32.ofNat i) ↔ False := iff_false_intro (fun q => absurd ((on_le (i := 8) (by omega) (by omega)).mp q) (by omega))
    refine b231_2 ?_
    simp only [↓br_pos, ↓br_neg, ↓rF_I, ↓rF_L, ↓rF_R, ↓rF_N, rO_m, rB_m, ↓rI_m, wI_m, ↓rB2_m, ↓rB3_m, wB2_m, wB3_m, ↓rL_m, wL_m, ↓rQ_m, wQ_m, ↓lI_m, pI_m, pL_m, pR_m, sI_m, sBy_m, sBo_m, sL_m, sQ_m, fst_m, true_and, and_true, tg_some, ln_some, uI_1, uI_2, uL_1, uL_2, uL_3, uQ_1, uQ_2, uQ_3, rv_i, rv_l, rv_n, rv_b0, rv_b1, RMR, ne_eq, reduceCtorEq, not_false_eq_true, Option.getD_some, if_true, if_false, and_self, false_and, and_false, Nat.add_left_cancel_iff, Nat.add_eq_left, Nat.left_eq_add, Nat.one_ne_zero, Nat.reduceAdd, Nat.reduceLT, Nat.reduceLeDiff, Nat.reduceEqDiff, true_implies, false_implies, implies_true, Option.some.injEq, forall_eq', forall_eq, reduceCtorEq, brT, brF, br_s, i_10, i_01, ib_0_2, ib_1_2, tn_0, tn_1, Int32.le_refl, eq_self, rv_bN, rv_iM, RCM 81, RLY, lit_at hw, c8, ix (by omega : i < 8) (by omega), nb0, on_succ]
    refine ih (i + 1) _ (by omega) (frZ_tr hf (frZ_tr (frZ_I (by omega)) (frZ_I (by omega)))) (fun j hj => ?_)
    rw [uI_1, if_neg (by omega), uI_1]
    by_cases e : j = i
    · rw [if_pos ⟨rfl, e⟩]
    · rw [if_neg (fun q => e q.2)]; exact hz j (by omega)
theorem s_231 {w : mT} {σ : mS} {τ ρ : Rw} {D : Nat} {K : Hp → Prop} (hw : lit w) (hτ : mTold σ τ) (hρ : mRow σ 85 0 ρ) (hv : vTold τ) (hr : vRow τ ρ) (hK : ∀ σ' m, frZ σ σ' → plI σ' m → K (mW w σ')) (hD : 3 ≤ D) : wpV D 231 [.ref 81] (mW w σ) K := by
  refine sV_of (m := 2) (fun d hd Q hQ => ?_) rfl hD
  exact b231_0 (lp_231 hw hτ hρ hv hr hd (fun σ' m f p => hQ _ (hK σ' m f p)) 8 0 σ (by omega) frZ_rf (fun j hj => by omega))
theorem lp_234 {w : mT} {σ : mS} {τ : Rw} {m d : Nat} {a1 : Int32} {Q : Option (Option Value) → Hp → Prop} (hw : lit w) (hτ : mTold σ τ) (hp : plI σ m) (hd : 1 ≤ d) (hQ : ∀ x : Int32, Q (some (some (.int x))) (mW w σ)) : ∀ (r i : Nat) (a2 : Int32), i + r = m → Wp 234 11 [.ref 81, .int a1, .int a2, .int (Int32.ofNat i)] [] (mW w σ) Q d := by
  have m8 := hp.2.1
  intro r
  induction r with
  | zero =>
    intro i a2 hi
    have hi' : i = m := by omega
    subst hi'
    refine b234_11 ?_
    simp only [↓br_pos, ↓br_neg, ↓rF_I, ↓rF_L, ↓rF_R, ↓rF_N, rO_m, rB_m, ↓rI_m, wI_m, ↓rB2_m, ↓rB3_m, wB2_m, wB3_m, ↓rL_m, wL_m, ↓rQ_m, wQ_m, ↓lI_m, pI_m, pL_m, pR_m, sI_m, sBy_m, sBo_m, sL_m, sQ_m, fst_m, true_and, and_true, tg_some, ln_some, uI_1, uI_2, uL_1, uL_2, uL_3, uQ_1, uQ_2, uQ_3, rv_i, rv_l, rv_n, rv_b0, rv_b1, RMR, ne_eq, reduceCtorEq, not_false_eq_true, Option.getD_some, if_true, if_false, and_self, false_and, and_false, Nat.add_left_cancel_iff, Nat.add_eq_left, Nat.left_eq_add, Nat.one_ne_zero, Nat.reduceAdd, Nat.reduceLT, Nat.reduceLeDiff, Nat.reduceEqDiff, true_implies, false_implies, implies_true, Option.some.injEq, forall_eq', forall_eq, reduceCtorEq, brT, brF, br_s, i_10, i_01, ib_0_2, ib_1_2, tn_0, tn_1, Int32.le_refl, eq_self, rv_bN, rv_iM, RCM 81, RLY, lit_at hw, hp.1, Int32.le_refl]
    exact hQ _
  | succ r ih =>
    intro i a2 hi
    have l1 : (Int32.ofNat m ≤ Int32.ofNat i) ↔ False := iff_false_intro (fun q => absurd ((on_le (by omega) (by omega)).mp q) (by omega))
    obtain ⟨s, hs, es⟩ := hp.2.2 i (by omega)
    have g4 := fun {K : Int32 → Hp → Prop} => g_155 (K := K) (s := s) (x := 4) (a := 4) hw hτ rfl (by omega) hd
    refine b234_11 ?_
    simp only [↓rF_I, ↓rF_L, ↓rF_R, ↓rF_N, rO_m, rB_m, ↓rI_m, wI_m, ↓rB2_m, ↓rB3_m, wB2_m, wB3_m, ↓rL_m, wL_m, ↓rQ_m, wQ_m, ↓lI_m, pI_m, pL_m, pR_m, sI_m, sBy_m, sBo_m, sL_m, sQ_m, fst_m, true_and, and_true, tg_some, ln_some, uI_1, uI_2, uL_1, uL_2, uL_3, uQ_1, uQ_2, uQ_3, rv_i, rv_l, rv_n, rv_b0, rv_b1, RMR, ne_eq, reduceCtorEq, not_false_eq_true, Option.getD_some, if_true, if_false, and_self, false_and, and_false, Nat.add_left_cancel_iff, Nat.add_eq_left, Nat.left_eq_add, Nat.one_ne_zero, Nat.reduceAdd, Nat.reduceLT, Nat.reduceLeDiff, Nat.reduceEqDiff, true_implies, false_implies, implies_true, Option.some.injEq, forall_eq', forall_eq, reduceCtorEq, brT, brF, br_s, i_10, i_01, ib_0_2, ib_1_2, tn_0, tn_1, Int32.le_refl, eq_self, rv_bN, rv_iM, RCM 81, RLY, lit_at hw, hp.1, l1, ix (by omega : i < 8) (by omega), es, g4, on_succ]
    exact br2 (hQ _) (ih (i + 1) _ (by omega))
theorem s_234 {w : mT} {σ : mS} {τ ρ : Rw} {m D : Nat} {a : Int32} {K : Int32 → Hp → Prop} (hw : lit w) (hτ : mTold σ τ) (hρ : mRow σ 85 0 ρ) (hp : plI σ m) (hK : ∀ x, K x (mW w σ)) (hD : 2 ≤ D) : wpI D 234 [.ref 81, .int a] (mW w σ) K := by
  refine sI_of (m := 1) (fun d hd Q hQ => ?_) rfl hD
  refine b234_0 ?_
  simp only [↓br_pos, ↓br_neg, ↓rF_I, ↓rF_L, ↓rF_R, ↓rF_N, rO_m, rB_m, ↓rI_m, wI_m, ↓rB2_m, ↓rB3_m, wB2_m, wB3_m, ↓rL_m, wL_m, ↓rQ_m, wQ_m, ↓lI_m, pI_m, pL_m, pR_m, sI_m, sBy_m, sBo_m, sL_m, sQ_m, fst_m, true_and, and_true, tg_some, ln_some, uI_1, uI_2, uL_1, uL_2, uL_3, uQ_1, uQ_2, uQ_3, rv_i, rv_l, rv_n, rv_b0, rv_b1, RMR, ne_eq, reduceCtorEq, not_false_eq_true, Option.getD_some, if_true, if_false, and_self, false_and, and_false, Nat.add_left_cancel_iff, Nat.add_eq_left, Nat.left_eq_add, Nat.one_ne_zero, Nat.reduceAdd, Nat.reduceLT, Nat.reduceLeDiff, Nat.reduceEqDiff, true_implies, false_implies, implies_true, Option.some.injEq, forall_eq', forall_eq, reduceCtorEq, brT, brF, br_s, i_10, i_01, ib_0_2, ib_1_2, tn_0, tn_1, Int32.le_refl, eq_self, rv_bN, rv_iM, RCM 81, RLY, lit_at hw, mr_0l hρ]
  exact lp_234 hw hτ hp hd (fun x => hQ _ _ (hK x)) m 0 _ (by omega)
theorem m_232 {w : mT} {σ : mS} {tp n : Nat} {t : Nat → Nat} {τ ρ : Rw} {bk : Nat → Rw} {has : Nat → Bool} {im : Nat → Rw}  {D : Nat} {K : Int32 → Hp → Prop} (h : mIn w σ tp t τ ρ n bk has im) (hK : ∀ v σ', frA σ σ' → mIn w σ' tp t τ ρ n bk has im → K v (mW w σ')) (hD : 4 ≤ D) : wpI D 232 [.ref 81] (mW w σ) K := by
  have M := h
  obtain ⟨hw, hτ, hρ, hv, hr, hp2, htp, htb, htl, hn, hn12, hbk, him⟩ := h
  have M0 := mIn_Z M (frZ_0 (j := 0) (x := 0) (by omega))
  obtain ⟨_, hτ0, hρ0, _, _, hp20, _, htb0, _, hn0, _, hbk0, him0⟩ := M0
  have M0 := mIn_Z M (frZ_0 (j := 0) (x := 0) (by omega))
  refine sI_of (m := 3) (fun d hd Q hQ => ?_) rfl hD
  have fin := fun (v : Int32) σ' (f : frZ (uI σ 81 0 0) σ') => hQ _ _ (hK v σ' (frZ_A (frZ_tr (frZ_0 (by omega)) f)) (mIn_Z M (frZ_tr (frZ_0 (by omega)) f)))
  refine b232_0 ?_
  simp only [↓br_pos, ↓br_neg, ↓rF_I, ↓rF_L, ↓rF_R, ↓rF_N, rO_m, rB_m, ↓rI_m, wI_m, ↓rB2_m, ↓rB3_m, wB2_m, wB3_m, ↓rL_m, wL_m, ↓rQ_m, wQ_m, ↓lI_m, pI_m, pL_m, pR_m, sI_m, sBy_m, sBo_m, sL_m, sQ_m, fst_m, true_and, and_true, tg_some, ln_some, uI_1, uI_2, uL_1, uL_2, uL_3, uQ_1, uQ_2, uQ_3, rv_i, rv_l, rv_n, rv_b0, rv_b1, RMR, ne_eq, reduceCtorEq, not_false_eq_true, Option.getD_some, if_true, if_false, and_self, false_and, and_false, Nat.add_left_cancel_iff, Nat.add_eq_left, Nat.left_eq_add, Nat.one_ne_zero, Nat.reduceAdd, Nat.reduceLT, Nat.reduceLeDiff, Nat.reduceEqDiff, true_implies, false_implies, implies_true, Option.some.injEq, forall_eq', forall_eq, reduceCtorEq, brT, brF, br_s, i_10, i_01, ib_0_2, ib_1_2, tn_0, tn_1, Int32.le_refl, eq_self, rv_bN, rv_iM, RCM 81, RLY, lit_at hw]
  refine s_231 hw hτ0 hρ0 hv hr (fun σ' m f p => ?_) hd
  simp only [↓br_pos, ↓br_neg, ↓rF_I, ↓rF_L, ↓rF_R, ↓rF_N, rO_m, rB_m, ↓rI_m, wI_m, ↓rB2_m, ↓rB3_m, wB2_m, wB3_m, ↓rL_m, wL_m, ↓rQ_m, wQ_m, ↓lI_m, pI_m, pL_m, pR_m, sI_m, sBy_m, sBo_m, sL_m, sQ_m, fst_m, true_and, and_true, tg_some, ln_some, uI_1, uI_2, uL_1, uL_2, uL_3, uQ_1, uQ_2, uQ_3, rv_i, rv_l, rv_n, rv_b0, rv_b1, RMR, ne_eq, reduceCtorEq, not_false_eq_true, Option.getD_some, if_true, if_false, and_self, false_and, and_false, Nat.add_left_cancel_iff, Nat.add_eq_left, Nat.left_eq_add, Nat.one_ne_zero, Nat.reduceAdd, Nat.reduceLT, Nat.reduceLeDiff, Nat.reduceEqDiff, true_implies, false_implies, implies_true, Option.some.injEq, forall_eq', forall_eq, reduceCtorEq, brT, brF, br_s, i_10, i_01, ib_0_2, ib_1_2, tn_0, tn_1, Int32.le_refl, eq_self, rv_bN, rv_iM, RCM 81, RLY, lit_at hw]
  exact fin _ σ' f
theorem m_233 {w : mT} {σ : mS} {tp n : Nat} {t : Nat → Nat} {τ ρ : Rw} {bk : Nat → Rw} {has : Nat → Bool} {im : Nat → Rw} {a : Int32} {D : Nat} {K : Int32 → Hp → Prop} (h : mIn w σ tp t τ ρ n bk has im) (hK : ∀ v σ', frA σ σ' → mIn w σ' tp t τ ρ n bk has im → K v (mW w σ')) (hD : 4 ≤ D) : wpI D 233 [.ref 81, .int a] (mW w σ) K := by
  have M := h
  obtain ⟨hw, hτ, hρ, hv, hr, hp2, htp, htb, htl, hn, hn12, hbk, him⟩ := h
  have M0 := mIn_Z M (frZ_0 (j := 0) (x := 0) (by omega))
  obtain ⟨_, hτ0, hρ0, _, _, hp20, _, htb0, _, hn0, _, hbk0, him0⟩ := M0
  have M0 := mIn_Z M (frZ_0 (j := 0) (x := 0) (by omega))
  refine sI_of (m := 3) (fun d hd Q hQ => ?_) rfl hD
  have hd1 : 1 ≤ d := by omega
  have fin := fun (v : Int32) σ' (f : frZ (uI σ 81 0 0) σ') => hQ _ _ (hK v σ' (frZ_A (frZ_tr (frZ_0 (by omega)) f)) (mIn_Z M (frZ_tr (frZ_0 (by omega)) f)))
  refine b233_0 ?_
  simp only [↓br_pos, ↓br_neg, ↓rF_I, ↓rF_L, ↓rF_R, ↓rF_N, rO_m, rB_m, ↓rI_m, wI_m, ↓rB2_m, ↓rB3_m, wB2_m, wB3_m, ↓rL_m, wL_m, ↓rQ_m, wQ_m, ↓lI_m, pI_m, pL_m, pR_m, sI_m, sBy_m, sBo_m, sL_m, sQ_m, fst_m, true_and, and_true, tg_some, ln_some, uI_1, uI_2, uL_1, uL_2, uL_3, uQ_1, uQ_2, uQ_3, rv_i, rv_l, rv_n, rv_b0, rv_b1, RMR, ne_eq, reduceCtorEq, not_false_eq_true, Option.getD_some, if_true, if_false, and_self, false_and, and_false, Nat.add_left_cancel_iff, Nat.add_eq_left, Nat.left_eq_add, Nat.one_ne_zero, Nat.reduceAdd, Nat.reduceLT, Nat.reduceLeDiff, Nat.reduceEqDiff, true_implies, false_implies, implies_true, Option.some.injEq, forall_eq', forall_eq, reduceCtorEq, brT, brF, br_s, i_10, i_01, ib_0_2, ib_1_2, tn_0, tn_1, Int32.le_refl, eq_self, rv_bN, rv_iM, RCM 81, RLY, lit_at hw]
  refine s_231 hw hτ0 hρ0 hv hr (fun σ' m f p => ?_) hd
  have m8 := p.2.1
  have vb := vin_n (a := a) (n := m) (by omega)
  rcases bN_01 (a := a) (n := m) with z | z
  · rw [z] at vb
    simp only [↓rF_I, ↓rF_L, ↓rF_R, ↓rF_N, rO_m, rB_m, ↓rI_m, wI_m, ↓rB2_m, ↓rB3_m, wB2_m, wB3_m, ↓rL_m, wL_m, ↓rQ_m, wQ_m, ↓lI_m, pI_m, pL_m, pR_m, sI_m, sBy_m, sBo_m, sL_m, sQ_m, fst_m, true_and, and_true, tg_some, ln_some, uI_1, uI_2, uL_1, uL_2, uL_3, uQ_1, uQ_2, uQ_3, rv_i, rv_l, rv_n, rv_b0, rv_b1, RMR, ne_eq, reduceCtorEq, not_false_eq_true, Option.getD_some, if_true, if_false, and_self, false_and, and_false, Nat.add_left_cancel_iff, Nat.add_eq_left, Nat.left_eq_add, Nat.one_ne_zero, Nat.reduceAdd, Nat.reduceLT, Nat.reduceLeDiff, Nat.reduceEqDiff, true_implies, false_implies, implies_true, Option.some.injEq, forall_eq', forall_eq, reduceCtorEq, brT, brF, br_s, i_10, i_01, ib_0_2, ib_1_2, tn_0, tn_1, Int32.le_refl, eq_self, rv_bN, rv_iM, RCM 81, RLY, lit_at hw, p.1, g_129 hd1, vb, z00]
    exact br2 (fin _ σ' f) (fin _ σ' f)
  · rw [z] at vb
    obtain ⟨i, rfl, hi⟩ := bN_ex z
    simp only [↓rF_I, ↓rF_L, ↓rF_R, ↓rF_N, rO_m, rB_m, ↓rI_m, wI_m, ↓rB2_m, ↓rB3_m, wB2_m, wB3_m, ↓rL_m, wL_m, ↓rQ_m, wQ_m, ↓lI_m, pI_m, pL_m, pR_m, sI_m, sBy_m, sBo_m, sL_m, sQ_m, fst_m, true_and, and_true, tg_some, ln_some, uI_1, uI_2, uL_1, uL_2, uL_3, uQ_1, uQ_2, uQ_3, rv_i, rv_l, rv_n, rv_b0, rv_b1, RMR, ne_eq, reduceCtorEq, not_false_eq_true, Option.getD_some, if_true, if_false, and_self, false_and, and_false, Nat.add_left_cancel_iff, Nat.add_eq_left, Nat.left_eq_add, Nat.one_ne_zero, Nat.reduceAdd, Nat.reduceLT, Nat.reduceLeDiff, Nat.reduceEqDiff, true_implies, false_implies, implies_true, Option.some.injEq, forall_eq', forall_eq, reduceCtorEq, brT, brF, br_s, i_10, i_01, ib_0_2, ib_1_2, tn_0, tn_1, Int32.le_refl, eq_self, rv_bN, rv_iM, RCM 81, RLY, lit_at hw, p.1, g_129 hd1, vb, z10, ix (by omega : i < 8) (by omega)]
    exact br2 (fin _ σ' f) (fin _ σ' f)
theorem m_235 {w : mT} {σ : mS} {tp n : Nat} {t : Nat → Nat} {τ ρ : Rw} {bk : Nat → Rw} {has : Nat → Bool} {im : Nat → Rw} {a : Int32} {D : Nat} {K : Int32 → Hp → Prop} (h : mIn w σ tp t τ ρ n bk has im) (hK : ∀ v σ', frA σ σ' → mIn w σ' tp t τ ρ n bk has im → K v (mW w σ')) (hD : 4 ≤ D) : wpI D 235 [.ref 81, .int a] (mW w σ) K := by
  have M := h
  obtain ⟨hw, hτ, hρ, hv, hr, hp2, htp, htb, htl, hn, hn12, hbk, him⟩ := h
  have M0 := mIn_Z M (frZ_0 (j := 0) (x := 0) (by omega))
  obtain ⟨_, hτ0, hρ0, _, _, hp20, _, htb0, _, hn0, _, hbk0, him0⟩ := M0
  have M0 := mIn_Z M (frZ_0 (j := 0) (x := 0) (by omega))
  refine sI_of (m := 3) (fun d hd Q hQ => ?_) rfl hD
  have hd2 : 2 ≤ d := by omega
  have fin := fun (v : Int32) σ' (f : frZ (uI σ 81 0 0) σ') => hQ _ _ (hK v σ' (frZ_A (frZ_tr (frZ_0 (by omega)) f)) (mIn_Z M (frZ_tr (frZ_0 (by omega)) f)))
  refine b235_0 ?_
  rcases bN_01 (a := a) (n := τ 2) with z | z
  · simp only [↓br_pos, ↓br_neg, ↓rF_I, ↓rF_L, ↓rF_R, ↓rF_N, rO_m, rB_m, ↓rI_m, wI_m, ↓rB2_m, ↓rB3_m, wB2_m, wB3_m, ↓rL_m, wL_m, ↓rQ_m, wQ_m, ↓lI_m, pI_m, pL_m, pR_m, sI_m, sBy_m, sBo_m, sL_m, sQ_m, fst_m, true_and, and_true, tg_some, ln_some, uI_1, uI_2, uL_1, uL_2, uL_3, uQ_1, uQ_2, uQ_3, rv_i, rv_l, rv_n, rv_b0, rv_b1, RMR, ne_eq, reduceCtorEq, not_false_eq_true, Option.getD_some, if_true, if_false, and_self, false_and, and_false, Nat.add_left_cancel_iff, Nat.add_eq_left, Nat.left_eq_add, Nat.one_ne_zero, Nat.reduceAdd, Nat.reduceLT, Nat.reduceLeDiff, Nat.reduceEqDiff, true_implies, false_implies, implies_true, Option.some.injEq, forall_eq', forall_eq, reduceCtorEq, brT, brF, br_s, i_10, i_01, ib_0_2, ib_1_2, tn_0, tn_1, Int32.le_refl, eq_self, rv_bN, rv_iM, RCM 81, RLY, lit_at hw, g_153 hw hτ0 hv hd2, z, z00]
    exact fin _ _ frZ_rf
  · simp only [↓br_pos, ↓br_neg, ↓rF_I, ↓rF_L, ↓rF_R, ↓rF_N, rO_m, rB_m, ↓rI_m, wI_m, ↓rB2_m, ↓rB3_m, wB2_m, wB3_m, ↓rL_m, wL_m, ↓rQ_m, wQ_m, ↓lI_m, pI_m, pL_m, pR_m, sI_m, sBy_m, sBo_m, sL_m, sQ_m, fst_m, true_and, and_true, tg_some, ln_some, uI_1, uI_2, uL_1, uL_2, uL_3, uQ_1, uQ_2, uQ_3, rv_i, rv_l, rv_n, rv_b0, rv_b1, RMR, ne_eq, reduceCtorEq, not_false_eq_true, Option.getD_some, if_true, if_false, and_self, false_and, and_false, Nat.add_left_cancel_iff, Nat.add_eq_left, Nat.left_eq_add, Nat.one_ne_zero, Nat.reduceAdd, Nat.reduceLT, Nat.reduceLeDiff, Nat.reduceEqDiff, true_implies, false_implies, implies_true, Option.some.injEq, forall_eq', forall_eq, reduceCtorEq, brT, brF, br_s, i_10, i_01, ib_0_2, ib_1_2, tn_0, tn_1, Int32.le_refl, eq_self, rv_bN, rv_iM, RCM 81, RLY, lit_at hw, g_153 hw hτ0 hv hd2, z, z10]
    refine s_231 hw hτ0 hρ0 hv hr (fun σ' m f p => ?_) hd
    simp only [↓br_pos, ↓br_neg, ↓rF_I, ↓rF_L, ↓rF_R, ↓rF_N, rO_m, rB_m, ↓rI_m, wI_m, ↓rB2_m, ↓rB3_m, wB2_m, wB3_m, ↓rL_m, wL_m, ↓rQ_m, wQ_m, ↓lI_m, pI_m, pL_m, pR_m, sI_m, sBy_m, sBo_m, sL_m, sQ_m, fst_m, true_and, and_true, tg_some, ln_some, uI_1, uI_2, uL_1, uL_2, uL_3, uQ_1, uQ_2, uQ_3, rv_i, rv_l, rv_n, rv_b0, rv_b1, RMR, ne_eq, reduceCtorEq, not_false_eq_true, Option.getD_some, if_true, if_false, and_self, false_and, and_false, Nat.add_left_cancel_iff, Nat.add_eq_left, Nat.left_eq_add, Nat.one_ne_zero, Nat.reduceAdd, Nat.reduceLT, Nat.reduceLeDiff, Nat.reduceEqDiff, true_implies, false_implies, implies_true, Option.some.injEq, forall_eq', forall_eq, reduceCtorEq, brT, brF, br_s, i_10, i_01, ib_0_2, ib_1_2, tn_0, tn_1, Int32.le_refl, eq_self, rv_bN, rv_iM, RCM 81, RLY, lit_at hw]
    refine s_234 hw (mT_c hτ0 (f.1 83 (by omega) (by omega))) (mR_c hρ0 (f.1 85 (by omega) (by omega))) p (fun x => ?_) hd2
    exact fin _ σ' f
theorem lp_236 {w : mT} {σ : mS} {τ ρ : Rw} {m d : Nat} {a1 : Int32} {Q : Option (Option Value) → Hp → Prop} (hw : lit w) (hτ : mTold σ τ) (hρ : mRow σ 85 0 ρ) (hv : vTold τ) (hr : vRow τ ρ) (hp : plI σ m) (hd : 2 ≤ d) (hQ : ∀ x : Int32, Q (some (some (.int x))) (mW w σ)) : ∀ (r i : Nat) (a2 : Int32) (x : Value), i + r = τ 2 → (x = jk ∨ ∃ u : Int32, x = .int u) → Wp 236 25 [.ref 81, .int a1, .int a2, .int (Int32.ofNat i), x] [] (mW w σ) Q d := by
  have hd1 : 1 ≤ d := by omega
  have v2 := hv.2.2.1
  intro r
  induction r with
  | zero =>
    intro i a2 x hi hx
    have hi' : i = τ 2 := by omega
    subst hi'
    rcases hx with rfl | ⟨u, rfl⟩
    · refine b236_25 ?_
      simp only [↓br_pos, ↓br_neg, ↓rF_I, ↓rF_L, ↓rF_R, ↓rF_N, rO_m, rB_m, ↓rI_m, wI_m, ↓rB2_m, ↓rB3_m, wB2_m, wB3_m, ↓rL_m, wL_m, ↓rQ_m, wQ_m, ↓lI_m, pI_m, pL_m, pR_m, sI_m, sBy_m, sBo_m, sL_m, sQ_m, fst_m, true_and, and_true, tg_some, ln_some, uI_1, uI_2, uL_1, uL_2, uL_3, uQ_1, uQ_2, uQ_3, rv_i, rv_l, rv_n, rv_b0, rv_b1, RMR, ne_eq, reduceCtorEq, not_false_eq_true, Option.getD_some, if_true, if_false, and_self, false_and, and_false, Nat.add_left_cancel_iff, Nat.add_eq_left, Nat.left_eq_add, Nat.one_ne_zero, Nat.reduceAdd, Nat.reduceLT, Nat.reduceLeDiff, Nat.reduceEqDiff, true_implies, false_implies, implies_true, Option.some.injEq, forall_eq', forall_eq, reduceCtorEq, brT, brF, br_s, i_10, i_01, ib_0_2, ib_1_2, tn_0, tn_1, Int32.le_refl, eq_self, rv_bN, rv_iM, RCM 81, RLY, lit_at hw, mt_2 hτ, Int32.le_refl]
      exact hQ _
    · refine b236_25a ?_
      simp only [↓br_pos, ↓br_neg, ↓rF_I, ↓rF_L, ↓rF_R, ↓rF_N, rO_m, rB_m, ↓rI_m, wI_m, ↓rB2_m, ↓rB3_m, wB2_m, wB3_m, ↓rL_m, wL_m, ↓rQ_m, wQ_m, ↓lI_m, pI_m, pL_m, pR_m, sI_m, sBy_m, sBo_m, sL_m, sQ_m, fst_m, true_and, and_true, tg_some, ln_some, uI_1, uI_2, uL_1, uL_2, uL_3, uQ_1, uQ_2, uQ_3, rv_i, rv_l, rv_n, rv_b0, rv_b1, RMR, ne_eq, reduceCtorEq, not_false_eq_true, Option.getD_some, if_true, if_false, and_self, false_and, and_false, Nat.add_left_cancel_iff, Nat.add_eq_left, Nat.left_eq_add, Nat.one_ne_zero, Nat.reduceAdd, Nat.reduceLT, Nat.reduceLeDiff, Nat.reduceEqDiff, true_implies, false_implies, implies_true, Option.some.injEq, forall_eq', forall_eq, reduceCtorEq, brT, brF, br_s, i_10, i_01, ib_0_2, ib_1_2, tn_0, tn_1, Int32.le_refl, eq_self, rv_bN, rv_iM, RCM 81, RLY, lit_at hw, mt_2 hτ, Int32.le_refl]
      exact hQ _
  | succ r ih =>
    intro i a2 x hi hx
    have l1 : (Int32.ofNat (τ 2) ≤ Int32.ofNat i) ↔ False := iff_false_intro (fun q => absurd ((on_le (by omega) (by omega)).mp q) (by omega))
    have nx := fun a2 x hx => ih (i + 1) a2 x (by omega) hx
    have g0 := fun {K : Int32 → Hp → Prop} => g_160 (K := K) hw hτ hρ hv hr (by omega : i < τ 2) hd
    have g5 := fun {K : Int32 → Hp → Prop} => g_155 (K := K) (s := i) (x := 5) (a := 5) hw hτ rfl (by omega) hd1
    have g3 := fun {K : Int32 → Hp → Prop} => g_155 (K := K) (s := i) (x := 3) (a := 3) hw hτ rfl (by omega) hd1
    have g8 := fun {K : Int32 → Hp → Prop} => g_228 (K := K) hw hρ hr (by omega : i < τ 2) (by omega : i < 8) hd1
    rcases hx with rfl | ⟨u, rfl⟩
    · skip
      refine b236_25 ?_
      simp only [↓rF_I, ↓rF_L, ↓rF_R, ↓rF_N, rO_m, rB_m, ↓rI_m, wI_m, ↓rB2_m, ↓rB3_m, wB2_m, wB3_m, ↓rL_m, wL_m, ↓rQ_m, wQ_m, ↓lI_m, pI_m, pL_m, pR_m, sI_m, sBy_m, sBo_m, sL_m, sQ_m, fst_m, true_and, and_true, tg_some, ln_some, uI_1, uI_2, uL_1, uL_2, uL_3, uQ_1, uQ_2, uQ_3, rv_i, rv_l, rv_n, rv_b0, rv_b1, RMR, ne_eq, reduceCtorEq, not_false_eq_true, Option.getD_some, if_true, if_false, and_self, false_and, and_false, Nat.add_left_cancel_iff, Nat.add_eq_left, Nat.left_eq_add, Nat.one_ne_zero, Nat.reduceAdd, Nat.reduceLT, Nat.reduceLeDiff, Nat.reduceEqDiff, true_implies, false_implies, implies_true, Option.some.injEq, forall_eq', forall_eq, reduceCtorEq, brT, brF, br_s, i_10, i_01, ib_0_2, ib_1_2, tn_0, tn_1, Int32.le_refl, eq_self, rv_bN, rv_iM, RCM 81, RLY, lit_at hw, mt_2 hτ, l1, g0, g5, g8, on_succ]
      refine br2 (nx _ _ (Or.inr ⟨_, rfl⟩)) (br2 (nx _ _ (Or.inr ⟨_, rfl⟩)) ?_)
      refine s_234 hw hτ hρ hp (fun x => ?_) hd
      simp only [↓rF_I, ↓rF_L, ↓rF_R, ↓rF_N, rO_m, rB_m, ↓rI_m, wI_m, ↓rB2_m, ↓rB3_m, wB2_m, wB3_m, ↓rL_m, wL_m, ↓rQ_m, wQ_m, ↓lI_m, pI_m, pL_m, pR_m, sI_m, sBy_m, sBo_m, sL_m, sQ_m, fst_m, true_and, and_true, tg_some, ln_some, uI_1, uI_2, uL_1, uL_2, uL_3, uQ_1, uQ_2, uQ_3, rv_i, rv_l, rv_n, rv_b0, rv_b1, RMR, ne_eq, reduceCtorEq, not_false_eq_true, Option.getD_some, if_true, if_false, and_self, false_and, and_false, Nat.add_left_cancel_iff, Nat.add_eq_left, Nat.left_eq_add, Nat.one_ne_zero, Nat.reduceAdd, Nat.reduceLT, Nat.reduceLeDiff, Nat.reduceEqDiff, true_implies, false_implies, implies_true, Option.some.injEq, forall_eq', forall_eq, reduceCtorEq, brT, brF, br_s, i_10, i_01, ib_0_2, ib_1_2, tn_0, tn_1, Int32.le_refl, eq_self, rv_bN, rv_iM, RCM 81, RLY, lit_at hw, g3, g5, on_succ]
      exact nx _ _ (Or.inr ⟨_, rfl⟩)
    · skip
      refine b236_25a ?_
      simp only [↓rF_I, ↓rF_L, ↓rF_R, ↓rF_N, rO_m, rB_m, ↓rI_m, wI_m, ↓rB2_m, ↓rB3_m, wB2_m, wB3_m, ↓rL_m, wL_m, ↓rQ_m, wQ_m, ↓lI_m, pI_m, pL_m, pR_m, sI_m, sBy_m, sBo_m, sL_m, sQ_m, fst_m, true_and, and_true, tg_some, ln_some, uI_1, uI_2, uL_1, uL_2, uL_3, uQ_1, uQ_2, uQ_3, rv_i, rv_l, rv_n, rv_b0, rv_b1, RMR, ne_eq, reduceCtorEq, not_false_eq_true, Option.getD_some, if_true, if_false, and_self, false_and, and_false, Nat.add_left_cancel_iff, Nat.add_eq_left, Nat.left_eq_add, Nat.one_ne_zero, Nat.reduceAdd, Nat.reduceLT, Nat.reduceLeDiff, Nat.reduceEqDiff, true_implies, false_implies, implies_true, Option.some.injEq, forall_eq', forall_eq, reduceCtorEq, brT, brF, br_s, i_10, i_01, ib_0_2, ib_1_2, tn_0, tn_1, Int32.le_refl, eq_self, rv_bN, rv_iM, RCM 81, RLY, lit_at hw, mt_2 hτ, l1, g0, g5, g8, on_succ]
      refine br2 (nx _ _ (Or.inr ⟨_, rfl⟩)) (br2 (nx _ _ (Or.inr ⟨_, rfl⟩)) ?_)
      refine s_234 hw hτ hρ hp (fun x => ?_) hd
      simp only [↓rF_I, ↓rF_L, ↓rF_R, ↓rF_N, rO_m, rB_m, ↓rI_m, wI_m, ↓rB2_m, ↓rB3_m, wB2_m, wB3_m, ↓rL_m, wL_m, ↓rQ_m, wQ_m, ↓lI_m, pI_m, pL_m, pR_m, sI_m, sBy_m, sBo_m, sL_m, sQ_m, fst_m, true_and, and_true, tg_some, ln_some, uI_1, uI_2, uL_1, uL_2, uL_3, uQ_1, uQ_2, uQ_3, rv_i, rv_l, rv_n, rv_b0, rv_b1, RMR, ne_eq, reduceCtorEq, not_false_eq_true, Option.getD_some, if_true, if_false, and_self, false_and, and_false, Nat.add_left_cancel_iff, Nat.add_eq_left, Nat.left_eq_add, Nat.one_ne_zero, Nat.reduceAdd, Nat.reduceLT, Nat.reduceLeDiff, Nat.reduceEqDiff, true_implies, false_implies, implies_true, Option.some.injEq, forall_eq', forall_eq, reduceCtorEq, brT, brF, br_s, i_10, i_01, ib_0_2, ib_1_2, tn_0, tn_1, Int32.le_refl, eq_self, rv_bN, rv_iM, RCM 81, RLY, lit_at hw, g3, g5, on_succ]
      exact nx _ _ (Or.inr ⟨_, rfl⟩)

theorem m_236 {w : mT} {σ : mS} {tp n : Nat} {t : Nat → Nat} {τ ρ : Rw} {bk : Nat → Rw} {has : Nat → Bool} {im : Nat → Rw} {a : Int32} {D : Nat} {K : Int32 → Hp → Prop} (h : mIn w σ tp t τ ρ n bk has im) (hK : ∀ v σ', frA σ σ' → mIn w σ' tp t τ ρ n bk has im → K v (mW w σ')) (hD : 4 ≤ D) : wpI D 236 [.ref 81, .int a] (mW w σ) K := by
  have M := h
  obtain ⟨hw, hτ, hρ, hv, hr, hp2, htp, htb, htl, hn, hn12, hbk, him⟩ := h
  have M0 := mIn_Z M (frZ_0 (j := 0) (x := 0) (by omega))
  obtain ⟨_, hτ0, hρ0, _, _, hp20, _, htb0, _, hn0, _, hbk0, him0⟩ := M0
  have M0 := mIn_Z M (frZ_0 (j := 0) (x := 0) (by omega))
  refine sI_of (m := 3) (fun d hd Q hQ => ?_) rfl hD
  have hd1 : 1 ≤ d := by omega
  have hd2 : 2 ≤ d := by omega
  have fin := fun (v : Int32) σ' (f : frZ (uI σ 81 0 0) σ') => hQ _ _ (hK v σ' (frZ_A (frZ_tr (frZ_0 (by omega)) f)) (mIn_Z M (frZ_tr (frZ_0 (by omega)) f)))
  refine b236_0 ?_
  simp only [↓rF_I, ↓rF_L, ↓rF_R, ↓rF_N, rO_m, rB_m, ↓rI_m, wI_m, ↓rB2_m, ↓rB3_m, wB2_m, wB3_m, ↓rL_m, wL_m, ↓rQ_m, wQ_m, ↓lI_m, pI_m, pL_m, pR_m, sI_m, sBy_m, sBo_m, sL_m, sQ_m, fst_m, true_and, and_true, tg_some, ln_some, uI_1, uI_2, uL_1, uL_2, uL_3, uQ_1, uQ_2, uQ_3, rv_i, rv_l, rv_n, rv_b0, rv_b1, RMR, ne_eq, reduceCtorEq, not_false_eq_true, Option.getD_some, if_true, if_false, and_self, false_and, and_false, Nat.add_left_cancel_iff, Nat.add_eq_left, Nat.left_eq_add, Nat.one_ne_zero, Nat.reduceAdd, Nat.reduceLT, Nat.reduceLeDiff, Nat.reduceEqDiff, true_implies, false_implies, implies_true, Option.some.injEq, forall_eq', forall_eq, reduceCtorEq, brT, brF, br_s, i_10, i_01, ib_0_2, ib_1_2, tn_0, tn_1, Int32.le_refl, eq_self, rv_bN, rv_iM, RCM 81, RLY, lit_at hw, g_129 hd1]
  refine br2 (fin _ _ frZ_rf) ?_
  refine s_231 hw hτ0 hρ0 hv hr (fun σ' m f p => ?_) hd
  exact lp_236 hw (mT_c hτ0 (f.1 83 (by omega) (by omega))) (mR_c hρ0 (f.1 85 (by omega) (by omega))) hv hr p hd2 (fun x => fin x σ' f) (τ 2) 0 0 jk (by omega) (Or.inl rfl)
