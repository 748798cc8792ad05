section
/-! the class's calls: within, next -/
abbrev wnP (τ ρ : Rw) (p a b c : Nat) : Prop := 0 < tOn ρ p c ∧ a * tOn ρ p c ≤ gOn τ ρ p c ∧ gOn τ ρ p c ≤ b * tOn ρ p c
def wiB (τ ρ : Rw) (p a b : Nat) : Nat → Int32
  | 0 => 0
  | c + 1 => if wnP τ ρ p a b c then wiB τ ρ p a b c ||| ((1 : Int32) <<< (Int32.ofNat c &&& 31)) else wiB τ ρ p a b c
theorem g56w {w : mT} {σ : mS} {τ ρ : Rw} (hw : lit w) (hρ : tSt σ 35 τ ρ) (hr : vRow τ ρ) {p c : Nat} (hp : p < 3) (hc : c < 12) {D : Nat} {K : Int32 → Hp → Prop} (hD : 2 ≤ D) : wpI D 56 [.ref 35, .int (Int32.ofNat p), .int (Int32.ofNat c)] (mW w σ) K ↔ K (Int32.ofNat (tOn ρ p c)) (mW w σ) := g_56 (isS35 hw) hρ hr hp hc hD
theorem lp_104 {w : mT} {σ : mS} {P p a b d : Nat} {τ ρ : Rw} {Q : Option (Option Value) → Hp → Prop} (hw : lit w) (hP : P = 15 ∨ P = 25) (p3 : σ.2.2 0 3 = some P) (hτ : tTold σ P τ) (hv : vTold τ) (hρ : tSt σ 35 τ ρ) (hr : vRow τ ρ) (hp : p < τ 1) (ha : a ≤ 999) (hb : b ≤ 999) (hd : 2 ≤ d) (hQ : Q (some (some (.int (wiB τ ρ p a b (τ (28 + p)))))) (mW w σ)) : ∀ (r c : Nat) (x6 x7 : Value), c + r = τ (28 + p) → (x6 = jk ∧ x7 = jk ∧ 0 < r ∨ ∃ u v : Int32, x6 = .int u ∧ x7 = .int v) → Wp 104 38 [.ref 0, .int (Int32.ofNat p), .int (Int32.ofNat a), .int (Int32.ofNat b), .int (wiB τ ρ p a b c), .int (Int32.ofNat c), x6, x7] [] (mW w σ) Q d := by
  have hT := isTP hw hP
  have hT' := hT
  simp only [isT] at hT'
  have v1 := hv.2.1
  have v2 := (hv.2.2.2.2.2.1 p hp).2
  have eb : inB (Int32.ofNat p) 3 = true := on_inB (by omega) (by omega)
  have en := on_nat (i := p) (by omega)
  have e1 := hτ.2.2.2.2.2.1 p hp
  intro r
  induction r with
  | zero =>
    intro c x6 x7 hc hx
    have hc' : c = τ (28 + p) := by omega
    subst hc'
    rcases hx with ⟨_, _, q⟩ | ⟨u, v, rfl, rfl⟩
    · omega
    refine b104_38a ?_
    simp only [↓br_pos, ↓br_neg, ↓rF_I, ↓rF_L, ↓rF_R, ↓rF_N, rO_m, rB_m, ↓rI_m, wI_m, ↓rB2_m, ↓rB3_m, wB2_m, wB3_m, ↓rL_m, wL_m, ↓rQ_m, wQ_m, ↓lI_m, pI_m, pL_m, pR_m, sI_m, sBy_m, sBo_m, sL_m, sQ_m, fst_m, true_and, and_true, tg_some, ln_some, uI_1, uI_2, uL_1, uL_2, uL_3, uQ_1, uQ_2, uQ_3, rv_i, rv_l, rv_n, rv_b0, rv_b1, RMR, ne_eq, reduceCtorEq, not_false_eq_true, Option.getD_some, if_true, if_false, and_self, false_and, and_false, Nat.add_left_cancel_iff, Nat.add_eq_left, Nat.left_eq_add, Nat.one_ne_zero, Nat.reduceAdd, Nat.reduceLT, Nat.reduceLeDiff, Nat.reduceEqDiff, true_implies, false_implies, implies_true, Option.some.injEq, forall_eq', forall_eq, reduceCtorEq, brT, brF, br_s, i_10, i_01, ib_0_2, ib_1_2, tn_0, tn_1, Int32.le_refl, eq_self, rv_bN, rv_iM, RCX 0, RCG 2, RCT 4, RCT 15, RCT 25, RCS 35, RCS 49, RCH 63, RCP 67, RCB 72, RCR 77, RCM 81, RLY, lit_at hw, RCT P, hT', p3, eb, en, e1, Int32.le_refl]
    exact hQ
  | succ r ih =>
    intro c x6 x7 hc hx
    have l1 : (Int32.ofNat (τ (28 + p)) ≤ Int32.ofNat c) ↔ False := iff_false_intro (fun q => absurd ((on_le (by omega) (by omega)).mp q) (by omega))
    have e56 := fun {K : Int32 → Hp → Prop} => g_56 (K := K) (isS35 hw) hρ hr (by omega : p < 3) (by omega : c < 12) hd
    have e57 := fun {K : Int32 → Hp → Prop} => g_57 (K := K) (isS35 hw) hT hρ hτ hv hr (by omega : p < 3) (by omega : c < 12) hd
    have tl := tOn_lt hr (by omega : p < 3) (by omega : c < 12)
    have gl := gOn_le (c := c) hv hr (by omega : p < 3)
    have ma : a * tOn ρ p c ≤ 999 * tOn ρ p c := Nat.mul_le_mul_right _ ha
    have mb : b * tOn ρ p c ≤ 999 * tOn ρ p c := Nat.mul_le_mul_right _ hb
    have c0 := of_le0 (a := tOn ρ p c) (by omega)
    have c1 := on_lt (i := gOn τ ρ p c) (j := a * tOn ρ p c) (by omega) (by omega)
    have c2 := on_lt (i := b * tOn ρ p c) (j := gOn τ ρ p c) (by omega) (by omega)
    have nx := ih (c + 1) (.int (Int32.ofNat (tOn ρ p c))) (.int (Int32.ofNat (gOn τ ρ p c))) (by omega) (Or.inr ⟨_, _, rfl, rfl⟩)
    rcases hx with ⟨rfl, rfl, _⟩ | ⟨u, v, rfl, rfl⟩
    · skip
      refine b104_38 ?_
      by_cases z0 : 0 < tOn ρ p c
      · have c0' := iff_false_intro (fun q => absurd (c0.mp q) (by omega))
        by_cases z1 : a * tOn ρ p c ≤ gOn τ ρ p c
        · have c1' := iff_false_intro (fun q => absurd (c1.mp q) (by omega))
          by_cases z2 : gOn τ ρ p c ≤ b * tOn ρ p c
          · have c2' := iff_false_intro (fun q => absurd (c2.mp q) (by omega))
            have eB : wiB τ ρ p a b (c + 1) = wiB τ ρ p a b c ||| ((1 : Int32) <<< (Int32.ofNat c &&& 31)) := if_pos ⟨z0, z1, z2⟩
            rw [eB] at nx
            simp only [↓br_pos, ↓br_neg, ↓rF_I, ↓rF_L, ↓rF_R, ↓rF_N, rO_m, rB_m, ↓rI_m, wI_m, ↓rB2_m, ↓rB3_m, wB2_m, wB3_m, ↓rL_m, wL_m, ↓rQ_m, wQ_m, ↓lI_m, pI_m, pL_m, pR_m, sI_m, sBy_m, sBo_m, sL_m, sQ_m, fst_m, true_and, and_true, tg_some, ln_some, uI_1, uI_2, uL_1, uL_2, uL_3, uQ_1, uQ_2, uQ_3, rv_i, rv_l, rv_n, rv_b0, rv_b1, RMR, ne_eq, reduceCtorEq, not_false_eq_true, Option.getD_some, if_true, if_false, and_self, false_and, and_false, Nat.add_left_cancel_iff, Nat.add_eq_left, Nat.left_eq_add, Nat.one_ne_zero, Nat.reduceAdd, Nat.reduceLT, Nat.reduceLeDiff, Nat.reduceEqDiff, true_implies, false_implies, implies_true, Option.some.injEq, forall_eq', forall_eq, reduceCtorEq, brT, brF, br_s, i_10, i_01, ib_0_2, ib_1_2, tn_0, tn_1, Int32.le_refl, eq_self, rv_bN, rv_iM, RCX 0, RCG 2, RCT 4, RCT 15, RCT 25, RCS 35, RCS 49, RCH 63, RCP 67, RCB 72, RCR 77, RCM 81, RLY, lit_at hw, RCT P, hT', p3, eb, en, e1, l1, e56, e57, c0', c1', c2', of_mul]
            refine b104_112 (b104_115 ?_)
            rw [on_succ]
            exact nx
          · have c2' := iff_true_intro (c2.mpr (by omega))
            have eB : wiB τ ρ p a b (c + 1) = wiB τ ρ p a b c := if_neg (fun q => z2 q.2.2)
            rw [eB] at nx
            simp only [↓br_pos, ↓br_neg, ↓rF_I, ↓rF_L, ↓rF_R, ↓rF_N, rO_m, rB_m, ↓rI_m, wI_m, ↓rB2_m, ↓rB3_m, wB2_m, wB3_m, ↓rL_m, wL_m, ↓rQ_m, wQ_m, ↓lI_m, pI_m, pL_m, pR_m, sI_m, sBy_m, sBo_m, sL_m, sQ_m, fst_m, true_and, and_true, tg_some, ln_some, uI_1, uI_2, uL_1, uL_2, uL_3, uQ_1, uQ_2, uQ_3, rv_i, rv_l, rv_n, rv_b0, rv_b1, RMR, ne_eq, reduceCtorEq, not_false_eq_true, Option.getD_some, if_true, if_false, and_self, false_and, and_false, Nat.add_left_cancel_iff, Nat.add_eq_left, Nat.left_eq_add, Nat.one_ne_zero, Nat.reduceAdd, Nat.reduceLT, Nat.reduceLeDiff, Nat.reduceEqDiff, true_implies, false_implies, implies_true, Option.some.injEq, forall_eq', forall_eq, reduceCtorEq, brT, brF, br_s, i_10, i_01, ib_0_2, ib_1_2, tn_0, tn_1, Int32.le_refl, eq_self, rv_bN, rv_iM, RCX 0, RCG 2, RCT 4, RCT 15, RCT 25, RCS 35, RCS 49, RCH 63, RCP 67, RCB 72, RCR 77, RCM 81, RLY, lit_at hw, RCT P, hT', p3, eb, en, e1, l1, e56, e57, c0', c1', c2', of_mul]
            refine b104_112 (b104_115 ?_)
            rw [on_succ]
            exact nx
        · have c1' := iff_true_intro (c1.mpr (by omega))
          have eB : wiB τ ρ p a b (c + 1) = wiB τ ρ p a b c := if_neg (fun q => z1 q.2.1)
          rw [eB] at nx
          simp only [↓br_pos, ↓br_neg, ↓rF_I, ↓rF_L, ↓rF_R, ↓rF_N, rO_m, rB_m, ↓rI_m, wI_m, ↓rB2_m, ↓rB3_m, wB2_m, wB3_m, ↓rL_m, wL_m, ↓rQ_m, wQ_m, ↓lI_m, pI_m, pL_m, pR_m, sI_m, sBy_m, sBo_m, sL_m, sQ_m, fst_m, true_and, and_true, tg_some, ln_some, uI_1, uI_2, uL_1, uL_2, uL_3, uQ_1, uQ_2, uQ_3, rv_i, rv_l, rv_n, rv_b0, rv_b1, RMR, ne_eq, reduceCtorEq, not_false_eq_true, Option.getD_some, if_true, if_false, and_self, false_and, and_false, Nat.add_left_cancel_iff, Nat.add_eq_left, Nat.left_eq_add, Nat.one_ne_zero, Nat.reduceAdd, Nat.reduceLT, Nat.reduceLeDiff, Nat.reduceEqDiff, true_implies, false_implies, implies_true, Option.some.injEq, forall_eq', forall_eq, reduceCtorEq, brT, brF, br_s, i_10, i_01, ib_0_2, ib_1_2, tn_0, tn_1, Int32.le_refl, eq_self, rv_bN, rv_iM, RCX 0, RCG 2, RCT 4, RCT 15, RCT 25, RCS 35, RCS 49, RCH 63, RCP 67, RCB 72, RCR 77, RCM 81, RLY, lit_at hw, RCT P, hT', p3, eb, en, e1, l1, e56, e57, c0', c1', of_mul]
          refine b104_112 (b104_115 ?_)
          rw [on_succ]
          exact nx
      · have c0' := iff_true_intro (c0.mpr (by omega))
        have eB : wiB τ ρ p a b (c + 1) = wiB τ ρ p a b c := if_neg (fun q => z0 q.1)
        rw [eB] at nx
        simp only [↓br_pos, ↓br_neg, ↓rF_I, ↓rF_L, ↓rF_R, ↓rF_N, rO_m, rB_m, ↓rI_m, wI_m, ↓rB2_m, ↓rB3_m, wB2_m, wB3_m, ↓rL_m, wL_m, ↓rQ_m, wQ_m, ↓lI_m, pI_m, pL_m, pR_m, sI_m, sBy_m, sBo_m, sL_m, sQ_m, fst_m, true_and, and_true, tg_some, ln_some, uI_1, uI_2, uL_1, uL_2, uL_3, uQ_1, uQ_2, uQ_3, rv_i, rv_l, rv_n, rv_b0, rv_b1, RMR, ne_eq, reduceCtorEq, not_false_eq_true, Option.getD_some, if_true, if_false, and_self, false_and, and_false, Nat.add_left_cancel_iff, Nat.add_eq_left, Nat.left_eq_add, Nat.one_ne_zero, Nat.reduceAdd, Nat.reduceLT, Nat.reduceLeDiff, Nat.reduceEqDiff, true_implies, false_implies, implies_true, Option.some.injEq, forall_eq', forall_eq, reduceCtorEq, brT, brF, br_s, i_10, i_01, ib_0_2, ib_1_2, tn_0, tn_1, Int32.le_refl, eq_self, rv_bN, rv_iM, RCX 0, RCG 2, RCT 4, RCT 15, RCT 25, RCS 35, RCS 49, RCH 63, RCP 67, RCB 72, RCR 77, RCM 81, RLY, lit_at hw, RCT P, hT', p3, eb, en, e1, l1, e56, e57, c0']
        refine b104_112 (b104_115 ?_)
        rw [on_succ]
        exact nx
    · skip
      refine b104_38a ?_
      by_cases z0 : 0 < tOn ρ p c
      · have c0' := iff_false_intro (fun q => absurd (c0.mp q) (by omega))
        by_cases z1 : a * tOn ρ p c ≤ gOn τ ρ p c
        · have c1' := iff_false_intro (fun q => absurd (c1.mp q) (by omega))
          by_cases z2 : gOn τ ρ p c ≤ b * tOn ρ p c
          · have c2' := iff_false_intro (fun q => absurd (c2.mp q) (by omega))
            have eB : wiB τ ρ p a b (c + 1) = wiB τ ρ p a b c ||| ((1 : Int32) <<< (Int32.ofNat c &&& 31)) := if_pos ⟨z0, z1, z2⟩
            rw [eB] at nx
            simp only [↓br_pos, ↓br_neg, ↓rF_I, ↓rF_L, ↓rF_R, ↓rF_N, rO_m, rB_m, ↓rI_m, wI_m, ↓rB2_m, ↓rB3_m, wB2_m, wB3_m, ↓rL_m, wL_m, ↓rQ_m, wQ_m, ↓lI_m, pI_m, pL_m, pR_m, sI_m, sBy_m, sBo_m, sL_m, sQ_m, fst_m, true_and, and_true, tg_some, ln_some, uI_1, uI_2, uL_1, uL_2, uL_3, uQ_1, uQ_2, uQ_3, rv_i, rv_l, rv_n, rv_b0, rv_b1, RMR, ne_eq, reduceCtorEq, not_false_eq_true, Option.getD_some, if_true, if_false, and_self, false_and, and_false, Nat.add_left_cancel_iff, Nat.add_eq_left, Nat.left_eq_add, Nat.one_ne_zero, Nat.reduceAdd, Nat.reduceLT, Nat.reduceLeDiff, Nat.reduceEqDiff, true_implies, false_implies, implies_true, Option.some.injEq, forall_eq', forall_eq, reduceCtorEq, brT, brF, br_s, i_10, i_01, ib_0_2, ib_1_2, tn_0, tn_1, Int32.le_refl, eq_self, rv_bN, rv_iM, RCX 0, RCG 2, RCT 4, RCT 15, RCT 25, RCS 35, RCS 49, RCH 63, RCP 67, RCB 72, RCR 77, RCM 81, RLY, lit_at hw, RCT P, hT', p3, eb, en, e1, l1, e56, e57, c0', c1', c2', of_mul]
            refine b104_112 (b104_115 ?_)
            rw [on_succ]
            exact nx
          · have c2' := iff_true_intro (c2.mpr (by omega))
            have eB : wiB τ ρ p a b (c + 1) = wiB τ ρ p a b c := if_neg (fun q => z2 q.2.2)
            rw [eB] at nx
            simp only [↓br_pos, ↓br_neg, ↓rF_I, ↓rF_L, ↓rF_R, ↓rF_N, rO_m, rB_m, ↓rI_m, wI_m, ↓rB2_m, ↓rB3_m, wB2_m, wB3_m, ↓rL_m, wL_m, ↓rQ_m, wQ_m, ↓lI_m, pI_m, pL_m, pR_m, sI_m, sBy_m, sBo_m, sL_m, sQ_m, fst_m, true_and, and_true, tg_some, ln_some, uI_1, uI_2, uL_1, uL_2, uL_3, uQ_1, uQ_2, uQ_3, rv_i, rv_l, rv_n, rv_b0, rv_b1, RMR, ne_eq, reduceCtorEq, not_false_eq_true, Option.getD_some, if_true, if_false, and_self, false_and, and_false, Nat.add_left_cancel_iff, Nat.add_eq_left, Nat.left_eq_add, Nat.one_ne_zero, Nat.reduceAdd, Nat.reduceLT, Nat.reduceLeDiff, Nat.reduceEqDiff, true_implies, false_implies, implies_true, Option.some.injEq, forall_eq', forall_eq, reduceCtorEq, brT, brF, br_s, i_10, i_01, ib_0_2, ib_1_2, tn_0, tn_1, Int32.le_refl, eq_self, rv_bN, rv_iM, RCX 0, RCG 2, RCT 4, RCT 15, RCT 25, RCS 35, RCS 49, RCH 63, RCP 67, RCB 72, RCR 77, RCM 81, RLY, lit_at hw, RCT P, hT', p3, eb, en, e1, l1, e56, e57, c0', c1', c2', of_mul]
            refine b104_112 (b104_115 ?_)
            rw [on_succ]
            exact nx
        · have c1' := iff_true_intro (c1.mpr (by omega))
          have eB : wiB τ ρ p a b (c + 1) = wiB τ ρ p a b c := if_neg (fun q => z1 q.2.1)
          rw [eB] at nx
          simp only [↓br_pos, ↓br_neg, ↓rF_I, ↓rF_L, ↓rF_R, ↓rF_N, rO_m, rB_m, ↓rI_m, wI_m, ↓rB2_m, ↓rB3_m, wB2_m, wB3_m, ↓rL_m, wL_m, ↓rQ_m, wQ_m, ↓lI_m, pI_m, pL_m, pR_m, sI_m, sBy_m, sBo_m, sL_m, sQ_m, fst_m, true_and, and_true, tg_some, ln_some, uI_1, uI_2, uL_1, uL_2, uL_3, uQ_1, uQ_2, uQ_3, rv_i, rv_l, rv_n, rv_b0, rv_b1, RMR, ne_eq, reduceCtorEq, not_false_eq_true, Option.getD_some, if_true, if_false, and_self, false_and, and_false, Nat.add_left_cancel_iff, Nat.add_eq_left, Nat.left_eq_add, Nat.one_ne_zero, Nat.reduceAdd, Nat.reduceLT, Nat.reduceLeDiff, Nat.reduceEqDiff, true_implies, false_implies, implies_true, Option.some.injEq, forall_eq', forall_eq, reduceCtorEq, brT, brF, br_s, i_10, i_01, ib_0_2, ib_1_2, tn_0, tn_1, Int32.le_refl, eq_self, rv_bN, rv_iM, RCX 0, RCG 2, RCT 4, RCT 15, RCT 25, RCS 35, RCS 49, RCH 63, RCP 67, RCB 72, RCR 77, RCM 81, RLY, lit_at hw, RCT P, hT', p3, eb, en, e1, l1, e56, e57, c0', c1', of_mul]
          refine b104_112 (b104_115 ?_)
          rw [on_succ]
          exact nx
      · have c0' := iff_true_intro (c0.mpr (by omega))
        have eB : wiB τ ρ p a b (c + 1) = wiB τ ρ p a b c := if_neg (fun q => z0 q.1)
        rw [eB] at nx
        simp only [↓br_pos, ↓br_neg, ↓rF_I, ↓rF_L, ↓rF_R, ↓rF_N, rO_m, rB_m, ↓rI_m, wI_m, ↓rB2_m, ↓rB3_m, wB2_m, wB3_m, ↓rL_m, wL_m, ↓rQ_m, wQ_m, ↓lI_m, pI_m, pL_m, pR_m, sI_m, sBy_m, sBo_m, sL_m, sQ_m, fst_m, true_and, and_true, tg_some, ln_some, uI_1, uI_2, uL_1, uL_2, uL_3, uQ_1, uQ_2, uQ_3, rv_i, rv_l, rv_n, rv_b0, rv_b1, RMR, ne_eq, reduceCtorEq, not_false_eq_true, Option.getD_some, if_true, if_false, and_self, false_and, and_false, Nat.add_left_cancel_iff, Nat.add_eq_left, Nat.left_eq_add, Nat.one_ne_zero, Nat.reduceAdd, Nat.reduceLT, Nat.reduceLeDiff, Nat.reduceEqDiff, true_implies, false_implies, implies_true, Option.some.injEq, forall_eq', forall_eq, reduceCtorEq, brT, brF, br_s, i_10, i_01, ib_0_2, ib_1_2, tn_0, tn_1, Int32.le_refl, eq_self, rv_bN, rv_iM, RCX 0, RCG 2, RCT 4, RCT 15, RCT 25, RCS 35, RCS 49, RCH 63, RCP 67, RCB 72, RCR 77, RCM 81, RLY, lit_at hw, RCT P, hT', p3, eb, en, e1, l1, e56, e57, c0']
        refine b104_112 (b104_115 ?_)
        rw [on_succ]
        exact nx

theorem c_104z {w : mT} {σ : mS} {tp n : Nat} {t : Nat → Nat} {τ ρ : Rw} {bk : Nat → Rw} {has : Nat → Bool} {im : Nat → Rw} {p a b : Int32} {D : Nat} {K : Int32 → Hp → Prop} (h : cIn w σ tp t τ ρ n bk has im) (hn : ¬ (bN p (τ 1) = 1 ∧ grP a ∧ grP b ∧ a ≤ b)) (hD : 4 ≤ D) : wpI D 104 [.ref 0, .int p, .int a, .int b] (mW w σ) K ↔ K (-1) (mW w σ) := by
  have h' := h
  obtain ⟨hw, hS, hH, ⟨P, hP, p3, p4, hτ⟩, hρ, hv, hr, h1, htp, htb, ht⟩ := h
  have hT := isTP hw hP
  have hT' := hT
  simp only [isT] at hT'
  refine cI_of (m := 3) (fun d hd Q hQ => ?_) rfl hD
  have hd1 : 1 ≤ d := by omega
  have v1 := hv.2.1
  refine b104_0 ?_
  by_cases z : bN p (τ 1) = 1
  · by_cases y : grP a
    · have ey : iB (grP a) = 1 := iB_t y
      by_cases x : grP b
      · have ex : iB (grP b) = 1 := iB_t x
        have u : (a ≤ b) ↔ False := iff_false_intro (fun q => hn ⟨z, y, x, q⟩)
        simp only [↓br_pos, ↓br_neg, ↓rF_I, ↓rF_L, ↓rF_R, ↓rF_N, rO_m, rB_m, ↓rI_m, wI_m, ↓rB2_m, ↓rB3_m, wB2_m, wB3_m, ↓rL_m, wL_m, ↓rQ_m, wQ_m, ↓lI_m, pI_m, pL_m, pR_m, sI_m, sBy_m, sBo_m, sL_m, sQ_m, fst_m, true_and, and_true, tg_some, ln_some, uI_1, uI_2, uL_1, uL_2, uL_3, uQ_1, uQ_2, uQ_3, rv_i, rv_l, rv_n, rv_b0, rv_b1, RMR, ne_eq, reduceCtorEq, not_false_eq_true, Option.getD_some, if_true, if_false, and_self, false_and, and_false, Nat.add_left_cancel_iff, Nat.add_eq_left, Nat.left_eq_add, Nat.one_ne_zero, Nat.reduceAdd, Nat.reduceLT, Nat.reduceLeDiff, Nat.reduceEqDiff, true_implies, false_implies, implies_true, Option.some.injEq, forall_eq', forall_eq, reduceCtorEq, brT, brF, br_s, i_10, i_01, ib_0_2, ib_1_2, tn_0, tn_1, Int32.le_refl, eq_self, rv_bN, rv_iM, RCX 0, RCG 2, RCT 4, RCT 15, RCT 25, RCS 35, RCS 49, RCH 63, RCP 67, RCB 72, RCR 77, RCM 81, RLY, lit_at hw, RCT P, hT', p3, g_71 hT hτ.2.2.1 (by omega : τ 1 < 2147483648) hd1, z, g_119 hd1, ey, ex, u]
        exact hQ
      · have ex : iB (grP b) = 0 := iB_f x
        simp only [↓br_pos, ↓br_neg, ↓rF_I, ↓rF_L, ↓rF_R, ↓rF_N, rO_m, rB_m, ↓rI_m, wI_m, ↓rB2_m, ↓rB3_m, wB2_m, wB3_m, ↓rL_m, wL_m, ↓rQ_m, wQ_m, ↓lI_m, pI_m, pL_m, pR_m, sI_m, sBy_m, sBo_m, sL_m, sQ_m, fst_m, true_and, and_true, tg_some, ln_some, uI_1, uI_2, uL_1, uL_2, uL_3, uQ_1, uQ_2, uQ_3, rv_i, rv_l, rv_n, rv_b0, rv_b1, RMR, ne_eq, reduceCtorEq, not_false_eq_true, Option.getD_some, if_true, if_false, and_self, false_and, and_false, Nat.add_left_cancel_iff, Nat.add_eq_left, Nat.left_eq_add, Nat.one_ne_zero, Nat.reduceAdd, Nat.reduceLT, Nat.reduceLeDiff, Nat.reduceEqDiff, true_implies, false_implies, implies_true, Option.some.injEq, forall_eq', forall_eq, reduceCtorEq, brT, brF, br_s, i_10, i_01, ib_0_2, ib_1_2, tn_0, tn_1, Int32.le_refl, eq_self, rv_bN, rv_iM, RCX 0, RCG 2, RCT 4, RCT 15, RCT 25, RCS 35, RCS 49, RCH 63, RCP 67, RCB 72, RCR 77, RCM 81, RLY, lit_at hw, RCT P, hT', p3, g_71 hT hτ.2.2.1 (by omega : τ 1 < 2147483648) hd1, z, g_119 hd1, ey, ex]
        exact hQ
    · have ey : iB (grP a) = 0 := iB_f y
      simp only [↓br_pos, ↓br_neg, ↓rF_I, ↓rF_L, ↓rF_R, ↓rF_N, rO_m, rB_m, ↓rI_m, wI_m, ↓rB2_m, ↓rB3_m, wB2_m, wB3_m, ↓rL_m, wL_m, ↓rQ_m, wQ_m, ↓lI_m, pI_m, pL_m, pR_m, sI_m, sBy_m, sBo_m, sL_m, sQ_m, fst_m, true_and, and_true, tg_some, ln_some, uI_1, uI_2, uL_1, uL_2, uL_3, uQ_1, uQ_2, uQ_3, rv_i, rv_l, rv_n, rv_b0, rv_b1, RMR, ne_eq, reduceCtorEq, not_false_eq_true, Option.getD_some, if_true, if_false, and_self, false_and, and_false, Nat.add_left_cancel_iff, Nat.add_eq_left, Nat.left_eq_add, Nat.one_ne_zero, Nat.reduceAdd, Nat.reduceLT, Nat.reduceLeDiff, Nat.reduceEqDiff, true_implies, false_implies, implies_true, Option.some.injEq, forall_eq', forall_eq, reduceCtorEq, brT, brF, br_s, i_10, i_01, ib_0_2, ib_1_2, tn_0, tn_1, Int32.le_refl, eq_self, rv_bN, rv_iM, RCX 0, RCG 2, RCT 4, RCT 15, RCT 25, RCS 35, RCS 49, RCH 63, RCP 67, RCB 72, RCR 77, RCM 81, RLY, lit_at hw, RCT P, hT', p3, g_71 hT hτ.2.2.1 (by omega : τ 1 < 2147483648) hd1, z, g_119 hd1, ey]
      exact hQ
  · have z' : bN p (τ 1) = 0 := bN_01.resolve_right z
    simp only [↓br_pos, ↓br_neg, ↓rF_I, ↓rF_L, ↓rF_R, ↓rF_N, rO_m, rB_m, ↓rI_m, wI_m, ↓rB2_m, ↓rB3_m, wB2_m, wB3_m, ↓rL_m, wL_m, ↓rQ_m, wQ_m, ↓lI_m, pI_m, pL_m, pR_m, sI_m, sBy_m, sBo_m, sL_m, sQ_m, fst_m, true_and, and_true, tg_some, ln_some, uI_1, uI_2, uL_1, uL_2, uL_3, uQ_1, uQ_2, uQ_3, rv_i, rv_l, rv_n, rv_b0, rv_b1, RMR, ne_eq, reduceCtorEq, not_false_eq_true, Option.getD_some, if_true, if_false, and_self, false_and, and_false, Nat.add_left_cancel_iff, Nat.add_eq_left, Nat.left_eq_add, Nat.one_ne_zero, Nat.reduceAdd, Nat.reduceLT, Nat.reduceLeDiff, Nat.reduceEqDiff, true_implies, false_implies, implies_true, Option.some.injEq, forall_eq', forall_eq, reduceCtorEq, brT, brF, br_s, i_10, i_01, ib_0_2, ib_1_2, tn_0, tn_1, Int32.le_refl, eq_self, rv_bN, rv_iM, RCX 0, RCG 2, RCT 4, RCT 15, RCT 25, RCS 35, RCS 49, RCH 63, RCP 67, RCB 72, RCR 77, RCM 81, RLY, lit_at hw, RCT P, hT', p3, g_71 hT hτ.2.2.1 (by omega : τ 1 < 2147483648) hd1, z']
    exact hQ
theorem grP_on {a : Nat} (h : a ≤ 999) : grP (Int32.ofNat a) := by
  show 0 ≤ (Int32.ofNat a).toInt ∧ (Int32.ofNat a).toInt ≤ 999
  rw [on_int (by omega)]
  omega
theorem c_104 {w : mT} {σ : mS} {tp n : Nat} {t : Nat → Nat} {τ ρ : Rw} {bk : Nat → Rw} {has : Nat → Bool} {im : Nat → Rw} {p a b : Nat} {D : Nat} {K : Int32 → Hp → Prop} (h : cIn w σ tp t τ ρ n bk has im) (hp : p < τ 1) (hab : a ≤ b) (hb : b ≤ 999) (hD : 4 ≤ D) : wpI D 104 [.ref 0, .int (Int32.ofNat p), .int (Int32.ofNat a), .int (Int32.ofNat b)] (mW w σ) K ↔ K (wiB τ ρ p a b (τ (28 + p))) (mW w σ) := by
  have h' := h
  obtain ⟨hw, hS, hH, ⟨P, hP, p3, p4, hτ⟩, hρ, hv, hr, h1, htp, htb, ht⟩ := h
  have hT := isTP hw hP
  have hT' := hT
  simp only [isT] at hT'
  refine cI_of (m := 3) (fun d hd Q hQ => ?_) rfl hD
  have hd1 : 1 ≤ d := by omega
  have hd2 : 2 ≤ d := by omega
  have v1 := hv.2.1
  have v2 := (hv.2.2.2.2.2.1 p hp).1
  have z := bN_on hp (by omega : τ 1 < 2147483648)
  have ey : iB (grP (Int32.ofNat a)) = 1 := iB_t (grP_on (by omega))
  have ex : iB (grP (Int32.ofNat b)) = 1 := iB_t (grP_on hb)
  have u := iff_true_intro ((on_le (by omega) (by omega)).mpr hab)
  refine b104_0 ?_
  simp only [↓br_pos, ↓br_neg, ↓rF_I, ↓rF_L, ↓rF_R, ↓rF_N, rO_m, rB_m, ↓rI_m, wI_m, ↓rB2_m, ↓rB3_m, wB2_m, wB3_m, ↓rL_m, wL_m, ↓rQ_m, wQ_m, ↓lI_m, pI_m, pL_m, pR_m, sI_m, sBy_m, sBo_m, sL_m, sQ_m, fst_m, true_and, and_true, tg_some, ln_some, uI_1, uI_2, uL_1, uL_2, uL_3, uQ_1, uQ_2, uQ_3, rv_i, rv_l, rv_n, rv_b0, rv_b1, RMR, ne_eq, reduceCtorEq, not_false_eq_true, Option.getD_some, if_true, if_false, and_self, false_and, and_false, Nat.add_left_cancel_iff, Nat.add_eq_left, Nat.left_eq_add, Nat.one_ne_zero, Nat.reduceAdd, Nat.reduceLT, Nat.reduceLeDiff, Nat.reduceEqDiff, true_implies, false_implies, implies_true, Option.some.injEq, forall_eq', forall_eq, reduceCtorEq, brT, brF, br_s, i_10, i_01, ib_0_2, ib_1_2, tn_0, tn_1, Int32.le_refl, eq_self, rv_bN, rv_iM, RCX 0, RCG 2, RCT 4, RCT 15, RCT 25, RCS 35, RCS 49, RCH 63, RCP 67, RCB 72, RCR 77, RCM 81, RLY, lit_at hw, RCT P, hT', p3, g_71 hT hτ.2.2.1 (by omega : τ 1 < 2147483648) hd1, z, g_119 hd1, ey, ex, u]
  exact lp_104 hw hP p3 hτ hv hρ hr hp (by omega) hb hd2 hQ (τ (28 + p)) 0 jk jk (by omega) (Or.inl ⟨rfl, rfl, by omega⟩)
/-- the lot to lay next: 0, or one more than it, and how far -/
def neF (τ ρ : Rw) (p t aim l : Nat) : Nat := dist (gPi τ ρ p + t * τ (28 + p) * τ (16 + l)) (aim * (tPi τ ρ p + t * τ (28 + p)))
def neB (τ ρ : Rw) (p t aim : Nat) : Nat → Nat × Nat
  | 0 => (0, 0)
  | l + 1 => if t * τ (28 + p) ≤ ρ (12 + l) ∧ ((neB τ ρ p t aim l).1 = 0 ∨ neF τ ρ p t aim l < (neB τ ρ p t aim l).2) then (l + 1, neF τ ρ p t aim l) else neB τ ρ p t aim l
def neI (b : Nat) : Int32 := if b = 0 then -2 else Int32.ofNat (b - 1)
theorem neI_2 {b : Nat} (h : b < 1000) : (neI b = (-2 : Int32)) ↔ b = 0 := by
  unfold neI
  by_cases z : b = 0
  · rw [if_pos z]; exact ⟨fun _ => z, fun _ => rfl⟩
  · rw [if_neg z]
    refine ⟨fun q => ?_, fun q => absurd q z⟩
    have := congrArg Int32.toInt q
    rw [on_int (by omega), show (-2 : Int32).toInt = -2 by decide] at this
    omega
theorem neB_lt {τ ρ : Rw} {p t aim n : Nat} (hF : ∀ l, l < n → neF τ ρ p t aim l < 500000000) : ∀ l, l ≤ n → (neB τ ρ p t aim l).1 ≤ l ∧ (neB τ ρ p t aim l).2 < 500000000 := by
  intro l
  induction l with
  | zero => exact fun _ => ⟨Nat.le_refl _, by show 0 < 500000000; omega⟩
  | succ l ih =>
    intro hl
    obtain ⟨i1, i2⟩ := ih (by omega)
    unfold neB
    split
    · exact ⟨Nat.le_refl _, hF l (by omega)⟩
    · exact ⟨by omega, i2⟩
theorem neF_b {τ ρ : Rw} {p t aim l : Nat} (hv : vTold τ) (hr : vRow τ ρ) (hp : p < τ 1) (ht : t ≤ 99) (ha : aim ≤ 999) (hl : l < τ 0) : gPi τ ρ p + t * τ (28 + p) * τ (16 + l) < 200000000 ∧ aim * (tPi τ ρ p + t * τ (28 + p)) < 200000000 := by
  have v2 := (hv.2.2.2.2.2.1 p hp).2
  have gr := (hv.2.2.2.2.1 l hl).2.2
  have t1 := tPi_lt hv hr hp
  have g1 := gPi_le hv hr hp
  have m1 : t * τ (28 + p) ≤ 99 * 12 := Nat.mul_le_mul ht v2
  have m2 : t * τ (28 + p) * τ (16 + l) ≤ 99 * 12 * 999 := Nat.mul_le_mul m1 gr
  have m3 : aim * (tPi τ ρ p + t * τ (28 + p)) ≤ 999 * (119988 + 99 * 12) := Nat.mul_le_mul ha (by omega)
  omega
theorem lp_111 {w : mT} {σ : mS} {P p t aim d : Nat} {τ ρ : Rw} {Q : Option (Option Value) → Hp → Prop} (hw : lit w) (hP : P = 15 ∨ P = 25) (p3 : σ.2.2 0 3 = some P) (hτ : tTold σ P τ) (hv : vTold τ) (hρ : tSt σ 35 τ ρ) (hr : vRow τ ρ) (hp : p < τ 1) (ht : t ≤ 99) (ha : aim ≤ 999) (hQ : Q (some (some (.int (neI (neB τ ρ p t aim (τ 0)).1)))) (mW w σ)) : ∀ (r l : Nat) (x : Value), l + r = τ 0 → (x = jk ∨ ∃ u : Int32, x = .int u) → Wp 111 82 [.ref 0, .int (Int32.ofNat p), .int (Int32.ofNat t), .int (Int32.ofNat aim), .int (Int32.ofNat (t * τ (28 + p))), .int (Int32.ofNat (tPi τ ρ p)), .int (Int32.ofNat (gPi τ ρ p)), .int (neI (neB τ ρ p t aim l).1), .int (Int32.ofNat (neB τ ρ p t aim l).2), .int (Int32.ofNat l), x] [] (mW w σ) Q d := by
  have hT := isTP hw hP
  have hT' := hT
  simp only [isT] at hT'
  have v0 := hv.1
  have v2 := (hv.2.2.2.2.2.1 p hp).2
  have m1 : t * τ (28 + p) ≤ 99 * 12 := Nat.mul_le_mul ht v2
  have nl := neB_lt (τ := τ) (ρ := ρ) (p := p) (t := t) (aim := aim) (n := τ 0) (fun l hl => by
    have q := neF_b hv hr hp ht ha hl
    unfold neF dist
    omega)
  have e0 : σ.1 P 2 = Int32.ofNat (τ 0) := hτ.2.1
  intro r
  induction r with
  | zero =>
    intro l x hl hx
    have hl' : l = τ 0 := by omega
    subst hl'
    rcases hx with rfl | ⟨u, rfl⟩
    · refine b111_82 ?_
      simp only [↓br_pos, ↓br_neg, ↓rF_I, ↓rF_L, ↓rF_R, ↓rF_N, rO_m, rB_m, ↓rI_m, wI_m, ↓rB2_m, ↓rB3_m, wB2_m, wB3_m, ↓rL_m, wL_m, ↓rQ_m, wQ_m, ↓lI_m, pI_m, pL_m, pR_m, sI_m, sBy_m, sBo_m, sL_m, sQ_m, fst_m, true_and, and_true, tg_some, ln_some, uI_1, uI_2, uL_1, uL_2, uL_3, uQ_1, uQ_2, uQ_3, rv_i, rv_l, rv_n, rv_b0, rv_b1, RMR, ne_eq, reduceCtorEq, not_false_eq_true, Option.getD_some, if_true, if_false, and_self, false_and, and_false, Nat.add_left_cancel_iff, Nat.add_eq_left, Nat.left_eq_add, Nat.one_ne_zero, Nat.reduceAdd, Nat.reduceLT, Nat.reduceLeDiff, Nat.reduceEqDiff, true_implies, false_implies, implies_true, Option.some.injEq, forall_eq', forall_eq, reduceCtorEq, brT, brF, br_s, i_10, i_01, ib_0_2, ib_1_2, tn_0, tn_1, Int32.le_refl, eq_self, rv_bN, rv_iM, RCX 0, RCG 2, RCT 4, RCT 15, RCT 25, RCS 35, RCS 49, RCH 63, RCP 67, RCB 72, RCR 77, RCM 81, RLY, lit_at hw, RCT P, hT', p3, e0, Int32.le_refl]
      exact hQ
    · refine b111_82a ?_
      simp only [↓br_pos, ↓br_neg, ↓rF_I, ↓rF_L, ↓rF_R, ↓rF_N, rO_m, rB_m, ↓rI_m, wI_m, ↓rB2_m, ↓rB3_m, wB2_m, wB3_m, ↓rL_m, wL_m, ↓rQ_m, wQ_m, ↓lI_m, pI_m, pL_m, pR_m, sI_m, sBy_m, sBo_m, sL_m, sQ_m, fst_m, true_and, and_true, tg_some, ln_some, uI_1, uI_2, uL_1, uL_2, uL_3, uQ_1, uQ_2, uQ_3, rv_i, rv_l, rv_n, rv_b0, rv_b1, RMR, ne_eq, reduceCtorEq, not_false_eq_true, Option.getD_some, if_true, if_false, and_self, false_and, and_false, Nat.add_left_cancel_iff, Nat.add_eq_left, Nat.left_eq_add, Nat.one_ne_zero, Nat.reduceAdd, Nat.reduceLT, Nat.reduceLeDiff, Nat.reduceEqDiff, true_implies, false_implies, implies_true, Option.some.injEq, forall_eq', forall_eq, reduceCtorEq, brT, brF, br_s, i_10, i_01, ib_0_2, ib_1_2, tn_0, tn_1, Int32.le_refl, eq_self, rv_bN, rv_iM, RCX 0, RCG 2, RCT 4, RCT 15, RCT 25, RCS 35, RCS 49, RCH 63, RCP 67, RCB 72, RCR 77, RCM 81, RLY, lit_at hw, RCT P, hT', p3, e0, Int32.le_refl]
      exact hQ
  | succ r ih =>
    intro l x hl hx
    have hl' : l < τ 0 := by omega
    have nb := nl l (by omega)
    have eb : inB (Int32.ofNat l) 12 = true := on_inB (by omega) (by omega)
    have en := on_nat (i := l) (by omega)
    have e1 := e0
    have e2 := (hτ.2.2.2.2.1 l hl').2
    have e3 : σ.1 36 l = Int32.ofNat (ρ (12 + l)) := tS_lf hρ (by omega)
    have lf := left_lt hr hl'
    have l1 : (Int32.ofNat (τ 0) ≤ Int32.ofNat l) ↔ False := iff_false_intro (fun q => absurd ((on_le (by omega) (by omega)).mp q) (by omega))
    have fb := neF_b hv hr hp ht ha hl'
    have ab : (if 0 ≤ Int32.ofNat (gPi τ ρ p + t * τ (28 + p) * τ (16 + l)) - Int32.ofNat (aim * (tPi τ ρ p + t * τ (28 + p))) then Int32.ofNat (gPi τ ρ p + t * τ (28 + p) * τ (16 + l)) - Int32.ofNat (aim * (tPi τ ρ p + t * τ (28 + p))) else 0 - (Int32.ofNat (gPi τ ρ p + t * τ (28 + p) * τ (16 + l)) - Int32.ofNat (aim * (tPi τ ρ p + t * τ (28 + p))))) = Int32.ofNat (neF τ ρ p t aim l) := abs_of (by omega) (by omega)
    have fl : neF τ ρ p t aim l < 500000000 := by unfold neF dist; omega
    have c0 := on_lt (i := ρ (12 + l)) (j := t * τ (28 + p)) (by omega) (by omega)
    have c2 := on_le (i := (neB τ ρ p t aim l).2) (j := neF τ ρ p t aim l) (by omega) (by omega)
    have nx := ih (l + 1) (.int (Int32.ofNat (neF τ ρ p t aim l))) (by omega) (Or.inr ⟨_, rfl⟩)
    rcases hx with rfl | ⟨u, rfl⟩
    · skip
      refine b111_82 ?_
      by_cases z0 : t * τ (28 + p) ≤ ρ (12 + l)
      · have c0' := iff_false_intro (fun q => absurd (c0.mp q) (by omega))
        by_cases z1 : (neB τ ρ p t aim l).1 = 0
        · have c1' := iff_true_intro ((neI_2 (by omega)).mpr z1)
          have eB : neB τ ρ p t aim (l + 1) = (l + 1, neF τ ρ p t aim l) := if_pos ⟨z0, Or.inl z1⟩
          rw [eB] at nx
          simp only [↓br_pos, ↓br_neg, ↓rF_I, ↓rF_L, ↓rF_R, ↓rF_N, rO_m, rB_m, ↓rI_m, wI_m, ↓rB2_m, ↓rB3_m, wB2_m, wB3_m, ↓rL_m, wL_m, ↓rQ_m, wQ_m, ↓lI_m, pI_m, pL_m, pR_m, sI_m, sBy_m, sBo_m, sL_m, sQ_m, fst_m, true_and, and_true, tg_some, ln_some, uI_1, uI_2, uL_1, uL_2, uL_3, uQ_1, uQ_2, uQ_3, rv_i, rv_l, rv_n, rv_b0, rv_b1, RMR, ne_eq, reduceCtorEq, not_false_eq_true, Option.getD_some, if_true, if_false, and_self, false_and, and_false, Nat.add_left_cancel_iff, Nat.add_eq_left, Nat.left_eq_add, Nat.one_ne_zero, Nat.reduceAdd, Nat.reduceLT, Nat.reduceLeDiff, Nat.reduceEqDiff, true_implies, false_implies, implies_true, Option.some.injEq, forall_eq', forall_eq, reduceCtorEq, brT, brF, br_s, i_10, i_01, ib_0_2, ib_1_2, tn_0, tn_1, Int32.le_refl, eq_self, rv_bN, rv_iM, RCX 0, RCG 2, RCT 4, RCT 15, RCT 25, RCS 35, RCS 49, RCH 63, RCP 67, RCB 72, RCR 77, RCM 81, RLY, lit_at hw, RCT P, hT', p3, eb, en, e1, e2, e3, l1, c0', c1', of_mul, of_add, ab]
          refine b111_160 ?_
          rw [on_succ]
          exact nx
        · have c1' := iff_false_intro (fun q => z1 ((neI_2 (by omega)).mp q))
          by_cases z2 : neF τ ρ p t aim l < (neB τ ρ p t aim l).2
          · have c2' := iff_false_intro (fun q => absurd (c2.mp q) (by omega))
            have eB : neB τ ρ p t aim (l + 1) = (l + 1, neF τ ρ p t aim l) := if_pos ⟨z0, Or.inr z2⟩
            rw [eB] at nx
            simp only [↓br_pos, ↓br_neg, ↓rF_I, ↓rF_L, ↓rF_R, ↓rF_N, rO_m, rB_m, ↓rI_m, wI_m, ↓rB2_m, ↓rB3_m, wB2_m, wB3_m, ↓rL_m, wL_m, ↓rQ_m, wQ_m, ↓lI_m, pI_m, pL_m, pR_m, sI_m, sBy_m, sBo_m, sL_m, sQ_m, fst_m, true_and, and_true, tg_some, ln_some, uI_1, uI_2, uL_1, uL_2, uL_3, uQ_1, uQ_2, uQ_3, rv_i, rv_l, rv_n, rv_b0, rv_b1, RMR, ne_eq, reduceCtorEq, not_false_eq_true, Option.getD_some, if_true, if_false, and_self, false_and, and_false, Nat.add_left_cancel_iff, Nat.add_eq_left, Nat.left_eq_add, Nat.one_ne_zero, Nat.reduceAdd, Nat.reduceLT, Nat.reduceLeDiff, Nat.reduceEqDiff, true_implies, false_implies, implies_true, Option.some.injEq, forall_eq', forall_eq, reduceCtorEq, brT, brF, br_s, i_10, i_01, ib_0_2, ib_1_2, tn_0, tn_1, Int32.le_refl, eq_self, rv_bN, rv_iM, RCX 0, RCG 2, RCT 4, RCT 15, RCT 25, RCS 35, RCS 49, RCH 63, RCP 67, RCB 72, RCR 77, RCM 81, RLY, lit_at hw, RCT P, hT', p3, eb, en, e1, e2, e3, l1, c0', c1', c2', of_mul, of_add, ab]
            refine b111_160 ?_
            rw [on_succ]
            exact nx
          · have c2' := iff_true_intro (c2.mpr (by omega))
            have eB : neB τ ρ p t aim (l + 1) = neB τ ρ p t aim l := if_neg (fun q => q.2.elim z1 z2)
            rw [eB] at nx
            simp only [↓br_pos, ↓br_neg, ↓rF_I, ↓rF_L, ↓rF_R, ↓rF_N, rO_m, rB_m, ↓rI_m, wI_m, ↓rB2_m, ↓rB3_m, wB2_m, wB3_m, ↓rL_m, wL_m, ↓rQ_m, wQ_m, ↓lI_m, pI_m, pL_m, pR_m, sI_m, sBy_m, sBo_m, sL_m, sQ_m, fst_m, true_and, and_true, tg_some, ln_some, uI_1, uI_2, uL_1, uL_2, uL_3, uQ_1, uQ_2, uQ_3, rv_i, rv_l, rv_n, rv_b0, rv_b1, RMR, ne_eq, reduceCtorEq, not_false_eq_true, Option.getD_some, if_true, if_false, and_self, false_and, and_false, Nat.add_left_cancel_iff, Nat.add_eq_left, Nat.left_eq_add, Nat.one_ne_zero, Nat.reduceAdd, Nat.reduceLT, Nat.reduceLeDiff, Nat.reduceEqDiff, true_implies, false_implies, implies_true, Option.some.injEq, forall_eq', forall_eq, reduceCtorEq, brT, brF, br_s, i_10, i_01, ib_0_2, ib_1_2, tn_0, tn_1, Int32.le_refl, eq_self, rv_bN, rv_iM, RCX 0, RCG 2, RCT 4, RCT 15, RCT 25, RCS 35, RCS 49, RCH 63, RCP 67, RCB 72, RCR 77, RCM 81, RLY, lit_at hw, RCT P, hT', p3, eb, en, e1, e2, e3, l1, c0', c1', c2', of_mul, of_add, ab]
            refine b111_160 ?_
            rw [on_succ]
            exact nx
      · have c0' := iff_true_intro (c0.mpr (by omega))
        have eB : neB τ ρ p t aim (l + 1) = neB τ ρ p t aim l := if_neg (fun q => z0 q.1)
        rw [eB] at nx
        simp only [↓br_pos, ↓br_neg, ↓rF_I, ↓rF_L, ↓rF_R, ↓rF_N, rO_m, rB_m, ↓rI_m, wI_m, ↓rB2_m, ↓rB3_m, wB2_m, wB3_m, ↓rL_m, wL_m, ↓rQ_m, wQ_m, ↓lI_m, pI_m, pL_m, pR_m, sI_m, sBy_m, sBo_m, sL_m, sQ_m, fst_m, true_and, and_true, tg_some, ln_some, uI_1, uI_2, uL_1, uL_2, uL_3, uQ_1, uQ_2, uQ_3, rv_i, rv_l, rv_n, rv_b0, rv_b1, RMR, ne_eq, reduceCtorEq, not_false_eq_true, Option.getD_some, if_true, if_false, and_self, false_and, and_false, Nat.add_left_cancel_iff, Nat.add_eq_left, Nat.left_eq_add, Nat.one_ne_zero, Nat.reduceAdd, Nat.reduceLT, Nat.reduceLeDiff, Nat.reduceEqDiff, true_implies, false_implies, implies_true, Option.some.injEq, forall_eq', forall_eq, reduceCtorEq, brT, brF, br_s, i_10, i_01, ib_0_2, ib_1_2, tn_0, tn_1, Int32.le_refl, eq_self, rv_bN, rv_iM, RCX 0, RCG 2, RCT 4, RCT 15, RCT 25, RCS 35, RCS 49, RCH 63, RCP 67, RCB 72, RCR 77, RCM 81, RLY, lit_at hw, RCT P, hT', p3, eb, en, e1, e2, e3, l1, c0', of_mul, of_add, ab]
        refine b111_160 ?_
        rw [on_succ]
        exact nx
    · skip
      refine b111_82a ?_
      by_cases z0 : t * τ (28 + p) ≤ ρ (12 + l)
      · have c0' := iff_false_intro (fun q => absurd (c0.mp q) (by omega))
        by_cases z1 : (neB τ ρ p t aim l).1 = 0
        · have c1' := iff_true_intro ((neI_2 (by omega)).mpr z1)
          have eB : neB τ ρ p t aim (l + 1) = (l + 1, neF τ ρ p t aim l) := if_pos ⟨z0, Or.inl z1⟩
          rw [eB] at nx
          simp only [↓br_pos, ↓br_neg, ↓rF_I, ↓rF_L, ↓rF_R, ↓rF_N, rO_m, rB_m, ↓rI_m, wI_m, ↓rB2_m, ↓rB3_m, wB2_m, wB3_m, ↓rL_m, wL_m, ↓rQ_m, wQ_m, ↓lI_m, pI_m, pL_m, pR_m, sI_m, sBy_m, sBo_m, sL_m, sQ_m, fst_m, true_and, and_true, tg_some, ln_some, uI_1, uI_2, uL_1, uL_2, uL_3, uQ_1, uQ_2, uQ_3, rv_i, rv_l, rv_n, rv_b0, rv_b1, RMR, ne_eq, reduceCtorEq, not_false_eq_true, Option.getD_some, if_true, if_false, and_self, false_and, and_false, Nat.add_left_cancel_iff, Nat.add_eq_left, Nat.left_eq_add, Nat.one_ne_zero, Nat.reduceAdd, Nat.reduceLT, Nat.reduceLeDiff, Nat.reduceEqDiff, true_implies, false_implies, implies_true, Option.some.injEq, forall_eq', forall_eq, reduceCtorEq, brT, brF, br_s, i_10, i_01, ib_0_2, ib_1_2, tn_0, tn_1, Int32.le_refl, eq_self, rv_bN, rv_iM, RCX 0, RCG 2, RCT 4, RCT 15, RCT 25, RCS 35, RCS 49, RCH 63, RCP 67, RCB 72, RCR 77, RCM 81, RLY, lit_at hw, RCT P, hT', p3, eb, en, e1, e2, e3, l1, c0', c1', of_mul, of_add, ab]
          refine b111_160 ?_
          rw [on_succ]
          exact nx
        · have c1' := iff_false_intro (fun q => z1 ((neI_2 (by omega)).mp q))
          by_cases z2 : neF τ ρ p t aim l < (neB τ ρ p t aim l).2
          · have c2' := iff_false_intro (fun q => absurd (c2.mp q) (by omega))
            have eB : neB τ ρ p t aim (l + 1) = (l + 1, neF τ ρ p t aim l) := if_pos ⟨z0, Or.inr z2⟩
            rw [eB] at nx
            simp only [↓br_pos, ↓br_neg, ↓rF_I, ↓rF_L, ↓rF_R, ↓rF_N, rO_m, rB_m, ↓rI_m, wI_m, ↓rB2_m, ↓rB3_m, wB2_m, wB3_m, ↓rL_m, wL_m, ↓rQ_m, wQ_m, ↓lI_m, pI_m, pL_m, pR_m, sI_m, sBy_m, sBo_m, sL_m, sQ_m, fst_m, true_and, and_true, tg_some, ln_some, uI_1, uI_2, uL_1, uL_2, uL_3, uQ_1, uQ_2, uQ_3, rv_i, rv_l, rv_n, rv_b0, rv_b1, RMR, ne_eq, reduceCtorEq, not_false_eq_true, Option.getD_some, if_true, if_false, and_self, false_and, and_false, Nat.add_left_cancel_iff, Nat.add_eq_left, Nat.left_eq_add, Nat.one_ne_zero, Nat.reduceAdd, Nat.reduceLT, Nat.reduceLeDiff, Nat.reduceEqDiff, true_implies, false_implies, implies_true, Option.some.injEq, forall_eq', forall_eq, reduceCtorEq, brT, brF, br_s, i_10, i_01, ib_0_2, ib_1_2, tn_0, tn_1, Int32.le_refl, eq_self, rv_bN, rv_iM, RCX 0, RCG 2, RCT 4, RCT 15, RCT 25, RCS 35, RCS 49, RCH 63, RCP 67, RCB 72, RCR 77, RCM 81, RLY, lit_at hw, RCT P, hT', p3, eb, en, e1, e2, e3, l1, c0', c1', c2', of_mul, of_add, ab]
            refine b111_160 ?_
            rw [on_succ]
            exact nx
          · have c2' := iff_true_intro (c2.mpr (by omega))
            have eB : neB τ ρ p t aim (l + 1) = neB τ ρ p t aim l := if_neg (fun q => q.2.elim z1 z2)
            rw [eB] at nx
            simp only [↓br_pos, ↓br_neg, ↓rF_I, ↓rF_L, ↓rF_R, ↓rF_N, rO_m, rB_m, ↓rI_m, wI_m, ↓rB2_m, ↓rB3_m, wB2_m, wB3_m, ↓rL_m, wL_m, ↓rQ_m, wQ_m, ↓lI_m, pI_m, pL_m, pR_m, sI_m, sBy_m, sBo_m, sL_m, sQ_m, fst_m, true_and, and_true, tg_some, ln_some, uI_1, uI_2, uL_1, uL_2, uL_3, uQ_1, uQ_2, uQ_3, rv_i, rv_l, rv_n, rv_b0, rv_b1, RMR, ne_eq, reduceCtorEq, not_false_eq_true, Option.getD_some, if_true, if_false, and_self, false_and, and_false, Nat.add_left_cancel_iff, Nat.add_eq_left, Nat.left_eq_add, Nat.one_ne_zero, Nat.reduceAdd, Nat.reduceLT, Nat.reduceLeDiff, Nat.reduceEqDiff, true_implies, false_implies, implies_true, Option.some.injEq, forall_eq', forall_eq, reduceCtorEq, brT, brF, br_s, i_10, i_01, ib_0_2, ib_1_2, tn_0, tn_1, Int32.le_refl, eq_self, rv_bN, rv_iM, RCX 0, RCG 2, RCT 4, RCT 15, RCT 25, RCS 35, RCS 49, RCH 63, RCP 67, RCB 72, RCR 77, RCM 81, RLY, lit_at hw, RCT P, hT', p3, eb, en, e1, e2, e3, l1, c0', c1', c2', of_mul, of_add, ab]
            refine b111_160 ?_
            rw [on_succ]
            exact nx
      · have c0' := iff_true_intro (c0.mpr (by omega))
        have eB : neB τ ρ p t aim (l + 1) = neB τ ρ p t aim l := if_neg (fun q => z0 q.1)
        rw [eB] at nx
        simp only [↓br_pos, ↓br_neg, ↓rF_I, ↓rF_L, ↓rF_R, ↓rF_N, rO_m, rB_m, ↓rI_m, wI_m, ↓rB2_m, ↓rB3_m, wB2_m, wB3_m, ↓rL_m, wL_m, ↓rQ_m, wQ_m, ↓lI_m, pI_m, pL_m, pR_m, sI_m, sBy_m, sBo_m, sL_m, sQ_m, fst_m, true_and, and_true, tg_some, ln_some, uI_1, uI_2, uL_1, uL_2, uL_3, uQ_1, uQ_2, uQ_3, rv_i, rv_l, rv_n, rv_b0, rv_b1, RMR, ne_eq, reduceCtorEq, not_false_eq_true, Option.getD_some, if_true, if_false, and_self, false_and, and_false, Nat.add_left_cancel_iff, Nat.add_eq_left, Nat.left_eq_add, Nat.one_ne_zero, Nat.reduceAdd, Nat.reduceLT, Nat.reduceLeDiff, Nat.reduceEqDiff, true_implies, false_implies, implies_true, Option.some.injEq, forall_eq', forall_eq, reduceCtorEq, brT, brF, br_s, i_10, i_01, ib_0_2, ib_1_2, tn_0, tn_1, Int32.le_refl, eq_self, rv_bN, rv_iM, RCX 0, RCG 2, RCT 4, RCT 15, RCT 25, RCS 35, RCS 49, RCH 63, RCP 67, RCB 72, RCR 77, RCM 81, RLY, lit_at hw, RCT P, hT', p3, eb, en, e1, e2, e3, l1, c0', of_mul, of_add, ab]
        refine b111_160 ?_
        rw [on_succ]
        exact nx

abbrev neP (τ : Rw) (p t aim : Int32) : Prop := bN p (τ 1) = 1 ∧ 1 ≤ t.toInt ∧ t.toInt ≤ 99 ∧ grP aim
theorem c_111z {w : mT} {σ : mS} {tp n : Nat} {t : Nat → Nat} {τ ρ : Rw} {bk : Nat → Rw} {has : Nat → Bool} {im : Nat → Rw} {p y0 aim : Int32} {D : Nat} {K : Int32 → Hp → Prop} (h : cIn w σ tp t τ ρ n bk has im) (hn : ¬ neP τ p y0 aim) (hD : 5 ≤ D) : wpI D 111 [.ref 0, .int p, .int y0, .int aim] (mW w σ) K ↔ K (-1) (mW w σ) := by
  have h' := h
  obtain ⟨hw, hS, hH, ⟨P, hP, p3, p4, hτ⟩, hρ, hv, hr, h1, htp, htb, ht⟩ := h
  have hT := isTP hw hP
  have hT' := hT
  simp only [isT] at hT'
  refine cI_of (m := 4) (fun d hd Q hQ => ?_) rfl hD
  have hd1 : 1 ≤ d := by omega
  have v1 := hv.2.1
  refine b111_0 ?_
  by_cases z : bN p (τ 1) = 1
  · by_cases y : y0 < 1
    · simp only [↓br_pos, ↓br_neg, ↓rF_I, ↓rF_L, ↓rF_R, ↓rF_N, rO_m, rB_m, ↓rI_m, wI_m, ↓rB2_m, ↓rB3_m, wB2_m, wB3_m, ↓rL_m, wL_m, ↓rQ_m, wQ_m, ↓lI_m, pI_m, pL_m, pR_m, sI_m, sBy_m, sBo_m, sL_m, sQ_m, fst_m, true_and, and_true, tg_some, ln_some, uI_1, uI_2, uL_1, uL_2, uL_3, uQ_1, uQ_2, uQ_3, rv_i, rv_l, rv_n, rv_b0, rv_b1, RMR, ne_eq, reduceCtorEq, not_false_eq_true, Option.getD_some, if_true, if_false, and_self, false_and, and_false, Nat.add_left_cancel_iff, Nat.add_eq_left, Nat.left_eq_add, Nat.one_ne_zero, Nat.reduceAdd, Nat.reduceLT, Nat.reduceLeDiff, Nat.reduceEqDiff, true_implies, false_implies, implies_true, Option.some.injEq, forall_eq', forall_eq, reduceCtorEq, brT, brF, br_s, i_10, i_01, ib_0_2, ib_1_2, tn_0, tn_1, Int32.le_refl, eq_self, rv_bN, rv_iM, RCX 0, RCG 2, RCT 4, RCT 15, RCT 25, RCS 35, RCS 49, RCH 63, RCP 67, RCB 72, RCR 77, RCM 81, RLY, lit_at hw, RCT P, hT', p3, g_71 hT hτ.2.2.1 (by omega : τ 1 < 2147483648) hd1, z, y]
      exact hQ
    · by_cases x : (99 : Int32) < y0
      · simp only [↓br_pos, ↓br_neg, ↓rF_I, ↓rF_L, ↓rF_R, ↓rF_N, rO_m, rB_m, ↓rI_m, wI_m, ↓rB2_m, ↓rB3_m, wB2_m, wB3_m, ↓rL_m, wL_m, ↓rQ_m, wQ_m, ↓lI_m, pI_m, pL_m, pR_m, sI_m, sBy_m, sBo_m, sL_m, sQ_m, fst_m, true_and, and_true, tg_some, ln_some, uI_1, uI_2, uL_1, uL_2, uL_3, uQ_1, uQ_2, uQ_3, rv_i, rv_l, rv_n, rv_b0, rv_b1, RMR, ne_eq, reduceCtorEq, not_false_eq_true, Option.getD_some, if_true, if_false, and_self, false_and, and_false, Nat.add_left_cancel_iff, Nat.add_eq_left, Nat.left_eq_add, Nat.one_ne_zero, Nat.reduceAdd, Nat.reduceLT, Nat.reduceLeDiff, Nat.reduceEqDiff, true_implies, false_implies, implies_true, Option.some.injEq, forall_eq', forall_eq, reduceCtorEq, brT, brF, br_s, i_10, i_01, ib_0_2, ib_1_2, tn_0, tn_1, Int32.le_refl, eq_self, rv_bN, rv_iM, RCX 0, RCG 2, RCT 4, RCT 15, RCT 25, RCS 35, RCS 49, RCH 63, RCP 67, RCB 72, RCR 77, RCM 81, RLY, lit_at hw, RCT P, hT', p3, g_71 hT hτ.2.2.1 (by omega : τ 1 < 2147483648) hd1, z, y, x]
        exact hQ
      · have ex : iB (grP aim) = 0 := iB_f (fun q => hn ⟨z, by rw [i_lt, show (1 : Int32).toInt = 1 by decide] at y; omega, by rw [i_lt, show (99 : Int32).toInt = 99 by decide] at x; omega, q⟩)
        simp only [↓br_pos, ↓br_neg, ↓rF_I, ↓rF_L, ↓rF_R, ↓rF_N, rO_m, rB_m, ↓rI_m, wI_m, ↓rB2_m, ↓rB3_m, wB2_m, wB3_m, ↓rL_m, wL_m, ↓rQ_m, wQ_m, ↓lI_m, pI_m, pL_m, pR_m, sI_m, sBy_m, sBo_m, sL_m, sQ_m, fst_m, true_and, and_true, tg_some, ln_some, uI_1, uI_2, uL_1, uL_2, uL_3, uQ_1, uQ_2, uQ_3, rv_i, rv_l, rv_n, rv_b0, rv_b1, RMR, ne_eq, reduceCtorEq, not_false_eq_true, Option.getD_some, if_true, if_false, and_self, false_and, and_false, Nat.add_left_cancel_iff, Nat.add_eq_left, Nat.left_eq_add, Nat.one_ne_zero, Nat.reduceAdd, Nat.reduceLT, Nat.reduceLeDiff, Nat.reduceEqDiff, true_implies, false_implies, implies_true, Option.some.injEq, forall_eq', forall_eq, reduceCtorEq, brT, brF, br_s, i_10, i_01, ib_0_2, ib_1_2, tn_0, tn_1, Int32.le_refl, eq_self, rv_bN, rv_iM, RCX 0, RCG 2, RCT 4, RCT 15, RCT 25, RCS 35, RCS 49, RCH 63, RCP 67, RCB 72, RCR 77, RCM 81, RLY, lit_at hw, RCT P, hT', p3, g_71 hT hτ.2.2.1 (by omega : τ 1 < 2147483648) hd1, z, y, x, g_119 hd1, ex]
        exact hQ
  · have z' : bN p (τ 1) = 0 := bN_01.resolve_right z
    simp only [↓br_pos, ↓br_neg, ↓rF_I, ↓rF_L, ↓rF_R, ↓rF_N, rO_m, rB_m, ↓rI_m, wI_m, ↓rB2_m, ↓rB3_m, wB2_m, wB3_m, ↓rL_m, wL_m, ↓rQ_m, wQ_m, ↓lI_m, pI_m, pL_m, pR_m, sI_m, sBy_m, sBo_m, sL_m, sQ_m, fst_m, true_and, and_true, tg_some, ln_some, uI_1, uI_2, uL_1, uL_2, uL_3, uQ_1, uQ_2, uQ_3, rv_i, rv_l, rv_n, rv_b0, rv_b1, RMR, ne_eq, reduceCtorEq, not_false_eq_true, Option.getD_some, if_true, if_false, and_self, false_and, and_false, Nat.add_left_cancel_iff, Nat.add_eq_left, Nat.left_eq_add, Nat.one_ne_zero, Nat.reduceAdd, Nat.reduceLT, Nat.reduceLeDiff, Nat.reduceEqDiff, true_implies, false_implies, implies_true, Option.some.injEq, forall_eq', forall_eq, reduceCtorEq, brT, brF, br_s, i_10, i_01, ib_0_2, ib_1_2, tn_0, tn_1, Int32.le_refl, eq_self, rv_bN, rv_iM, RCX 0, RCG 2, RCT 4, RCT 15, RCT 25, RCS 35, RCS 49, RCH 63, RCP 67, RCB 72, RCR 77, RCM 81, RLY, lit_at hw, RCT P, hT', p3, g_71 hT hτ.2.2.1 (by omega : τ 1 < 2147483648) hd1, z']
    exact hQ
theorem c_111 {w : mT} {σ : mS} {tp n : Nat} {t : Nat → Nat} {τ ρ : Rw} {bk : Nat → Rw} {has : Nat → Bool} {im : Nat → Rw} {p y0 aim : Nat} {D : Nat} {K : Int32 → Hp → Prop} (h : cIn w σ tp t τ ρ n bk has im) (hp : p < τ 1) (hy : 1 ≤ y0 ∧ y0 ≤ 99) (ha : aim ≤ 999) (hD : 5 ≤ D) : wpI D 111 [.ref 0, .int (Int32.ofNat p), .int (Int32.ofNat y0), .int (Int32.ofNat aim)] (mW w σ) K ↔ K (neI (neB τ ρ p y0 aim (τ 0)).1) (mW w σ) := by
  have h' := h
  obtain ⟨hw, hS, hH, ⟨P, hP, p3, p4, hτ⟩, hρ, hv, hr, h1, htp, htb, ht⟩ := h
  have hT := isTP hw hP
  have hT' := hT
  simp only [isT] at hT'
  refine cI_of (m := 4) (fun d hd Q hQ => ?_) rfl hD
  have hd1 : 1 ≤ d := by omega
  have hd3 : 3 ≤ d := by omega
  have v1 := hv.2.1
  have z := bN_on hp (by omega : τ 1 < 2147483648)
  have ex : iB (grP (Int32.ofNat aim)) = 1 := iB_t (grP_on ha)
  have c1 : (Int32.ofNat y0 < (1 : Int32)) ↔ False := iff_false_intro (fun q => absurd ((on_lt (j := 1) (by omega) (by omega)).mp q) (by omega))
  have c2 : ((99 : Int32) < Int32.ofNat y0) ↔ False := iff_false_intro (fun q => absurd ((on_lt (i := 99) (by omega) (by omega)).mp q) (by omega))
  have eb : inB (Int32.ofNat p) 3 = true := on_inB (by omega) (by omega)
  have en := on_nat (i := p) (by omega)
  have e1 := hτ.2.2.2.2.2.1 p hp
  refine b111_0 ?_
  simp only [↓br_pos, ↓br_neg, ↓rF_I, ↓rF_L, ↓rF_R, ↓rF_N, rO_m, rB_m, ↓rI_m, wI_m, ↓rB2_m, ↓rB3_m, wB2_m, wB3_m, ↓rL_m, wL_m, ↓rQ_m, wQ_m, ↓lI_m, pI_m, pL_m, pR_m, sI_m, sBy_m, sBo_m, sL_m, sQ_m, fst_m, true_and, and_true, tg_some, ln_some, uI_1, uI_2, uL_1, uL_2, uL_3, uQ_1, uQ_2, uQ_3, rv_i, rv_l, rv_n, rv_b0, rv_b1, RMR, ne_eq, reduceCtorEq, not_false_eq_true, Option.getD_some, if_true, if_false, and_self, false_and, and_false, Nat.add_left_cancel_iff, Nat.add_eq_left, Nat.left_eq_add, Nat.one_ne_zero, Nat.reduceAdd, Nat.reduceLT, Nat.reduceLeDiff, Nat.reduceEqDiff, true_implies, false_implies, implies_true, Option.some.injEq, forall_eq', forall_eq, reduceCtorEq, brT, brF, br_s, i_10, i_01, ib_0_2, ib_1_2, tn_0, tn_1, Int32.le_refl, eq_self, rv_bN, rv_iM, RCX 0, RCG 2, RCT 4, RCT 15, RCT 25, RCS 35, RCS 49, RCH 63, RCP 67, RCB 72, RCR 77, RCM 81, RLY, lit_at hw, RCT P, hT', p3, g_71 hT hτ.2.2.1 (by omega : τ 1 < 2147483648) hd1, z, c1, c2, g_119 hd1, ex, eb, en, e1, g_58 (isS35 hw) hT hρ hτ hv hr hp hd3, g_59 (isS35 hw) hT hρ hτ hv hr hp hd3, of_mul]
  exact b111_72 (lp_111 hw hP p3 hτ hv hρ hr hp hy.2 ha hQ (τ 0) 0 jk (by omega) (Or.inl rfl))
end
section
/-! the class's calls: spread -/
theorem lg_le0 {x y : Int64} : (lg_cmp x y ≤ 0) ↔ ¬ y < x := by
  rw [← lg_cmp_gt, Int32.not_lt]
theorem lg_ge0 {x y : Int64} : (0 ≤ lg_cmp x y) ↔ ¬ x < y := by
  rw [← lg_cmp_lt, Int32.not_lt]
theorem ol_lt {a b : Nat} (ha : a < 9223372036854775808) (hb : b < 9223372036854775808) : (Int64.ofNat a < Int64.ofNat b) ↔ a < b := by
  rw [Int64.lt_iff_toInt_lt, ol_int ha, ol_int hb]; omega
theorem lgq {a b : Nat} (ha : a < 9223372036854775808) (hb : b < 9223372036854775808) : (lg_cmp (Int64.ofNat a) (Int64.ofNat b) ≤ 0) ↔ a ≤ b := by
  rw [lg_le0, ol_lt hb ha]; omega
theorem lgp {a b : Nat} (ha : a < 9223372036854775808) (hb : b < 9223372036854775808) : (0 ≤ lg_cmp (Int64.ofNat a) (Int64.ofNat b)) ↔ b ≤ a := by
  rw [lg_ge0, ol_lt ha hb]; omega
theorem lge {a b : Nat} (ha : a < 9223372036854775808) (hb : b < 9223372036854775808) : (lg_cmp (Int64.ofNat a) (Int64.ofNat b) = 0) ↔ a = b := by
  rw [lg_cmp_eq, ol_inj ha hb]
theorem lg0 {a : Nat} (ha : a < 9223372036854775808) : (lg_cmp (Int64.ofNat a) (0 : Int64) = 0) ↔ a = 0 := lge (b := 0) ha (by omega)
theorem lg0' {a : Nat} (ha : a < 9223372036854775808) : (lg_cmp (Int64.ofNat a) (0 : Int64) ≤ 0) ↔ a = 0 := by
  have := lgq (b := 0) ha (by omega)
  exact this.trans Nat.le_zero
theorem ol_mul {a b : Nat} : Int64.ofNat a * Int64.ofNat b = Int64.ofNat (a * b) := (Int64.ofNat_mul a b).symm
theorem ol_add {a b : Nat} : Int64.ofNat a + Int64.ofNat b = Int64.ofNat (a + b) := (Int64.ofNat_add a b).symm
theorem ol_sub {a b : Nat} (h : b ≤ a) : Int64.ofNat a - Int64.ofNat b = Int64.ofNat (a - b) := by
  rw [Int64.sub_eq_iff_eq_add, ol_add, Nat.sub_add_cancel h]
/-- the least and the most grade of the cells: ore, tonnes, ore, tonnes -/
abbrev SP : Type := Nat × Nat × Nat × Nat
def spS (s : SP) (g t : Nat) : SP := if t = 0 then s else ⟨if s.2.1 = 0 ∨ g * s.2.1 < s.1 * t then g else s.1, if s.2.1 = 0 ∨ g * s.2.1 < s.1 * t then t else s.2.1, if s.2.2.2 = 0 ∨ s.2.2.1 * t < g * s.2.2.2 then g else s.2.2.1, if s.2.2.2 = 0 ∨ s.2.2.1 * t < g * s.2.2.2 then t else s.2.2.2⟩
def spB (τ ρ : Rw) (p : Nat) : Nat → SP
  | 0 => ⟨0, 0, 0, 0⟩
  | c + 1 => spS (spB τ ρ p c) (gOn τ ρ p c) (tOn ρ p c)
def spJ (s : SP) : Prop := (s.2.1 = 0 ↔ s.2.2.2 = 0) ∧ s.1 * s.2.2.2 ≤ s.2.2.1 * s.2.1 ∧ s.1 ≤ 119868012 ∧ s.2.1 ≤ 119988 ∧ s.2.2.1 ≤ 119868012 ∧ s.2.2.2 ≤ 119988
theorem spS_I {s : SP} {g t : Nat} (h : spJ s) (hg : g ≤ 119868012) (ht : t ≤ 119988) : spJ (spS s g t) := by
  obtain ⟨h1, h2, h3, h4, h5, h6⟩ := h
  unfold spS
  by_cases z : t = 0
  · rw [if_pos z]; exact ⟨h1, h2, h3, h4, h5, h6⟩
  rw [if_neg z]
  by_cases c1 : s.2.1 = 0 ∨ g * s.2.1 < s.1 * t
  · by_cases c2 : s.2.2.2 = 0 ∨ s.2.2.1 * t < g * s.2.2.2
    · simp only [if_pos c1, if_pos c2]
      exact ⟨Iff.rfl, Nat.le_refl _, hg, ht, hg, ht⟩
    · simp only [if_pos c1, if_neg c2]
      exact ⟨by show t = 0 ↔ s.2.2.2 = 0; omega, by show g * s.2.2.2 ≤ s.2.2.1 * t; omega, hg, ht, h5, h6⟩
  · by_cases c2 : s.2.2.2 = 0 ∨ s.2.2.1 * t < g * s.2.2.2
    · simp only [if_neg c1, if_pos c2]
      exact ⟨by show s.2.1 = 0 ↔ t = 0; omega, by show s.1 * t ≤ g * s.2.1; omega, h3, h4, hg, ht⟩
    · simp only [if_neg c1, if_neg c2]
      exact ⟨h1, h2, h3, h4, h5, h6⟩
theorem gOn_b {τ ρ : Rw} {p c : Nat} (hv : vTold τ) (hr : vRow τ ρ) (hp : p < 3) (hc : c < 12) : gOn τ ρ p c ≤ 119868012 ∧ tOn ρ p c ≤ 119988 := by
  have tl := tOn_lt hr hp hc
  have gl := gOn_le (c := c) hv hr hp
  omega
theorem spB_I {τ ρ : Rw} {p : Nat} (hv : vTold τ) (hr : vRow τ ρ) (hp : p < 3) : ∀ c, c ≤ 12 → spJ (spB τ ρ p c) := by
  intro c
  induction c with
  | zero => intro _; refine ⟨Iff.rfl, Nat.le_refl _, ?_, ?_, ?_, ?_⟩ <;> exact Nat.zero_le _
  | succ c ih =>
    intro hc
    have b := gOn_b hv hr hp (by omega : c < 12)
    exact spS_I (ih (by omega)) b.1 b.2
def spV (s : SP) : Int64 := if s.2.1 = 0 then -2 else Int64.ofNat ((s.2.2.1 * s.2.1 - s.1 * s.2.2.2) / gc1 (s.2.2.1 * s.2.1 - s.1 * s.2.2.2) (s.2.2.2 * s.2.1))
def spU (σ : mS) (s : SP) : mS := if s.2.1 = 0 then σ else uL σ 0 12 (Int64.ofNat (s.2.2.2 * s.2.1 / gc1 (s.2.2.1 * s.2.1 - s.1 * s.2.2.2) (s.2.2.2 * s.2.1)))
theorem cIn_spU {w : mT} {σ : mS} {tp n : Nat} {t : Nat → Nat} {τ ρ : Rw} {bk : Nat → Rw} {has : Nat → Bool} {im : Nat → Rw} {s : SP} (h : cIn w σ tp t τ ρ n bk has im) : cIn w (spU σ s) tp t τ ρ n bk has im ∧ frM σ (spU σ s) := by
  unfold spU
  split
  · exact ⟨h, frM_rf⟩
  · exact ⟨cIn_fr h (fun j hj => rfl) (fun a ha => rfl) (fun a ha => rfl), frM_L (by omega)⟩
theorem lp_105 {w : mT} {σ : mS} {P p d : Nat} {τ ρ : Rw} {Q : Option (Option Value) → Hp → Prop} (hw : lit w) (hP : P = 15 ∨ P = 25) (p3 : σ.2.2 0 3 = some P) (hτ : tTold σ P τ) (hv : vTold τ) (hρ : tSt σ 35 τ ρ) (hr : vRow τ ρ) (hp : p < τ 1) (hd2 : 2 ≤ d) (hQ : Q (some (some (.long (spV (spB τ ρ p (τ (28 + p))))))) (mW w (spU σ (spB τ ρ p (τ (28 + p)))))) : ∀ (r c : Nat) (x11 x13 : Value), c + r = τ (28 + p) → (x11 = jk ∧ x13 = jk ∧ 0 < r ∨ ∃ u v : Int64, x11 = .long u ∧ x13 = .long v) → Wp 105 29 [.ref 0, .int (Int32.ofNat p), .long (Int64.ofNat (spB τ ρ p c).1), jk, .long (Int64.ofNat (spB τ ρ p c).2.1), jk, .long (Int64.ofNat (spB τ ρ p c).2.2.1), jk, .long (Int64.ofNat (spB τ ρ p c).2.2.2), jk, .int (Int32.ofNat c), x11, jk, x13, jk] [] (mW w σ) Q d := by
  have hT := isTP hw hP
  have hT' := hT
  simp only [isT] at hT'
  have hd : 1 ≤ d := by omega
  have v1 := hv.2.1
  have v2 := (hv.2.2.2.2.2.1 p hp).2
  have eb : inB (Int32.ofNat p) 3 = true := on_inB (by omega) (by omega)
  have en := on_nat (i := p) (by omega)
  have e1 := hτ.2.2.2.2.2.1 p hp
  intro r
  induction r with
  | zero =>
    intro c x11 x13 hc hx
    have hc' : c = τ (28 + p) := by omega
    subst hc'
    obtain ⟨s1, s2, s3, s4, s5, s6⟩ := spB_I hv hr (by omega : p < 3) (τ (28 + p)) v2
    have m1 : (spB τ ρ p (τ (28 + p))).2.2.1 * (spB τ ρ p (τ (28 + p))).2.1 ≤ 119868012 * 119988 := Nat.mul_le_mul s5 s4
    have m2 : (spB τ ρ p (τ (28 + p))).2.2.2 * (spB τ ρ p (τ (28 + p))).2.1 ≤ 119988 * 119988 := Nat.mul_le_mul s6 s4
    have cb := lg0 (a := (spB τ ρ p (τ (28 + p))).2.1) (by omega)
    have cg0 : (spB τ ρ p (τ (28 + p))).2.1 ≠ 0 → gc1 ((spB τ ρ p (τ (28 + p))).2.2.1 * (spB τ ρ p (τ (28 + p))).2.1 - (spB τ ρ p (τ (28 + p))).1 * (spB τ ρ p (τ (28 + p))).2.2.2) ((spB τ ρ p (τ (28 + p))).2.2.2 * (spB τ ρ p (τ (28 + p))).2.1) ≤ 119988 * 119988 := fun z => Nat.le_trans (gc1_le (Nat.mul_pos (by omega) (by omega))) m2
    rcases hx with ⟨_, _, q⟩ | ⟨u, v, rfl, rfl⟩
    · omega
    · skip
      refine b105_29a ?_
      simp only [spV, spU] at hQ
      by_cases z : (spB τ ρ p (τ (28 + p))).2.1 = 0
      · have k1 := iff_true_intro (cb.mpr z)
        simp only [if_pos z] at hQ
        simp only [↓br_pos, ↓br_neg, ↓rF_I, ↓rF_L, ↓rF_R, ↓rF_N, rO_m, rB_m, ↓rI_m, wI_m, ↓rB2_m, ↓rB3_m, wB2_m, wB3_m, ↓rL_m, wL_m, ↓rQ_m, wQ_m, ↓lI_m, pI_m, pL_m, pR_m, sI_m, sBy_m, sBo_m, sL_m, sQ_m, fst_m, true_and, and_true, tg_some, ln_some, uI_1, uI_2, uL_1, uL_2, uL_3, uQ_1, uQ_2, uQ_3, rv_i, rv_l, rv_n, rv_b0, rv_b1, RMR, ne_eq, reduceCtorEq, not_false_eq_true, Option.getD_some, if_true, if_false, and_self, false_and, and_false, Nat.add_left_cancel_iff, Nat.add_eq_left, Nat.left_eq_add, Nat.one_ne_zero, Nat.reduceAdd, Nat.reduceLT, Nat.reduceLeDiff, Nat.reduceEqDiff, true_implies, false_implies, implies_true, Option.some.injEq, forall_eq', forall_eq, reduceCtorEq, brT, brF, br_s, i_10, i_01, ib_0_2, ib_1_2, tn_0, tn_1, Int32.le_refl, eq_self, rv_bN, rv_iM, RCX 0, RCG 2, RCT 4, RCT 15, RCT 25, RCS 35, RCS 49, RCH 63, RCP 67, RCB 72, RCR 77, RCM 81, RLY, lit_at hw, RCT P, hT', p3, eb, en, e1, Int32.le_refl, k1]
        exact hQ
      · have k1 := iff_false_intro (fun q => z (cb.mp q))
        simp only [if_neg z] at hQ
        have g2 := cg0 z
        have g1 := gc1_pos (a := (spB τ ρ p (τ (28 + p))).2.2.1 * (spB τ ρ p (τ (28 + p))).2.1 - (spB τ ρ p (τ (28 + p))).1 * (spB τ ρ p (τ (28 + p))).2.2.2) (b := (spB τ ρ p (τ (28 + p))).2.2.2 * (spB τ ρ p (τ (28 + p))).2.1)
        have cg : (Int64.ofNat (gc1 ((spB τ ρ p (τ (28 + p))).2.2.1 * (spB τ ρ p (τ (28 + p))).2.1 - (spB τ ρ p (τ (28 + p))).1 * (spB τ ρ p (τ (28 + p))).2.2.2) ((spB τ ρ p (τ (28 + p))).2.2.2 * (spB τ ρ p (τ (28 + p))).2.1)) = 0) ↔ False := iff_false_intro (fun q => absurd ((ol_inj (b := 0) (by omega) (by omega)).mp q) (by omega))
        simp only [↓br_pos, ↓br_neg, ↓rF_I, ↓rF_L, ↓rF_R, ↓rF_N, rO_m, rB_m, ↓rI_m, wI_m, ↓rB2_m, ↓rB3_m, wB2_m, wB3_m, ↓rL_m, wL_m, ↓rQ_m, wQ_m, ↓lI_m, pI_m, pL_m, pR_m, sI_m, sBy_m, sBo_m, sL_m, sQ_m, fst_m, true_and, and_true, tg_some, ln_some, uI_1, uI_2, uL_1, uL_2, uL_3, uQ_1, uQ_2, uQ_3, rv_i, rv_l, rv_n, rv_b0, rv_b1, RMR, ne_eq, reduceCtorEq, not_false_eq_true, Option.getD_some, if_true, if_false, and_self, false_and, and_false, Nat.add_left_cancel_iff, Nat.add_eq_left, Nat.left_eq_add, Nat.one_ne_zero, Nat.reduceAdd, Nat.reduceLT, Nat.reduceLeDiff, Nat.reduceEqDiff, true_implies, false_implies, implies_true, Option.some.injEq, forall_eq', forall_eq, reduceCtorEq, brT, brF, br_s, i_10, i_01, ib_0_2, ib_1_2, tn_0, tn_1, Int32.le_refl, eq_self, rv_bN, rv_iM, RCX 0, RCG 2, RCT 4, RCT 15, RCT 25, RCS 35, RCS 49, RCH 63, RCP 67, RCB 72, RCR 77, RCM 81, RLY, lit_at hw, RCT P, hT', p3, eb, en, e1, Int32.le_refl, k1, ol_mul, ol_sub s2, g_127 (w := w) (σ := σ) (show (spB τ ρ p (τ (28 + p))).2.2.1 * (spB τ ρ p (τ (28 + p))).2.1 - (spB τ ρ p (τ (28 + p))).1 * (spB τ ρ p (τ (28 + p))).2.2.2 < 35184372088832 by omega) (show (spB τ ρ p (τ (28 + p))).2.2.2 * (spB τ ρ p (τ (28 + p))).2.1 < 35184372088832 by omega) hd, cg, ol_div (show (spB τ ρ p (τ (28 + p))).2.2.1 * (spB τ ρ p (τ (28 + p))).2.1 - (spB τ ρ p (τ (28 + p))).1 * (spB τ ρ p (τ (28 + p))).2.2.2 < 9223372036854775808 by omega) (show gc1 ((spB τ ρ p (τ (28 + p))).2.2.1 * (spB τ ρ p (τ (28 + p))).2.1 - (spB τ ρ p (τ (28 + p))).1 * (spB τ ρ p (τ (28 + p))).2.2.2) ((spB τ ρ p (τ (28 + p))).2.2.2 * (spB τ ρ p (τ (28 + p))).2.1) < 9223372036854775808 by omega), ol_div (show (spB τ ρ p (τ (28 + p))).2.2.2 * (spB τ ρ p (τ (28 + p))).2.1 < 9223372036854775808 by omega) (show gc1 ((spB τ ρ p (τ (28 + p))).2.2.1 * (spB τ ρ p (τ (28 + p))).2.1 - (spB τ ρ p (τ (28 + p))).1 * (spB τ ρ p (τ (28 + p))).2.2.2) ((spB τ ρ p (τ (28 + p))).2.2.2 * (spB τ ρ p (τ (28 + p))).2.1) < 9223372036854775808 by omega)]
        exact hQ
  | succ r ih =>
    intro c x11 x13 hc hx
    have l1 : (Int32.ofNat (τ (28 + p)) ≤ Int32.ofNat c) ↔ False := iff_false_intro (fun q => absurd ((on_le (by omega) (by omega)).mp q) (by omega))
    have e56 := fun {K : Int32 → Hp → Prop} => g_56 (K := K) (isS35 hw) hρ hr (by omega : p < 3) (by omega : c < 12) hd2
    have e57 := fun {K : Int32 → Hp → Prop} => g_57 (K := K) (isS35 hw) hT hρ hτ hv hr (by omega : p < 3) (by omega : c < 12) hd2
    obtain ⟨s1, s2, s3, s4, s5, s6⟩ := spB_I hv hr (by omega : p < 3) c (by omega)
    have gb := gOn_b hv hr (by omega : p < 3) (by omega : c < 12)
    have hg : gOn τ ρ p c < 2147483648 := by omega
    have ht : tOn ρ p c < 2147483648 := by omega
    have m1 : gOn τ ρ p c * (spB τ ρ p c).2.1 ≤ 119868012 * 119988 := Nat.mul_le_mul gb.1 s4
    have m2 : (spB τ ρ p c).1 * tOn ρ p c ≤ 119868012 * 119988 := Nat.mul_le_mul s3 gb.2
    have m3 : gOn τ ρ p c * (spB τ ρ p c).2.2.2 ≤ 119868012 * 119988 := Nat.mul_le_mul gb.1 s6
    have m4 : (spB τ ρ p c).2.2.1 * tOn ρ p c ≤ 119868012 * 119988 := Nat.mul_le_mul s5 gb.2
    have ct := lg0' (a := tOn ρ p c) (by omega)
    have cb := lg0 (a := (spB τ ρ p c).2.1) (by omega)
    have cd := lg0 (a := (spB τ ρ p c).2.2.2) (by omega)
    have cl := lgp (a := gOn τ ρ p c * (spB τ ρ p c).2.1) (b := (spB τ ρ p c).1 * tOn ρ p c) (by omega) (by omega)
    have cm := lgq (a := gOn τ ρ p c * (spB τ ρ p c).2.2.2) (b := (spB τ ρ p c).2.2.1 * tOn ρ p c) (by omega) (by omega)
    have nx := ih (c + 1) (.long (Int64.ofNat (tOn ρ p c))) (.long (Int64.ofNat (gOn τ ρ p c))) (by omega) (Or.inr ⟨_, _, rfl, rfl⟩)
    rcases hx with ⟨rfl, rfl, _⟩ | ⟨u, v, rfl, rfl⟩
    · skip
      refine b105_29 ?_
      by_cases z : tOn ρ p c = 0
      · have k0 := iff_true_intro (ct.mpr z)
        have eB : spB τ ρ p (c + 1) = spB τ ρ p c := if_pos z
        rw [eB] at nx
        simp only [↓br_pos, ↓br_neg, ↓rF_I, ↓rF_L, ↓rF_R, ↓rF_N, rO_m, rB_m, ↓rI_m, wI_m, ↓rB2_m, ↓rB3_m, wB2_m, wB3_m, ↓rL_m, wL_m, ↓rQ_m, wQ_m, ↓lI_m, pI_m, pL_m, pR_m, sI_m, sBy_m, sBo_m, sL_m, sQ_m, fst_m, true_and, and_true, tg_some, ln_some, uI_1, uI_2, uL_1, uL_2, uL_3, uQ_1, uQ_2, uQ_3, rv_i, rv_l, rv_n, rv_b0, rv_b1, RMR, ne_eq, reduceCtorEq, not_false_eq_true, Option.getD_some, if_true, if_false, and_self, false_and, and_false, Nat.add_left_cancel_iff, Nat.add_eq_left, Nat.left_eq_add, Nat.one_ne_zero, Nat.reduceAdd, Nat.reduceLT, Nat.reduceLeDiff, Nat.reduceEqDiff, true_implies, false_implies, implies_true, Option.some.injEq, forall_eq', forall_eq, reduceCtorEq, brT, brF, br_s, i_10, i_01, ib_0_2, ib_1_2, tn_0, tn_1, Int32.le_refl, eq_self, rv_bN, rv_iM, RCX 0, RCG 2, RCT 4, RCT 15, RCT 25, RCS 35, RCS 49, RCH 63, RCP 67, RCB 72, RCR 77, RCM 81, RLY, lit_at hw, RCT P, hT', p3, eb, en, e1, l1, e56, e57, i64_of hg, i64_of ht, ol_mul, k0]
        refine b105_146 ?_
        rw [on_succ]
        exact nx
      · have k0 := iff_false_intro (fun q => z (ct.mp q))
        have eB : spB τ ρ p (c + 1) = ⟨if (spB τ ρ p c).2.1 = 0 ∨ gOn τ ρ p c * (spB τ ρ p c).2.1 < (spB τ ρ p c).1 * tOn ρ p c then gOn τ ρ p c else (spB τ ρ p c).1, if (spB τ ρ p c).2.1 = 0 ∨ gOn τ ρ p c * (spB τ ρ p c).2.1 < (spB τ ρ p c).1 * tOn ρ p c then tOn ρ p c else (spB τ ρ p c).2.1, if (spB τ ρ p c).2.2.2 = 0 ∨ (spB τ ρ p c).2.2.1 * tOn ρ p c < gOn τ ρ p c * (spB τ ρ p c).2.2.2 then gOn τ ρ p c else (spB τ ρ p c).2.2.1, if (spB τ ρ p c).2.2.2 = 0 ∨ (spB τ ρ p c).2.2.1 * tOn ρ p c < gOn τ ρ p c * (spB τ ρ p c).2.2.2 then tOn ρ p c else (spB τ ρ p c).2.2.2⟩ := if_neg z
        rw [eB] at nx
        by_cases v : (spB τ ρ p c).2.1 = 0
        · have k1 := iff_true_intro (cb.mpr v)
          by_cases y : (spB τ ρ p c).2.2.2 = 0
          · have k3 := iff_true_intro (cd.mpr y)
            simp only [if_pos (Or.inl v : ((spB τ ρ p c).2.1 = 0 ∨ gOn τ ρ p c * (spB τ ρ p c).2.1 < (spB τ ρ p c).1 * tOn ρ p c)), if_pos (Or.inl y : (spB τ ρ p c).2.2.2 = 0 ∨ (spB τ ρ p c).2.2.1 * tOn ρ p c < gOn τ ρ p c * (spB τ ρ p c).2.2.2)] at nx
            simp only [↓br_pos, ↓br_neg, ↓rF_I, ↓rF_L, ↓rF_R, ↓rF_N, rO_m, rB_m, ↓rI_m, wI_m, ↓rB2_m, ↓rB3_m, wB2_m, wB3_m, ↓rL_m, wL_m, ↓rQ_m, wQ_m, ↓lI_m, pI_m, pL_m, pR_m, sI_m, sBy_m, sBo_m, sL_m, sQ_m, fst_m, true_and, and_true, tg_some, ln_some, uI_1, uI_2, uL_1, uL_2, uL_3, uQ_1, uQ_2, uQ_3, rv_i, rv_l, rv_n, rv_b0, rv_b1, RMR, ne_eq, reduceCtorEq, not_false_eq_true, Option.getD_some, if_true, if_false, and_self, false_and, and_false, Nat.add_left_cancel_iff, Nat.add_eq_left, Nat.left_eq_add, Nat.one_ne_zero, Nat.reduceAdd, Nat.reduceLT, Nat.reduceLeDiff, Nat.reduceEqDiff, true_implies, false_implies, implies_true, Option.some.injEq, forall_eq', forall_eq, reduceCtorEq, brT, brF, br_s, i_10, i_01, ib_0_2, ib_1_2, tn_0, tn_1, Int32.le_refl, eq_self, rv_bN, rv_iM, RCX 0, RCG 2, RCT 4, RCT 15, RCT 25, RCS 35, RCS 49, RCH 63, RCP 67, RCB 72, RCR 77, RCM 81, RLY, lit_at hw, RCT P, hT', p3, eb, en, e1, l1, e56, e57, i64_of hg, i64_of ht, ol_mul, k0, k1]
            refine b105_103 ?_
            simp only [↓br_pos, ↓br_neg, ↓rF_I, ↓rF_L, ↓rF_R, ↓rF_N, rO_m, rB_m, ↓rI_m, wI_m, ↓rB2_m, ↓rB3_m, wB2_m, wB3_m, ↓rL_m, wL_m, ↓rQ_m, wQ_m, ↓lI_m, pI_m, pL_m, pR_m, sI_m, sBy_m, sBo_m, sL_m, sQ_m, fst_m, true_and, and_true, tg_some, ln_some, uI_1, uI_2, uL_1, uL_2, uL_3, uQ_1, uQ_2, uQ_3, rv_i, rv_l, rv_n, rv_b0, rv_b1, RMR, ne_eq, reduceCtorEq, not_false_eq_true, Option.getD_some, if_true, if_false, and_self, false_and, and_false, Nat.add_left_cancel_iff, Nat.add_eq_left, Nat.left_eq_add, Nat.one_ne_zero, Nat.reduceAdd, Nat.reduceLT, Nat.reduceLeDiff, Nat.reduceEqDiff, true_implies, false_implies, implies_true, Option.some.injEq, forall_eq', forall_eq, reduceCtorEq, brT, brF, br_s, i_10, i_01, ib_0_2, ib_1_2, tn_0, tn_1, Int32.le_refl, eq_self, rv_bN, rv_iM, ol_mul, k0, k3]
            refine b105_139 (b105_146 ?_)
            rw [on_succ]
            exact nx
          · have k3 := iff_false_intro (fun q => y (cd.mp q))
            by_cases x : (spB τ ρ p c).2.2.1 * tOn ρ p c < gOn τ ρ p c * (spB τ ρ p c).2.2.2
            · have k4 := iff_false_intro (fun q => absurd (cm.mp q) (by omega))
              simp only [if_pos (Or.inl v : ((spB τ ρ p c).2.1 = 0 ∨ gOn τ ρ p c * (spB τ ρ p c).2.1 < (spB τ ρ p c).1 * tOn ρ p c)), if_pos (Or.inr x : (spB τ ρ p c).2.2.2 = 0 ∨ (spB τ ρ p c).2.2.1 * tOn ρ p c < gOn τ ρ p c * (spB τ ρ p c).2.2.2)] at nx
              simp only [↓br_pos, ↓br_neg, ↓rF_I, ↓rF_L, ↓rF_R, ↓rF_N, rO_m, rB_m, ↓rI_m, wI_m, ↓rB2_m, ↓rB3_m, wB2_m, wB3_m, ↓rL_m, wL_m, ↓rQ_m, wQ_m, ↓lI_m, pI_m, pL_m, pR_m, sI_m, sBy_m, sBo_m, sL_m, sQ_m, fst_m, true_and, and_true, tg_some, ln_some, uI_1, uI_2, uL_1, uL_2, uL_3, uQ_1, uQ_2, uQ_3, rv_i, rv_l, rv_n, rv_b0, rv_b1, RMR, ne_eq, reduceCtorEq, not_false_eq_true, Option.getD_some, if_true, if_false, and_self, false_and, and_false, Nat.add_left_cancel_iff, Nat.add_eq_left, Nat.left_eq_add, Nat.one_ne_zero, Nat.reduceAdd, Nat.reduceLT, Nat.reduceLeDiff, Nat.reduceEqDiff, true_implies, false_implies, implies_true, Option.some.injEq, forall_eq', forall_eq, reduceCtorEq, brT, brF, br_s, i_10, i_01, ib_0_2, ib_1_2, tn_0, tn_1, Int32.le_refl, eq_self, rv_bN, rv_iM, RCX 0, RCG 2, RCT 4, RCT 15, RCT 25, RCS 35, RCS 49, RCH 63, RCP 67, RCB 72, RCR 77, RCM 81, RLY, lit_at hw, RCT P, hT', p3, eb, en, e1, l1, e56, e57, i64_of hg, i64_of ht, ol_mul, k0, k1]
              refine b105_103 ?_
              simp only [↓br_pos, ↓br_neg, ↓rF_I, ↓rF_L, ↓rF_R, ↓rF_N, rO_m, rB_m, ↓rI_m, wI_m, ↓rB2_m, ↓rB3_m, wB2_m, wB3_m, ↓rL_m, wL_m, ↓rQ_m, wQ_m, ↓lI_m, pI_m, pL_m, pR_m, sI_m, sBy_m, sBo_m, sL_m, sQ_m, fst_m, true_and, and_true, tg_some, ln_some, uI_1, uI_2, uL_1, uL_2, uL_3, uQ_1, uQ_2, uQ_3, rv_i, rv_l, rv_n, rv_b0, rv_b1, RMR, ne_eq, reduceCtorEq, not_false_eq_true, Option.getD_some, if_true, if_false, and_self, false_and, and_false, Nat.add_left_cancel_iff, Nat.add_eq_left, Nat.left_eq_add, Nat.one_ne_zero, Nat.reduceAdd, Nat.reduceLT, Nat.reduceLeDiff, Nat.reduceEqDiff, true_implies, false_implies, implies_true, Option.some.injEq, forall_eq', forall_eq, reduceCtorEq, brT, brF, br_s, i_10, i_01, ib_0_2, ib_1_2, tn_0, tn_1, Int32.le_refl, eq_self, rv_bN, rv_iM, ol_mul, k0, k3, k4]
              refine b105_139 (b105_146 ?_)
              rw [on_succ]
              exact nx
            · have k4 := iff_true_intro (cm.mpr (by omega))
              simp only [if_pos (Or.inl v : ((spB τ ρ p c).2.1 = 0 ∨ gOn τ ρ p c * (spB τ ρ p c).2.1 < (spB τ ρ p c).1 * tOn ρ p c)), if_neg (fun q => q.elim y x : ¬ ((spB τ ρ p c).2.2.2 = 0 ∨ (spB τ ρ p c).2.2.1 * tOn ρ p c < gOn τ ρ p c * (spB τ ρ p c).2.2.2))] at nx
              simp only [↓br_pos, ↓br_neg, ↓rF_I, ↓rF_L, ↓rF_R, ↓rF_N, rO_m, rB_m, ↓rI_m, wI_m, ↓rB2_m, ↓rB3_m, wB2_m, wB3_m, ↓rL_m, wL_m, ↓rQ_m, wQ_m, ↓lI_m, pI_m, pL_m, pR_m, sI_m, sBy_m, sBo_m, sL_m, sQ_m, fst_m, true_and, and_true, tg_some, ln_some, uI_1, uI_2, uL_1, uL_2, uL_3, uQ_1, uQ_2, uQ_3, rv_i, rv_l, rv_n, rv_b0, rv_b1, RMR, ne_eq, reduceCtorEq, not_false_eq_true, Option.getD_some, if_true, if_false, and_self, false_and, and_false, Nat.add_left_cancel_iff, Nat.add_eq_left, Nat.left_eq_add, Nat.one_ne_zero, Nat.reduceAdd, Nat.reduceLT, Nat.reduceLeDiff, Nat.reduceEqDiff, true_implies, false_implies, implies_true, Option.some.injEq, forall_eq', forall_eq, reduceCtorEq, brT, brF, br_s, i_10, i_01, ib_0_2, ib_1_2, tn_0, tn_1, Int32.le_refl, eq_self, rv_bN, rv_iM, RCX 0, RCG 2, RCT 4, RCT 15, RCT 25, RCS 35, RCS 49, RCH 63, RCP 67, RCB 72, RCR 77, RCM 81, RLY, lit_at hw, RCT P, hT', p3, eb, en, e1, l1, e56, e57, i64_of hg, i64_of ht, ol_mul, k0, k1]
              refine b105_103 ?_
              simp only [↓br_pos, ↓br_neg, ↓rF_I, ↓rF_L, ↓rF_R, ↓rF_N, rO_m, rB_m, ↓rI_m, wI_m, ↓rB2_m, ↓rB3_m, wB2_m, wB3_m, ↓rL_m, wL_m, ↓rQ_m, wQ_m, ↓lI_m, pI_m, pL_m, pR_m, sI_m, sBy_m, sBo_m, sL_m, sQ_m, fst_m, true_and, and_true, tg_some, ln_some, uI_1, uI_2, uL_1, uL_2, uL_3, uQ_1, uQ_2, uQ_3, rv_i, rv_l, rv_n, rv_b0, rv_b1, RMR, ne_eq, reduceCtorEq, not_false_eq_true, Option.getD_some, if_true, if_false, and_self, false_and, and_false, Nat.add_left_cancel_iff, Nat.add_eq_left, Nat.left_eq_add, Nat.one_ne_zero, Nat.reduceAdd, Nat.reduceLT, Nat.reduceLeDiff, Nat.reduceEqDiff, true_implies, false_implies, implies_true, Option.some.injEq, forall_eq', forall_eq, reduceCtorEq, brT, brF, br_s, i_10, i_01, ib_0_2, ib_1_2, tn_0, tn_1, Int32.le_refl, eq_self, rv_bN, rv_iM, ol_mul, k0, k3, k4]
              refine b105_146 ?_
              rw [on_succ]
              exact nx
        · have k1 := iff_false_intro (fun q => v (cb.mp q))
          by_cases u : gOn τ ρ p c * (spB τ ρ p c).2.1 < (spB τ ρ p c).1 * tOn ρ p c
          · have k2 := iff_false_intro (fun q => absurd (cl.mp q) (by omega))
            by_cases y : (spB τ ρ p c).2.2.2 = 0
            · have k3 := iff_true_intro (cd.mpr y)
              simp only [if_pos (Or.inr u : ((spB τ ρ p c).2.1 = 0 ∨ gOn τ ρ p c * (spB τ ρ p c).2.1 < (spB τ ρ p c).1 * tOn ρ p c)), if_pos (Or.inl y : (spB τ ρ p c).2.2.2 = 0 ∨ (spB τ ρ p c).2.2.1 * tOn ρ p c < gOn τ ρ p c * (spB τ ρ p c).2.2.2)] at nx
              simp only [↓br_pos, ↓br_neg, ↓rF_I, ↓rF_L, ↓rF_R, ↓rF_N, rO_m, rB_m, ↓rI_m, wI_m, ↓rB2_m, ↓rB3_m, wB2_m, wB3_m, ↓rL_m, wL_m, ↓rQ_m, wQ_m, ↓lI_m, pI_m, pL_m, pR_m, sI_m, sBy_m, sBo_m, sL_m, sQ_m, fst_m, true_and, and_true, tg_some, ln_some, uI_1, uI_2, uL_1, uL_2, uL_3, uQ_1, uQ_2, uQ_3, rv_i, rv_l, rv_n, rv_b0, rv_b1, RMR, ne_eq, reduceCtorEq, not_false_eq_true, Option.getD_some, if_true, if_false, and_self, false_and, and_false, Nat.add_left_cancel_iff, Nat.add_eq_left, Nat.left_eq_add, Nat.one_ne_zero, Nat.reduceAdd, Nat.reduceLT, Nat.reduceLeDiff, Nat.reduceEqDiff, true_implies, false_implies, implies_true, Option.some.injEq, forall_eq', forall_eq, reduceCtorEq, brT, brF, br_s, i_10, i_01, ib_0_2, ib_1_2, tn_0, tn_1, Int32.le_refl, eq_self, rv_bN, rv_iM, RCX 0, RCG 2, RCT 4, RCT 15, RCT 25, RCS 35, RCS 49, RCH 63, RCP 67, RCB 72, RCR 77, RCM 81, RLY, lit_at hw, RCT P, hT', p3, eb, en, e1, l1, e56, e57, i64_of hg, i64_of ht, ol_mul, k0, k1, k2]
              refine b105_103 ?_
              simp only [↓br_pos, ↓br_neg, ↓rF_I, ↓rF_L, ↓rF_R, ↓rF_N, rO_m, rB_m, ↓rI_m, wI_m, ↓rB2_m, ↓rB3_m, wB2_m, wB3_m, ↓rL_m, wL_m, ↓rQ_m, wQ_m, ↓lI_m, pI_m, pL_m, pR_m, sI_m, sBy_m, sBo_m, sL_m, sQ_m, fst_m, true_and, and_true, tg_some, ln_some, uI_1, uI_2, uL_1, uL_2, uL_3, uQ_1, uQ_2, uQ_3, rv_i, rv_l, rv_n, rv_b0, rv_b1, RMR, ne_eq, reduceCtorEq, not_false_eq_true, Option.getD_some, if_true, if_false, and_self, false_and, and_false, Nat.add_left_cancel_iff, Nat.add_eq_left, Nat.left_eq_add, Nat.one_ne_zero, Nat.reduceAdd, Nat.reduceLT, Nat.reduceLeDiff, Nat.reduceEqDiff, true_implies, false_implies, implies_true, Option.some.injEq, forall_eq', forall_eq, reduceCtorEq, brT, brF, br_s, i_10, i_01, ib_0_2, ib_1_2, tn_0, tn_1, Int32.le_refl, eq_self, rv_bN, rv_iM, ol_mul, k0, k3]
              refine b105_139 (b105_146 ?_)
              rw [on_succ]
              exact nx
            · have k3 := iff_false_intro (fun q => y (cd.mp q))
              by_cases x : (spB τ ρ p c).2.2.1 * tOn ρ p c < gOn τ ρ p c * (spB τ ρ p c).2.2.2
              · have k4 := iff_false_intro (fun q => absurd (cm.mp q) (by omega))
                simp only [if_pos (Or.inr u : ((spB τ ρ p c).2.1 = 0 ∨ gOn τ ρ p c * (spB τ ρ p c).2.1 < (spB τ ρ p c).1 * tOn ρ p c)), if_pos (Or.inr x : (spB τ ρ p c).2.2.2 = 0 ∨ (spB τ ρ p c).2.2.1 * tOn ρ p c < gOn τ ρ p c * (spB τ ρ p c).2.2.2)] at nx
                simp only [↓br_pos, ↓br_neg, ↓rF_I, ↓rF_L, ↓rF_R, ↓rF_N, rO_m, rB_m, ↓rI_m, wI_m, ↓rB2_m, ↓rB3_m, wB2_m, wB3_m, ↓rL_m, wL_m, ↓rQ_m, wQ_m, ↓lI_m, pI_m, pL_m, pR_m, sI_m, sBy_m, sBo_m, sL_m, sQ_m, fst_m, true_and, and_true, tg_some, ln_some, uI_1, uI_2, uL_1, uL_2, uL_3, uQ_1, uQ_2, uQ_3, rv_i, rv_l, rv_n, rv_b0, rv_b1, RMR, ne_eq, reduceCtorEq, not_false_eq_true, Option.getD_some, if_true, if_false, and_self, false_and, and_false, Nat.add_left_cancel_iff, Nat.add_eq_left, Nat.left_eq_add, Nat.one_ne_zero, Nat.reduceAdd, Nat.reduceLT, Nat.reduceLeDiff, Nat.reduceEqDiff, true_implies, false_implies, implies_true, Option.some.injEq, forall_eq', forall_eq, reduceCtorEq, brT, brF, br_s, i_10, i_01, ib_0_2, ib_1_2, tn_0, tn_1, Int32.le_refl, eq_self, rv_bN, rv_iM, RCX 0, RCG 2, RCT 4, RCT 15, RCT 25, RCS 35, RCS 49, RCH 63, RCP 67, RCB 72, RCR 77, RCM 81, RLY, lit_at hw, RCT P, hT', p3, eb, en, e1, l1, e56, e57, i64_of hg, i64_of ht, ol_mul, k0, k1, k2]
                refine b105_103 ?_
                simp only [↓br_pos, ↓br_neg, ↓rF_I, ↓rF_L, ↓rF_R, ↓rF_N, rO_m, rB_m, ↓rI_m, wI_m, ↓rB2_m, ↓rB3_m, wB2_m, wB3_m, ↓rL_m, wL_m, ↓rQ_m, wQ_m, ↓lI_m, pI_m, pL_m, pR_m, sI_m, sBy_m, sBo_m, sL_m, sQ_m, fst_m, true_and, and_true, tg_some, ln_some, uI_1, uI_2, uL_1, uL_2, uL_3, uQ_1, uQ_2, uQ_3, rv_i, rv_l, rv_n, rv_b0, rv_b1, RMR, ne_eq, reduceCtorEq, not_false_eq_true, Option.getD_some, if_true, if_false, and_self, false_and, and_false, Nat.add_left_cancel_iff, Nat.add_eq_left, Nat.left_eq_add, Nat.one_ne_zero, Nat.reduceAdd, Nat.reduceLT, Nat.reduceLeDiff, Nat.reduceEqDiff, true_implies, false_implies, implies_true, Option.some.injEq, forall_eq', forall_eq, reduceCtorEq, brT, brF, br_s, i_10, i_01, ib_0_2, ib_1_2, tn_0, tn_1, Int32.le_refl, eq_self, rv_bN, rv_iM, ol_mul, k0, k3, k4]
                refine b105_139 (b105_146 ?_)
                rw [on_succ]
                exact nx
              · have k4 := iff_true_intro (cm.mpr (by omega))
                simp only [if_pos (Or.inr u : ((spB τ ρ p c).2.1 = 0 ∨ gOn τ ρ p c * (spB τ ρ p c).2.1 < (spB τ ρ p c).1 * tOn ρ p c)), if_neg (fun q => q.elim y x : ¬ ((spB τ ρ p c).2.2.2 = 0 ∨ (spB τ ρ p c).2.2.1 * tOn ρ p c < gOn τ ρ p c * (spB τ ρ p c).2.2.2))] at nx
                simp only [↓br_pos, ↓br_neg, ↓rF_I, ↓rF_L, ↓rF_R, ↓rF_N, rO_m, rB_m, ↓rI_m, wI_m, ↓rB2_m, ↓rB3_m, wB2_m, wB3_m, ↓rL_m, wL_m, ↓rQ_m, wQ_m, ↓lI_m, pI_m, pL_m, pR_m, sI_m, sBy_m, sBo_m, sL_m, sQ_m, fst_m, true_and, and_true, tg_some, ln_some, uI_1, uI_2, uL_1, uL_2, uL_3, uQ_1, uQ_2, uQ_3, rv_i, rv_l, rv_n, rv_b0, rv_b1, RMR, ne_eq, reduceCtorEq, not_false_eq_true, Option.getD_some, if_true, if_false, and_self, false_and, and_false, Nat.add_left_cancel_iff, Nat.add_eq_left, Nat.left_eq_add, Nat.one_ne_zero, Nat.reduceAdd, Nat.reduceLT, Nat.reduceLeDiff, Nat.reduceEqDiff, true_implies, false_implies, implies_true, Option.some.injEq, forall_eq', forall_eq, reduceCtorEq, brT, brF, br_s, i_10, i_01, ib_0_2, ib_1_2, tn_0, tn_1, Int32.le_refl, eq_self, rv_bN, rv_iM, RCX 0, RCG 2, RCT 4, RCT 15, RCT 25, RCS 35, RCS 49, RCH 63, RCP 67, RCB 72, RCR 77, RCM 81, RLY, lit_at hw, RCT P, hT', p3, eb, en, e1, l1, e56, e57, i64_of hg, i64_of ht, ol_mul, k0, k1, k2]
                refine b105_103 ?_
                simp only [↓br_pos, ↓br_neg, ↓rF_I, ↓rF_L, ↓rF_R, ↓rF_N, rO_m, rB_m, ↓rI_m, wI_m, ↓rB2_m, ↓rB3_m, wB2_m, wB3_m, ↓rL_m, wL_m, ↓rQ_m, wQ_m, ↓lI_m, pI_m, pL_m, pR_m, sI_m, sBy_m, sBo_m, sL_m, sQ_m, fst_m, true_and, and_true, tg_some, ln_some, uI_1, uI_2, uL_1, uL_2, uL_3, uQ_1, uQ_2, uQ_3, rv_i, rv_l, rv_n, rv_b0, rv_b1, RMR, ne_eq, reduceCtorEq, not_false_eq_true, Option.getD_some, if_true, if_false, and_self, false_and, and_false, Nat.add_left_cancel_iff, Nat.add_eq_left, Nat.left_eq_add, Nat.one_ne_zero, Nat.reduceAdd, Nat.reduceLT, Nat.reduceLeDiff, Nat.reduceEqDiff, true_implies, false_implies, implies_true, Option.some.injEq, forall_eq', forall_eq, reduceCtorEq, brT, brF, br_s, i_10, i_01, ib_0_2, ib_1_2, tn_0, tn_1, Int32.le_refl, eq_self, rv_bN, rv_iM, ol_mul, k0, k3, k4]
                refine b105_146 ?_
                rw [on_succ]
                exact nx
          · have k2 := iff_true_intro (cl.mpr (by omega))
            by_cases y : (spB τ ρ p c).2.2.2 = 0
            · have k3 := iff_true_intro (cd.mpr y)
              simp only [if_neg (fun q => q.elim v u : ¬ ((spB τ ρ p c).2.1 = 0 ∨ gOn τ ρ p c * (spB τ ρ p c).2.1 < (spB τ ρ p c).1 * tOn ρ p c)), if_pos (Or.inl y : (spB τ ρ p c).2.2.2 = 0 ∨ (spB τ ρ p c).2.2.1 * tOn ρ p c < gOn τ ρ p c * (spB τ ρ p c).2.2.2)] at nx
              simp only [↓br_pos, ↓br_neg, ↓rF_I, ↓rF_L, ↓rF_R, ↓rF_N, rO_m, rB_m, ↓rI_m, wI_m, ↓rB2_m, ↓rB3_m, wB2_m, wB3_m, ↓rL_m, wL_m, ↓rQ_m, wQ_m, ↓lI_m, pI_m, pL_m, pR_m, sI_m, sBy_m, sBo_m, sL_m, sQ_m, fst_m, true_and, and_true, tg_some, ln_some, uI_1, uI_2, uL_1, uL_2, uL_3, uQ_1, uQ_2, uQ_3, rv_i, rv_l, rv_n, rv_b0, rv_b1, RMR, ne_eq, reduceCtorEq, not_false_eq_true, Option.getD_some, if_true, if_false, and_self, false_and, and_false, Nat.add_left_cancel_iff, Nat.add_eq_left, Nat.left_eq_add, Nat.one_ne_zero, Nat.reduceAdd, Nat.reduceLT, Nat.reduceLeDiff, Nat.reduceEqDiff, true_implies, false_implies, implies_true, Option.some.injEq, forall_eq', forall_eq, reduceCtorEq, brT, brF, br_s, i_10, i_01, ib_0_2, ib_1_2, tn_0, tn_1, Int32.le_refl, eq_self, rv_bN, rv_iM, RCX 0, RCG 2, RCT 4, RCT 15, RCT 25, RCS 35, RCS 49, RCH 63, RCP 67, RCB 72, RCR 77, RCM 81, RLY, lit_at hw, RCT P, hT', p3, eb, en, e1, l1, e56, e57, i64_of hg, i64_of ht, ol_mul, k0, k1, k2, k3]
              refine b105_139 (b105_146 ?_)
              rw [on_succ]
              exact nx
            · have k3 := iff_false_intro (fun q => y (cd.mp q))
              by_cases x : (spB τ ρ p c).2.2.1 * tOn ρ p c < gOn τ ρ p c * (spB τ ρ p c).2.2.2
              · have k4 := iff_false_intro (fun q => absurd (cm.mp q) (by omega))
                simp only [if_neg (fun q => q.elim v u : ¬ ((spB τ ρ p c).2.1 = 0 ∨ gOn τ ρ p c * (spB τ ρ p c).2.1 < (spB τ ρ p c).1 * tOn ρ p c)), if_pos (Or.inr x : (spB τ ρ p c).2.2.2 = 0 ∨ (spB τ ρ p c).2.2.1 * tOn ρ p c < gOn τ ρ p c * (spB τ ρ p c).2.2.2)] at nx
                simp only [↓br_pos, ↓br_neg, ↓rF_I, ↓rF_L, ↓rF_R, ↓rF_N, rO_m, rB_m, ↓rI_m, wI_m, ↓rB2_m, ↓rB3_m, wB2_m, wB3_m, ↓rL_m, wL_m, ↓rQ_m, wQ_m, ↓lI_m, pI_m, pL_m, pR_m, sI_m, sBy_m, sBo_m, sL_m, sQ_m, fst_m, true_and, and_true, tg_some, ln_some, uI_1, uI_2, uL_1, uL_2, uL_3, uQ_1, uQ_2, uQ_3, rv_i, rv_l, rv_n, rv_b0, rv_b1, RMR, ne_eq, reduceCtorEq, not_false_eq_true, Option.getD_some, if_true, if_false, and_self, false_and, and_false, Nat.add_left_cancel_iff, Nat.add_eq_left, Nat.left_eq_add, Nat.one_ne_zero, Nat.reduceAdd, Nat.reduceLT, Nat.reduceLeDiff, Nat.reduceEqDiff, true_implies, false_implies, implies_true, Option.some.injEq, forall_eq', forall_eq, reduceCtorEq, brT, brF, br_s, i_10, i_01, ib_0_2, ib_1_2, tn_0, tn_1, Int32.le_refl, eq_self, rv_bN, rv_iM, RCX 0, RCG 2, RCT 4, RCT 15, RCT 25, RCS 35, RCS 49, RCH 63, RCP 67, RCB 72, RCR 77, RCM 81, RLY, lit_at hw, RCT P, hT', p3, eb, en, e1, l1, e56, e57, i64_of hg, i64_of ht, ol_mul, k0, k1, k2, k3, k4]
                refine b105_139 (b105_146 ?_)
                rw [on_succ]
                exact nx
              · have k4 := iff_true_intro (cm.mpr (by omega))
                simp only [if_neg (fun q => q.elim v u : ¬ ((spB τ ρ p c).2.1 = 0 ∨ gOn τ ρ p c * (spB τ ρ p c).2.1 < (spB τ ρ p c).1 * tOn ρ p c)), if_neg (fun q => q.elim y x : ¬ ((spB τ ρ p c).2.2.2 = 0 ∨ (spB τ ρ p c).2.2.1 * tOn ρ p c < gOn τ ρ p c * (spB τ ρ p c).2.2.2))] at nx
                simp only [↓br_pos, ↓br_neg, ↓rF_I, ↓rF_L, ↓rF_R, ↓rF_N, rO_m, rB_m, ↓rI_m, wI_m, ↓rB2_m, ↓rB3_m, wB2_m, wB3_m, ↓rL_m, wL_m, ↓rQ_m, wQ_m, ↓lI_m, pI_m, pL_m, pR_m, sI_m, sBy_m, sBo_m, sL_m, sQ_m, fst_m, true_and, and_true, tg_some, ln_some, uI_1, uI_2, uL_1, uL_2, uL_3, uQ_1, uQ_2, uQ_3, rv_i, rv_l, rv_n, rv_b0, rv_b1, RMR, ne_eq, reduceCtorEq, not_false_eq_true, Option.getD_some, if_true, if_false, and_self, false_and, and_false, Nat.add_left_cancel_iff, Nat.add_eq_left, Nat.left_eq_add, Nat.one_ne_zero, Nat.reduceAdd, Nat.reduceLT, Nat.reduceLeDiff, Nat.reduceEqDiff, true_implies, false_implies, implies_true, Option.some.injEq, forall_eq', forall_eq, reduceCtorEq, brT, brF, br_s, i_10, i_01, ib_0_2, ib_1_2, tn_0, tn_1, Int32.le_refl, eq_self, rv_bN, rv_iM, RCX 0, RCG 2, RCT 4, RCT 15, RCT 25, RCS 35, RCS 49, RCH 63, RCP 67, RCB 72, RCR 77, RCM 81, RLY, lit_at hw, RCT P, hT', p3, eb, en, e1, l1, e56, e57, i64_of hg, i64_of ht, ol_mul, k0, k1, k2, k3, k4]
                refine b105_146 ?_
                rw [on_succ]
                exact nx
    · skip
      refine b105_29a ?_
      by_cases z : tOn ρ p c = 0
      · have k0 := iff_true_intro (ct.mpr z)
        have eB : spB τ ρ p (c + 1) = spB τ ρ p c := if_pos z
        rw [eB] at nx
        simp only [↓br_pos, ↓br_neg, ↓rF_I, ↓rF_L, ↓rF_R, ↓rF_N, rO_m, rB_m, ↓rI_m, wI_m, ↓rB2_m, ↓rB3_m, wB2_m, wB3_m, ↓rL_m, wL_m, ↓rQ_m, wQ_m, ↓lI_m, pI_m, pL_m, pR_m, sI_m, sBy_m, sBo_m, sL_m, sQ_m, fst_m, true_and, and_true, tg_some, ln_some, uI_1, uI_2, uL_1, uL_2, uL_3, uQ_1, uQ_2, uQ_3, rv_i, rv_l, rv_n, rv_b0, rv_b1, RMR, ne_eq, reduceCtorEq, not_false_eq_true, Option.getD_some, if_true, if_false, and_self, false_and, and_false, Nat.add_left_cancel_iff, Nat.add_eq_left, Nat.left_eq_add, Nat.one_ne_zero, Nat.reduceAdd, Nat.reduceLT, Nat.reduceLeDiff, Nat.reduceEqDiff, true_implies, false_implies, implies_true, Option.some.injEq, forall_eq', forall_eq, reduceCtorEq, brT, brF, br_s, i_10, i_01, ib_0_2, ib_1_2, tn_0, tn_1, Int32.le_refl, eq_self, rv_bN, rv_iM, RCX 0, RCG 2, RCT 4, RCT 15, RCT 25, RCS 35, RCS 49, RCH 63, RCP 67, RCB 72, RCR 77, RCM 81, RLY, lit_at hw, RCT P, hT', p3, eb, en, e1, l1, e56, e57, i64_of hg, i64_of ht, ol_mul, k0]
        refine b105_146 ?_
        rw [on_succ]
        exact nx
      · have k0 := iff_false_intro (fun q => z (ct.mp q))
        have eB : spB τ ρ p (c + 1) = ⟨if (spB τ ρ p c).2.1 = 0 ∨ gOn τ ρ p c * (spB τ ρ p c).2.1 < (spB τ ρ p c).1 * tOn ρ p c then gOn τ ρ p c else (spB τ ρ p c).1, if (spB τ ρ p c).2.1 = 0 ∨ gOn τ ρ p c * (spB τ ρ p c).2.1 < (spB τ ρ p c).1 * tOn ρ p c then tOn ρ p c else (spB τ ρ p c).2.1, if (spB τ ρ p c).2.2.2 = 0 ∨ (spB τ ρ p c).2.2.1 * tOn ρ p c < gOn τ ρ p c * (spB τ ρ p c).2.2.2 then gOn τ ρ p c else (spB τ ρ p c).2.2.1, if (spB τ ρ p c).2.2.2 = 0 ∨ (spB τ ρ p c).2.2.1 * tOn ρ p c < gOn τ ρ p c * (spB τ ρ p c).2.2.2 then tOn ρ p c else (spB τ ρ p c).2.2.2⟩ := if_neg z
        rw [eB] at nx
        by_cases v : (spB τ ρ p c).2.1 = 0
        · have k1 := iff_true_intro (cb.mpr v)
          by_cases y : (spB τ ρ p c).2.2.2 = 0
          · have k3 := iff_true_intro (cd.mpr y)
            simp only [if_pos (Or.inl v : ((spB τ ρ p c).2.1 = 0 ∨ gOn τ ρ p c * (spB τ ρ p c).2.1 < (spB τ ρ p c).1 * tOn ρ p c)), if_pos (Or.inl y : (spB τ ρ p c).2.2.2 = 0 ∨ (spB τ ρ p c).2.2.1 * tOn ρ p c < gOn τ ρ p c * (spB τ ρ p c).2.2.2)] at nx
            simp only [↓br_pos, ↓br_neg, ↓rF_I, ↓rF_L, ↓rF_R, ↓rF_N, rO_m, rB_m, ↓rI_m, wI_m, ↓rB2_m, ↓rB3_m, wB2_m, wB3_m, ↓rL_m, wL_m, ↓rQ_m, wQ_m, ↓lI_m, pI_m, pL_m, pR_m, sI_m, sBy_m, sBo_m, sL_m, sQ_m, fst_m, true_and, and_true, tg_some, ln_some, uI_1, uI_2, uL_1, uL_2, uL_3, uQ_1, uQ_2, uQ_3, rv_i, rv_l, rv_n, rv_b0, rv_b1, RMR, ne_eq, reduceCtorEq, not_false_eq_true, Option.getD_some, if_true, if_false, and_self, false_and, and_false, Nat.add_left_cancel_iff, Nat.add_eq_left, Nat.left_eq_add, Nat.one_ne_zero, Nat.reduceAdd, Nat.reduceLT, Nat.reduceLeDiff, Nat.reduceEqDiff, true_implies, false_implies, implies_true, Option.some.injEq, forall_eq', forall_eq, reduceCtorEq, brT, brF, br_s, i_10, i_01, ib_0_2, ib_1_2, tn_0, tn_1, Int32.le_refl, eq_self, rv_bN, rv_iM, RCX 0, RCG 2, RCT 4, RCT 15, RCT 25, RCS 35, RCS 49, RCH 63, RCP 67, RCB 72, RCR 77, RCM 81, RLY, lit_at hw, RCT P, hT', p3, eb, en, e1, l1, e56, e57, i64_of hg, i64_of ht, ol_mul, k0, k1]
            refine b105_103 ?_
            simp only [↓br_pos, ↓br_neg, ↓rF_I, ↓rF_L, ↓rF_R, ↓rF_N, rO_m, rB_m, ↓rI_m, wI_m, ↓rB2_m, ↓rB3_m, wB2_m, wB3_m, ↓rL_m, wL_m, ↓rQ_m, wQ_m, ↓lI_m, pI_m, pL_m, pR_m, sI_m, sBy_m, sBo_m, sL_m, sQ_m, fst_m, true_and, and_true, tg_some, ln_some, uI_1, uI_2, uL_1, uL_2, uL_3, uQ_1, uQ_2, uQ_3, rv_i, rv_l, rv_n, rv_b0, rv_b1, RMR, ne_eq, reduceCtorEq, not_false_eq_true, Option.getD_some, if_true, if_false, and_self, false_and, and_false, Nat.add_left_cancel_iff, Nat.add_eq_left, Nat.left_eq_add, Nat.one_ne_zero, Nat.reduceAdd, Nat.reduceLT, Nat.reduceLeDiff, Nat.reduceEqDiff, true_implies, false_implies, implies_true, Option.some.injEq, forall_eq', forall_eq, reduceCtorEq, brT, brF, br_s, i_10, i_01, ib_0_2, ib_1_2, tn_0, tn_1, Int32.le_refl, eq_self, rv_bN, rv_iM, ol_mul, k0, k3]
            refine b105_139 (b105_146 ?_)
            rw [on_succ]
            exact nx
          · have k3 := iff_false_intro (fun q => y (cd.mp q))
            by_cases x : (spB τ ρ p c).2.2.1 * tOn ρ p c < gOn τ ρ p c * (spB τ ρ p c).2.2.2
            · have k4 := iff_false_intro (fun q => absurd (cm.mp q) (by omega))
              simp only [if_pos (Or.inl v : ((spB τ ρ p c).2.1 = 0 ∨ gOn τ ρ p c * (spB τ ρ p c).2.1 < (spB τ ρ p c).1 * tOn ρ p c)), if_pos (Or.inr x : (spB τ ρ p c).2.2.2 = 0 ∨ (spB τ ρ p c).2.2.1 * tOn ρ p c < gOn τ ρ p c * (spB τ ρ p c).2.2.2)] at nx
              simp only [↓br_pos, ↓br_neg, ↓rF_I, ↓rF_L, ↓rF_R, ↓rF_N, rO_m, rB_m, ↓rI_m, wI_m, ↓rB2_m, ↓rB3_m, wB2_m, wB3_m, ↓rL_m, wL_m, ↓rQ_m, wQ_m, ↓lI_m, pI_m, pL_m, pR_m, sI_m, sBy_m, sBo_m, sL_m, sQ_m, fst_m, true_and, and_true, tg_some, ln_some, uI_1, uI_2, uL_1, uL_2, uL_3, uQ_1, uQ_2, uQ_3, rv_i, rv_l, rv_n, rv_b0, rv_b1, RMR, ne_eq, reduceCtorEq, not_false_eq_true, Option.getD_some, if_true, if_false, and_self, false_and, and_false, Nat.add_left_cancel_iff, Nat.add_eq_left, Nat.left_eq_add, Nat.one_ne_zero, Nat.reduceAdd, Nat.reduceLT, Nat.reduceLeDiff, Nat.reduceEqDiff, true_implies, false_implies, implies_true, Option.some.injEq, forall_eq', forall_eq, reduceCtorEq, brT, brF, br_s, i_10, i_01, ib_0_2, ib_1_2, tn_0, tn_1, Int32.le_refl, eq_self, rv_bN, rv_iM, RCX 0, RCG 2, RCT 4, RCT 15, RCT 25, RCS 35, RCS 49, RCH 63, RCP 67, RCB 72, RCR 77, RCM 81, RLY, lit_at hw, RCT P, hT', p3, eb, en, e1, l1, e56, e57, i64_of hg, i64_of ht, ol_mul, k0, k1]
              refine b105_103 ?_
              simp only [↓br_pos, ↓br_neg, ↓rF_I, ↓rF_L, ↓rF_R, ↓rF_N, rO_m, rB_m, ↓rI_m, wI_m, ↓rB2_m, ↓rB3_m, wB2_m, wB3_m, ↓rL_m, wL_m, ↓rQ_m, wQ_m, ↓lI_m, pI_m, pL_m, pR_m, sI_m, sBy_m, sBo_m, sL_m, sQ_m, fst_m, true_and, and_true, tg_some, ln_some, uI_1, uI_2, uL_1, uL_2, uL_3, uQ_1, uQ_2, uQ_3, rv_i, rv_l, rv_n, rv_b0, rv_b1, RMR, ne_eq, reduceCtorEq, not_false_eq_true, Option.getD_some, if_true, if_false, and_self, false_and, and_false, Nat.add_left_cancel_iff, Nat.add_eq_left, Nat.left_eq_add, Nat.one_ne_zero, Nat.reduceAdd, Nat.reduceLT, Nat.reduceLeDiff, Nat.reduceEqDiff, true_implies, false_implies, implies_true, Option.some.injEq, forall_eq', forall_eq, reduceCtorEq, brT, brF, br_s, i_10, i_01, ib_0_2, ib_1_2, tn_0, tn_1, Int32.le_refl, eq_self, rv_bN, rv_iM, ol_mul, k0, k3, k4]
              refine b105_139 (b105_146 ?_)
              rw [on_succ]
              exact nx
            · have k4 := iff_true_intro (cm.mpr (by omega))
              simp only [if_pos (Or.inl v : ((spB τ ρ p c).2.1 = 0 ∨ gOn τ ρ p c * (spB τ ρ p c).2.1 < (spB τ ρ p c).1 * tOn ρ p c)), if_neg (fun q => q.elim y x : ¬ ((spB τ ρ p c).2.2.2 = 0 ∨ (spB τ ρ p c).2.2.1 * tOn ρ p c < gOn τ ρ p c * (spB τ ρ p c).2.2.2))] at nx
              simp only [↓br_pos, ↓br_neg, ↓rF_I, ↓rF_L, ↓rF_R, ↓rF_N, rO_m, rB_m, ↓rI_m, wI_m, ↓rB2_m, ↓rB3_m, wB2_m, wB3_m, ↓rL_m, wL_m, ↓rQ_m, wQ_m, ↓lI_m, pI_m, pL_m, pR_m, sI_m, sBy_m, sBo_m, sL_m, sQ_m, fst_m, true_and, and_true, tg_some, ln_some, uI_1, uI_2, uL_1, uL_2, uL_3, uQ_1, uQ_2, uQ_3, rv_i, rv_l, rv_n, rv_b0, rv_b1, RMR, ne_eq, reduceCtorEq, not_false_eq_true, Option.getD_some, if_true, if_false, and_self, false_and, and_false, Nat.add_left_cancel_iff, Nat.add_eq_left, Nat.left_eq_add, Nat.one_ne_zero, Nat.reduceAdd, Nat.reduceLT, Nat.reduceLeDiff, Nat.reduceEqDiff, true_implies, false_implies, implies_true, Option.some.injEq, forall_eq', forall_eq, reduceCtorEq, brT, brF, br_s, i_10, i_01, ib_0_2, ib_1_2, tn_0, tn_1, Int32.le_refl, eq_self, rv_bN, rv_iM, RCX 0, RCG 2, RCT 4, RCT 15, RCT 25, RCS 35, RCS 49, RCH 63, RCP 67, RCB 72, RCR 77, RCM 81, RLY, lit_at hw, RCT P, hT', p3, eb, en, e1, l1, e56, e57, i64_of hg, i64_of ht, ol_mul, k0, k1]
              refine b105_103 ?_
              simp only [↓br_pos, ↓br_neg, ↓rF_I, ↓rF_L, ↓rF_R, ↓rF_N, rO_m, rB_m, ↓rI_m, wI_m, ↓rB2_m, ↓rB3_m, wB2_m, wB3_m, ↓rL_m, wL_m, ↓rQ_m, wQ_m, ↓lI_m, pI_m, pL_m, pR_m, sI_m, sBy_m, sBo_m, sL_m, sQ_m, fst_m, true_and, and_true, tg_some, ln_some, uI_1, uI_2, uL_1, uL_2, uL_3, uQ_1, uQ_2, uQ_3, rv_i, rv_l, rv_n, rv_b0, rv_b1, RMR, ne_eq, reduceCtorEq, not_false_eq_true, Option.getD_some, if_true, if_false, and_self, false_and, and_false, Nat.add_left_cancel_iff, Nat.add_eq_left, Nat.left_eq_add, Nat.one_ne_zero, Nat.reduceAdd, Nat.reduceLT, Nat.reduceLeDiff, Nat.reduceEqDiff, true_implies, false_implies, implies_true, Option.some.injEq, forall_eq', forall_eq, reduceCtorEq, brT, brF, br_s, i_10, i_01, ib_0_2, ib_1_2, tn_0, tn_1, Int32.le_refl, eq_self, rv_bN, rv_iM, ol_mul, k0, k3, k4]
              refine b105_146 ?_
              rw [on_succ]
              exact nx
        · have k1 := iff_false_intro (fun q => v (cb.mp q))
          by_cases u : gOn τ ρ p c * (spB τ ρ p c).2.1 < (spB τ ρ p c).1 * tOn ρ p c
          · have k2 := iff_false_intro (fun q => absurd (cl.mp q) (by omega))
            by_cases y : (spB τ ρ p c).2.2.2 = 0
            · have k3 := iff_true_intro (cd.mpr y)
              simp only [if_pos (Or.inr u : ((spB τ ρ p c).2.1 = 0 ∨ gOn τ ρ p c * (spB τ ρ p c).2.1 < (spB τ ρ p c).1 * tOn ρ p c)), if_pos (Or.inl y : (spB τ ρ p c).2.2.2 = 0 ∨ (spB τ ρ p c).2.2.1 * tOn ρ p c < gOn τ ρ p c * (spB τ ρ p c).2.2.2)] at nx
              simp only [↓br_pos, ↓br_neg, ↓rF_I, ↓rF_L, ↓rF_R, ↓rF_N, rO_m, rB_m, ↓rI_m, wI_m, ↓rB2_m, ↓rB3_m, wB2_m, wB3_m, ↓rL_m, wL_m, ↓rQ_m, wQ_m, ↓lI_m, pI_m, pL_m, pR_m, sI_m, sBy_m, sBo_m, sL_m, sQ_m, fst_m, true_and, and_true, tg_some, ln_some, uI_1, uI_2, uL_1, uL_2, uL_3, uQ_1, uQ_2, uQ_3, rv_i, rv_l, rv_n, rv_b0, rv_b1, RMR, ne_eq, reduceCtorEq, not_false_eq_true, Option.getD_some, if_true, if_false, and_self, false_and, and_false, Nat.add_left_cancel_iff, Nat.add_eq_left, Nat.left_eq_add, Nat.one_ne_zero, Nat.reduceAdd, Nat.reduceLT, Nat.reduceLeDiff, Nat.reduceEqDiff, true_implies, false_implies, implies_true, Option.some.injEq, forall_eq', forall_eq, reduceCtorEq, brT, brF, br_s, i_10, i_01, ib_0_2, ib_1_2, tn_0, tn_1, Int32.le_refl, eq_self, rv_bN, rv_iM, RCX 0, RCG 2, RCT 4, RCT 15, RCT 25, RCS 35, RCS 49, RCH 63, RCP 67, RCB 72, RCR 77, RCM 81, RLY, lit_at hw, RCT P, hT', p3, eb, en, e1, l1, e56, e57, i64_of hg, i64_of ht, ol_mul, k0, k1, k2]
              refine b105_103 ?_
              simp only [↓br_pos, ↓br_neg, ↓rF_I, ↓rF_L, ↓rF_R, ↓rF_N, rO_m, rB_m, ↓rI_m, wI_m, ↓rB2_m, ↓rB3_m, wB2_m, wB3_m, ↓rL_m, wL_m, ↓rQ_m, wQ_m, ↓lI_m, pI_m, pL_m, pR_m, sI_m, sBy_m, sBo_m, sL_m, sQ_m, fst_m, true_and, and_true, tg_some, ln_some, uI_1, uI_2, uL_1, uL_2, uL_3, uQ_1, uQ_2, uQ_3, rv_i, rv_l, rv_n, rv_b0, rv_b1, RMR, ne_eq, reduceCtorEq, not_false_eq_true, Option.getD_some, if_true, if_false, and_self, false_and, and_false, Nat.add_left_cancel_iff, Nat.add_eq_left, Nat.left_eq_add, Nat.one_ne_zero, Nat.reduceAdd, Nat.reduceLT, Nat.reduceLeDiff, Nat.reduceEqDiff, true_implies, false_implies, implies_true, Option.some.injEq, forall_eq', forall_eq, reduceCtorEq, brT, brF, br_s, i_10, i_01, ib_0_2, ib_1_2, tn_0, tn_1, Int32.le_refl, eq_self, rv_bN, rv_iM, ol_mul, k0, k3]
              refine b105_139 (b105_146 ?_)
              rw [on_succ]
              exact nx
            · have k3 := iff_false_intro (fun q => y (cd.mp q))
              by_cases x : (spB τ ρ p c).2.2.1 * tOn ρ p c < gOn τ ρ p c * (spB τ ρ p c).2.2.2
              · have k4 := iff_false_intro (fun q => absurd (cm.mp q) (by omega))
                simp only [if_pos (Or.inr u : ((spB τ ρ p c).2.1 = 0 ∨ gOn τ ρ p c * (spB τ ρ p c).2.1 < (spB τ ρ p c).1 * tOn ρ p c)), if_pos (Or.inr x : (spB τ ρ p c).2.2.2 = 0 ∨ (spB τ ρ p c).2.2.1 * tOn ρ p c < gOn τ ρ p c * (spB τ ρ p c).2.2.2)] at nx
                simp only [↓br_pos, ↓br_neg, ↓rF_I, ↓rF_L, ↓rF_R, ↓rF_N, rO_m, rB_m, ↓rI_m, wI_m, ↓rB2_m, ↓rB3_m, wB2_m, wB3_m, ↓rL_m, wL_m, ↓rQ_m, wQ_m, ↓lI_m, pI_m, pL_m, pR_m, sI_m, sBy_m, sBo_m, sL_m, sQ_m, fst_m, true_and, and_true, tg_some, ln_some, uI_1, uI_2, uL_1, uL_2, uL_3, uQ_1, uQ_2, uQ_3, rv_i, rv_l, rv_n, rv_b0, rv_b1, RMR, ne_eq, reduceCtorEq, not_false_eq_true, Option.getD_some, if_true, if_false, and_self, false_and, and_false, Nat.add_left_cancel_iff, Nat.add_eq_left, Nat.left_eq_add, Nat.one_ne_zero, Nat.reduceAdd, Nat.reduceLT, Nat.reduceLeDiff, Nat.reduceEqDiff, true_implies, false_implies, implies_true, Option.some.injEq, forall_eq', forall_eq, reduceCtorEq, brT, brF, br_s, i_10, i_01, ib_0_2, ib_1_2, tn_0, tn_1, Int32.le_refl, eq_self, rv_bN, rv_iM, RCX 0, RCG 2, RCT 4, RCT 15, RCT 25, RCS 35, RCS 49, RCH 63, RCP 67, RCB 72, RCR 77, RCM 81, RLY, lit_at hw, RCT P, hT', p3, eb, en, e1, l1, e56, e57, i64_of hg, i64_of ht, ol_mul, k0, k1, k2]
                refine b105_103 ?_
                simp only [↓br_pos, ↓br_neg, ↓rF_I, ↓rF_L, ↓rF_R, ↓rF_N, rO_m, rB_m, ↓rI_m, wI_m, ↓rB2_m, ↓rB3_m, wB2_m, wB3_m, ↓rL_m, wL_m, ↓rQ_m, wQ_m, ↓lI_m, pI_m, pL_m, pR_m, sI_m, sBy_m, sBo_m, sL_m, sQ_m, fst_m, true_and, and_true, tg_some, ln_some, uI_1, uI_2, uL_1, uL_2, uL_3, uQ_1, uQ_2, uQ_3, rv_i, rv_l, rv_n, rv_b0, rv_b1, RMR, ne_eq, reduceCtorEq, not_false_eq_true, Option.getD_some, if_true, if_false, and_self, false_and, and_false, Nat.add_left_cancel_iff, Nat.add_eq_left, Nat.left_eq_add, Nat.one_ne_zero, Nat.reduceAdd, Nat.reduceLT, Nat.reduceLeDiff, Nat.reduceEqDiff, true_implies, false_implies, implies_true, Option.some.injEq, forall_eq', forall_eq, reduceCtorEq, brT, brF, br_s, i_10, i_01, ib_0_2, ib_1_2, tn_0, tn_1, Int32.le_refl, eq_self, rv_bN, rv_iM, ol_mul, k0, k3, k4]
                refine b105_139 (b105_146 ?_)
                rw [on_succ]
                exact nx
              · have k4 := iff_true_intro (cm.mpr (by omega))
                simp only [if_pos (Or.inr u : ((spB τ ρ p c).2.1 = 0 ∨ gOn τ ρ p c * (spB τ ρ p c).2.1 < (spB τ ρ p c).1 * tOn ρ p c)), if_neg (fun q => q.elim y x : ¬ ((spB τ ρ p c).2.2.2 = 0 ∨ (spB τ ρ p c).2.2.1 * tOn ρ p c < gOn τ ρ p c * (spB τ ρ p c).2.2.2))] at nx
                simp only [↓br_pos, ↓br_neg, ↓rF_I, ↓rF_L, ↓rF_R, ↓rF_N, rO_m, rB_m, ↓rI_m, wI_m, ↓rB2_m, ↓rB3_m, wB2_m, wB3_m, ↓rL_m, wL_m, ↓rQ_m, wQ_m, ↓lI_m, pI_m, pL_m, pR_m, sI_m, sBy_m, sBo_m, sL_m, sQ_m, fst_m, true_and, and_true, tg_some, ln_some, uI_1, uI_2, uL_1, uL_2, uL_3, uQ_1, uQ_2, uQ_3, rv_i, rv_l, rv_n, rv_b0, rv_b1, RMR, ne_eq, reduceCtorEq, not_false_eq_true, Option.getD_some, if_true, if_false, and_self, false_and, and_false, Nat.add_left_cancel_iff, Nat.add_eq_left, Nat.left_eq_add, Nat.one_ne_zero, Nat.reduceAdd, Nat.reduceLT, Nat.reduceLeDiff, Nat.reduceEqDiff, true_implies, false_implies, implies_true, Option.some.injEq, forall_eq', forall_eq, reduceCtorEq, brT, brF, br_s, i_10, i_01, ib_0_2, ib_1_2, tn_0, tn_1, Int32.le_refl, eq_self, rv_bN, rv_iM, RCX 0, RCG 2, RCT 4, RCT 15, RCT 25, RCS 35, RCS 49, RCH 63, RCP 67, RCB 72, RCR 77, RCM 81, RLY, lit_at hw, RCT P, hT', p3, eb, en, e1, l1, e56, e57, i64_of hg, i64_of ht, ol_mul, k0, k1, k2]
                refine b105_103 ?_
                simp only [↓br_pos, ↓br_neg, ↓rF_I, ↓rF_L, ↓rF_R, ↓rF_N, rO_m, rB_m, ↓rI_m, wI_m, ↓rB2_m, ↓rB3_m, wB2_m, wB3_m, ↓rL_m, wL_m, ↓rQ_m, wQ_m, ↓lI_m, pI_m, pL_m, pR_m, sI_m, sBy_m, sBo_m, sL_m, sQ_m, fst_m, true_and, and_true, tg_some, ln_some, uI_1, uI_2, uL_1, uL_2, uL_3, uQ_1, uQ_2, uQ_3, rv_i, rv_l, rv_n, rv_b0, rv_b1, RMR, ne_eq, reduceCtorEq, not_false_eq_true, Option.getD_some, if_true, if_false, and_self, false_and, and_false, Nat.add_left_cancel_iff, Nat.add_eq_left, Nat.left_eq_add, Nat.one_ne_zero, Nat.reduceAdd, Nat.reduceLT, Nat.reduceLeDiff, Nat.reduceEqDiff, true_implies, false_implies, implies_true, Option.some.injEq, forall_eq', forall_eq, reduceCtorEq, brT, brF, br_s, i_10, i_01, ib_0_2, ib_1_2, tn_0, tn_1, Int32.le_refl, eq_self, rv_bN, rv_iM, ol_mul, k0, k3, k4]
                refine b105_146 ?_
                rw [on_succ]
                exact nx
          · have k2 := iff_true_intro (cl.mpr (by omega))
            by_cases y : (spB τ ρ p c).2.2.2 = 0
            · have k3 := iff_true_intro (cd.mpr y)
              simp only [if_neg (fun q => q.elim v u : ¬ ((spB τ ρ p c).2.1 = 0 ∨ gOn τ ρ p c * (spB τ ρ p c).2.1 < (spB τ ρ p c).1 * tOn ρ p c)), if_pos (Or.inl y : (spB τ ρ p c).2.2.2 = 0 ∨ (spB τ ρ p c).2.2.1 * tOn ρ p c < gOn τ ρ p c * (spB τ ρ p c).2.2.2)] at nx
              simp only [↓br_pos, ↓br_neg, ↓rF_I, ↓rF_L, ↓rF_R, ↓rF_N, rO_m, rB_m, ↓rI_m, wI_m, ↓rB2_m, ↓rB3_m, wB2_m, wB3_m, ↓rL_m, wL_m, ↓rQ_m, wQ_m, ↓lI_m, pI_m, pL_m, pR_m, sI_m, sBy_m, sBo_m, sL_m, sQ_m, fst_m, true_and, and_true, tg_some, ln_some, uI_1, uI_2, uL_1, uL_2, uL_3, uQ_1, uQ_2, uQ_3, rv_i, rv_l, rv_n, rv_b0, rv_b1, RMR, ne_eq, reduceCtorEq, not_false_eq_true, Option.getD_some, if_true, if_false, and_self, false_and, and_false, Nat.add_left_cancel_iff, Nat.add_eq_left, Nat.left_eq_add, Nat.one_ne_zero, Nat.reduceAdd, Nat.reduceLT, Nat.reduceLeDiff, Nat.reduceEqDiff, true_implies, false_implies, implies_true, Option.some.injEq, forall_eq', forall_eq, reduceCtorEq, brT, brF, br_s, i_10, i_01, ib_0_2, ib_1_2, tn_0, tn_1, Int32.le_refl, eq_self, rv_bN, rv_iM, RCX 0, RCG 2, RCT 4, RCT 15, RCT 25, RCS 35, RCS 49, RCH 63, RCP 67, RCB 72, RCR 77, RCM 81, RLY, lit_at hw, RCT P, hT', p3, eb, en, e1, l1, e56, e57, i64_of hg, i64_of ht, ol_mul, k0, k1, k2, k3]
              refine b105_139 (b105_146 ?_)
              rw [on_succ]
              exact nx
            · have k3 := iff_false_intro (fun q => y (cd.mp q))
              by_cases x : (spB τ ρ p c).2.2.1 * tOn ρ p c < gOn τ ρ p c * (spB τ ρ p c).2.2.2
              · have k4 := iff_false_intro (fun q => absurd (cm.mp q) (by omega))
                simp only [if_neg (fun q => q.elim v u : ¬ ((spB τ ρ p c).2.1 = 0 ∨ gOn τ ρ p c * (spB τ ρ p c).2.1 < (spB τ ρ p c).1 * tOn ρ p c)), if_pos (Or.inr x : (spB τ ρ p c).2.2.2 = 0 ∨ (spB τ ρ p c).2.2.1 * tOn ρ p c < gOn τ ρ p c * (spB τ ρ p c).2.2.2)] at nx
                simp only [↓br_pos, ↓br_neg, ↓rF_I, ↓rF_L, ↓rF_R, ↓rF_N, rO_m, rB_m, ↓rI_m, wI_m, ↓rB2_m, ↓rB3_m, wB2_m, wB3_m, ↓rL_m, wL_m, ↓rQ_m, wQ_m, ↓lI_m, pI_m, pL_m, pR_m, sI_m, sBy_m, sBo_m, sL_m, sQ_m, fst_m, true_and, and_true, tg_some, ln_some, uI_1, uI_2, uL_1, uL_2, uL_3, uQ_1, uQ_2, uQ_3, rv_i, rv_l, rv_n, rv_b0, rv_b1, RMR, ne_eq, reduceCtorEq, not_false_eq_true, Option.getD_some, if_true, if_false, and_self, false_and, and_false, Nat.add_left_cancel_iff, Nat.add_eq_left, Nat.left_eq_add, Nat.one_ne_zero, Nat.reduceAdd, Nat.reduceLT, Nat.reduceLeDiff, Nat.reduceEqDiff, true_implies, false_implies, implies_true, Option.some.injEq, forall_eq', forall_eq, reduceCtorEq, brT, brF, br_s, i_10, i_01, ib_0_2, ib_1_2, tn_0, tn_1, Int32.le_refl, eq_self, rv_bN, rv_iM, RCX 0, RCG 2, RCT 4, RCT 15, RCT 25, RCS 35, RCS 49, RCH 63, RCP 67, RCB 72, RCR 77, RCM 81, RLY, lit_at hw, RCT P, hT', p3, eb, en, e1, l1, e56, e57, i64_of hg, i64_of ht, ol_mul, k0, k1, k2, k3, k4]
                refine b105_139 (b105_146 ?_)
                rw [on_succ]
                exact nx
              · have k4 := iff_true_intro (cm.mpr (by omega))
                simp only [if_neg (fun q => q.elim v u : ¬ ((spB τ ρ p c).2.1 = 0 ∨ gOn τ ρ p c * (spB τ ρ p c).2.1 < (spB τ ρ p c).1 * tOn ρ p c)), if_neg (fun q => q.elim y x : ¬ ((spB τ ρ p c).2.2.2 = 0 ∨ (spB τ ρ p c).2.2.1 * tOn ρ p c < gOn τ ρ p c * (spB τ ρ p c).2.2.2))] at nx
                simp only [↓br_pos, ↓br_neg, ↓rF_I, ↓rF_L, ↓rF_R, ↓rF_N, rO_m, rB_m, ↓rI_m, wI_m, ↓rB2_m, ↓rB3_m, wB2_m, wB3_m, ↓rL_m, wL_m, ↓rQ_m, wQ_m, ↓lI_m, pI_m, pL_m, pR_m, sI_m, sBy_m, sBo_m, sL_m, sQ_m, fst_m, true_and, and_true, tg_some, ln_some, uI_1, uI_2, uL_1, uL_2, uL_3, uQ_1, uQ_2, uQ_3, rv_i, rv_l, rv_n, rv_b0, rv_b1, RMR, ne_eq, reduceCtorEq, not_false_eq_true, Option.getD_some, if_true, if_false, and_self, false_and, and_false, Nat.add_left_cancel_iff, Nat.add_eq_left, Nat.left_eq_add, Nat.one_ne_zero, Nat.reduceAdd, Nat.reduceLT, Nat.reduceLeDiff, Nat.reduceEqDiff, true_implies, false_implies, implies_true, Option.some.injEq, forall_eq', forall_eq, reduceCtorEq, brT, brF, br_s, i_10, i_01, ib_0_2, ib_1_2, tn_0, tn_1, Int32.le_refl, eq_self, rv_bN, rv_iM, RCX 0, RCG 2, RCT 4, RCT 15, RCT 25, RCS 35, RCS 49, RCH 63, RCP 67, RCB 72, RCR 77, RCM 81, RLY, lit_at hw, RCT P, hT', p3, eb, en, e1, l1, e56, e57, i64_of hg, i64_of ht, ol_mul, k0, k1, k2, k3, k4]
                refine b105_146 ?_
                rw [on_succ]
                exact nx
theorem c_105z {w : mT} {σ : mS} {tp n : Nat} {t : Nat → Nat} {τ ρ : Rw} {bk : Nat → Rw} {has : Nat → Bool} {im : Nat → Rw} {p : Int32} {D : Nat} {K : Int64 → Hp → Prop} (h : cIn w σ tp t τ ρ n bk has im) (hn : bN p (τ 1) ≠ 1) (hD : 4 ≤ D) : wpL D 105 [.ref 0, .int p] (mW w σ) K ↔ K (-1) (mW w σ) := by
  have h' := h
  obtain ⟨hw, hS, hH, ⟨P, hP, p3, p4, hτ⟩, hρ, hv, hr, h1, htp, htb, ht⟩ := h
  have hT := isTP hw hP
  have hT' := hT
  simp only [isT] at hT'
  refine cL_of (m := 3) (fun d hd Q hQ => ?_) rfl hD
  have hd1 : 1 ≤ d := by omega
  have v1 := hv.2.1
  have z' : bN p (τ 1) = 0 := bN_01.resolve_right hn
  refine b105_0 ?_
  simp only [↓br_pos, ↓br_neg, ↓rF_I, ↓rF_L, ↓rF_R, ↓rF_N, rO_m, rB_m, ↓rI_m, wI_m, ↓rB2_m, ↓rB3_m, wB2_m, wB3_m, ↓rL_m, wL_m, ↓rQ_m, wQ_m, ↓lI_m, pI_m, pL_m, pR_m, sI_m, sBy_m, sBo_m, sL_m, sQ_m, fst_m, true_and, and_true, tg_some, ln_some, uI_1, uI_2, uL_1, uL_2, uL_3, uQ_1, uQ_2, uQ_3, rv_i, rv_l, rv_n, rv_b0, rv_b1, RMR, ne_eq, reduceCtorEq, not_false_eq_true, Option.getD_some, if_true, if_false, and_self, false_and, and_false, Nat.add_left_cancel_iff, Nat.add_eq_left, Nat.left_eq_add, Nat.one_ne_zero, Nat.reduceAdd, Nat.reduceLT, Nat.reduceLeDiff, Nat.reduceEqDiff, true_implies, false_implies, implies_true, Option.some.injEq, forall_eq', forall_eq, reduceCtorEq, brT, brF, br_s, i_10, i_01, ib_0_2, ib_1_2, tn_0, tn_1, Int32.le_refl, eq_self, rv_bN, rv_iM, RCX 0, RCG 2, RCT 4, RCT 15, RCT 25, RCS 35, RCS 49, RCH 63, RCP 67, RCB 72, RCR 77, RCM 81, RLY, lit_at hw, RCT P, hT', p3, g_71 hT hτ.2.2.1 (by omega : τ 1 < 2147483648) hd1, z']
  exact hQ
theorem c_105 {w : mT} {σ : mS} {tp n : Nat} {t : Nat → Nat} {τ ρ : Rw} {bk : Nat → Rw} {has : Nat → Bool} {im : Nat → Rw} {p : Nat} {D : Nat} {K : Int64 → Hp → Prop} (h : cIn w σ tp t τ ρ n bk has im) (hp : p < τ 1) (hD : 4 ≤ D) : wpL D 105 [.ref 0, .int (Int32.ofNat p)] (mW w σ) K ↔ K (spV (spB τ ρ p (τ (28 + p)))) (mW w (spU σ (spB τ ρ p (τ (28 + p))))) := by
  have h' := h
  obtain ⟨hw, hS, hH, ⟨P, hP, p3, p4, hτ⟩, hρ, hv, hr, h1, htp, htb, ht⟩ := h
  have hT := isTP hw hP
  have hT' := hT
  simp only [isT] at hT'
  refine cL_of (m := 3) (fun d hd Q hQ => ?_) rfl hD
  have hd1 : 1 ≤ d := by omega
  have hd2 : 2 ≤ d := by omega
  have v1 := hv.2.1
  have v2 := (hv.2.2.2.2.2.1 p hp).1
  have z := bN_on hp (by omega : τ 1 < 2147483648)
  refine b105_0 ?_
  simp only [↓br_pos, ↓br_neg, ↓rF_I, ↓rF_L, ↓rF_R, ↓rF_N, rO_m, rB_m, ↓rI_m, wI_m, ↓rB2_m, ↓rB3_m, wB2_m, wB3_m, ↓rL_m, wL_m, ↓rQ_m, wQ_m, ↓lI_m, pI_m, pL_m, pR_m, sI_m, sBy_m, sBo_m, sL_m, sQ_m, fst_m, true_and, and_true, tg_some, ln_some, uI_1, uI_2, uL_1, uL_2, uL_3, uQ_1, uQ_2, uQ_3, rv_i, rv_l, rv_n, rv_b0, rv_b1, RMR, ne_eq, reduceCtorEq, not_false_eq_true, Option.getD_some, if_true, if_false, and_self, false_and, and_false, Nat.add_left_cancel_iff, Nat.add_eq_left, Nat.left_eq_add, Nat.one_ne_zero, Nat.reduceAdd, Nat.reduceLT, Nat.reduceLeDiff, Nat.reduceEqDiff, true_implies, false_implies, implies_true, Option.some.injEq, forall_eq', forall_eq, reduceCtorEq, brT, brF, br_s, i_10, i_01, ib_0_2, ib_1_2, tn_0, tn_1, Int32.le_refl, eq_self, rv_bN, rv_iM, RCX 0, RCG 2, RCT 4, RCT 15, RCT 25, RCS 35, RCS 49, RCH 63, RCP 67, RCB 72, RCR 77, RCM 81, RLY, lit_at hw, RCT P, hT', p3, g_71 hT hτ.2.2.1 (by omega : τ 1 < 2147483648) hd1, z]
  exact b105_23 (lp_105 hw hP p3 hτ hv hρ hr hp hd2 hQ (τ (28 + p)) 0 jk jk (by omega) (Or.inl ⟨rfl, rfl, by omega⟩))
end
section
/-! Loading: what it does is safe -/
theorem sm_ins {f : Nat → Nat} {a x : Nat} : ∀ n, a ≤ n → sm (n + 1) (fun i => if i < a then f i else if i = a then x else f (i - 1)) = sm n f + x := by
  intro n
  induction n with
  | zero =>
    intro ha
    have e : a = 0 := by omega
    subst e
    rfl
  | succ n ih =>
    intro ha
    rw [sm_s]
    by_cases c : a = n + 1
    · rw [if_neg (by omega), if_pos c.symm]
      congr 1
      exact sm_eq (fun i hi => if_pos (by omega))
    · rw [ih (by omega), if_neg (by omega), if_neg (by omega), sm_s]
      show sm n f + x + f n = sm n f + f n + x
      omega
/-- the ships that did not sail, by some row of theirs -/
def opS (ρ : Rw) (g : Nat → Nat) (s : Nat) : Nat := if ρ (43 + s) = 0 then g s else 0
def loI (σ : mS) (ρ : Rw) (m n : Nat) (b : Nat → Nat) : Prop := σ.1 67 0 = Int32.ofNat n ∧ n ≤ m ∧ (∀ i, i < n → σ.1 70 i = Int32.ofNat (b i) ∧ b i < m ∧ ρ (43 + b i) = 0) ∧ ∀ g : Nat → Nat, sm n (fun i => g (b i)) = sm m (opS ρ g)
/-- what Loading sees of the others -/
def loE (w : mT) (σ : mS) (P : Nat) (τ ρ : Rw) : Prop := lit w ∧ (P = 15 ∨ P = 25) ∧ tTold σ P τ ∧ vTold τ ∧ tSt σ 35 τ ρ ∧ vRow τ ρ
theorem loE_fr {w : mT} {σ σ' : mS} {P : Nat} {τ ρ : Rw} (h : loE w σ P τ ρ) (f : frR 67 72 σ σ') : loE w σ' P τ ρ := by
  obtain ⟨a, b, c, d, e, g⟩ := h
  exact ⟨a, b, tTold_fr c (fun x h1 h2 => f.1 x (by omega)), d, tSt_fr e (fun x h1 h2 => f.1 x (by omega)), g⟩
theorem lo_due {σ : mS} {P s : Nat} {τ : Rw} (hτ : tTold σ P τ) (hs : s < τ 2) : σ.1 (P + 7) s = Int32.ofNat (τ (31 + 6 * s + 3)) := (hτ.2.2.2.2.2.2 s hs).2.2.2.1
theorem lo_load {σ : mS} {P s : Nat} {τ : Rw} (hτ : tTold σ P τ) (hs : s < τ 2) : σ.1 (P + 8) s = Int32.ofNat (τ (31 + 6 * s + 4)) := (hτ.2.2.2.2.2.2 s hs).2.2.2.2.1
theorem lo_fine {σ : mS} {P s : Nat} {τ : Rw} (hτ : tTold σ P τ) (hs : s < τ 2) : σ.1 (P + 9) s = Int32.ofNat (τ (31 + 6 * s + 5)) := (hτ.2.2.2.2.2.2 s hs).2.2.2.2.2
theorem open_iff {τ ρ : Rw} {s : Nat} (hr : vRow τ ρ) (hs : s < τ 2) : (Int32.ofNat (ρ (43 + s)) - 1 = (-1 : Int32)) ↔ ρ (43 + s) = 0 := m1_eq (by have := vR_sa hr s hs; omega)
/-- one is put where it belongs -/
theorem in_17 {w : mT} {P s n : Nat} {τ ρ : Rw} {b : Nat → Nat} (hs : s < τ 2) (hn : n ≤ s) (hb : ∀ i, i < n → b i < s) : ∀ (k : Nat) (σ : mS), k ≤ n → loE w σ P τ ρ → σ.1 67 0 = Int32.ofNat n → (∀ i, i < k → σ.1 70 i = Int32.ofNat (b i)) → (∀ i, k < i → i ≤ n → σ.1 70 i = Int32.ofNat (b (i - 1))) → ∃ σ' k', k' ≤ n ∧ frR 67 72 σ σ' ∧ σ'.1 67 0 = Int32.ofNat (n + 1) ∧ (∀ i, i ≤ n → σ'.1 70 i = Int32.ofNat (if i < k' then b i else if i = k' then s else b (i - 1))) ∧ ∀ {Q : Option (Option Value) → Hp → Prop} {d : Nat}, Wp 17 7 [.ref 67, .ref P, .ref 35, .int (Int32.ofNat (s + 1)), .int (Int32.ofNat k')] [] (mW w σ') Q d → Wp 17 31 [.ref 67, .ref P, .ref 35, .int (Int32.ofNat s), .int (Int32.ofNat k)] [] (mW w σ) Q d := by
  intro k
  induction k with
  | zero =>
    intro σ hk hE h0 h1 h2
    obtain ⟨hw, hP, hτ, hv, hρ, hr⟩ := hE
    have v2 := hv.2.2.1
    refine ⟨uI (uI σ 70 0 (Int32.ofNat s)) 67 0 (Int32.ofNat (n + 1)), 0, Nat.zero_le _, frR_tr (frR_I (by omega)) (frR_I (by omega)), ?_, fun i hi => ?_, fun {Q d} hQ => ?_⟩
    · rw [uI_1, if_pos ⟨rfl, rfl⟩]
    · rw [uI_1, if_neg (by omega), uI_1]
      by_cases c : i = 0
      · rw [if_pos ⟨rfl, c⟩, if_neg (by omega), if_pos c]
      · rw [if_neg (fun q => c q.2), if_neg (by omega), if_neg c]
        exact h2 i (by omega) hi
    · refine b17_31 ?_
      have c0 : (Int32.ofNat 0 ≤ (0 : Int32)) ↔ True := by decide
      have eb : inB (Int32.ofNat 0) 8 = true := by decide
      have en : (Int32.ofNat 0).toNatClampNeg = 0 := by decide
      simp only [↓br_pos, ↓br_neg, ↓rF_I, ↓rF_L, ↓rF_R, ↓rF_N, rO_m, rB_m, ↓rI_m, wI_m, ↓rB2_m, ↓rB3_m, wB2_m, wB3_m, ↓rL_m, wL_m, ↓rQ_m, wQ_m, ↓lI_m, pI_m, pL_m, pR_m, sI_m, sBy_m, sBo_m, sL_m, sQ_m, fst_m, true_and, and_true, tg_some, ln_some, uI_1, uI_2, uL_1, uL_2, uL_3, uQ_1, uQ_2, uQ_3, rv_i, rv_l, rv_n, rv_b0, rv_b1, RMR, ne_eq, reduceCtorEq, not_false_eq_true, Option.getD_some, if_true, if_false, and_self, false_and, and_false, Nat.add_left_cancel_iff, Nat.add_eq_left, Nat.left_eq_add, Nat.one_ne_zero, Nat.reduceAdd, Nat.reduceLT, Nat.reduceLeDiff, Nat.reduceEqDiff, true_implies, false_implies, implies_true, Option.some.injEq, forall_eq', forall_eq, reduceCtorEq, brT, brF, br_s, i_10, i_01, ib_0_2, ib_1_2, tn_0, tn_1, Int32.le_refl, eq_self, rv_bN, rv_iM, RCX 0, RCG 2, RCT 4, RCT 15, RCT 25, RCS 35, RCS 49, RCH 63, RCP 67, RCB 72, RCR 77, RCM 81, RLY, lit_at hw, c0, eb, en, h0, on_succ]
      exact hQ
  | succ k ih =>
    intro σ hk hE h0 h1 h2
    have hE' := hE
    obtain ⟨hw, hP, hτ, hv, hρ, hr⟩ := hE
    have hT' := isTP hw hP
    simp only [isT] at hT'
    have v2 := hv.2.2.1
    have c0 : (Int32.ofNat (k + 1) ≤ (0 : Int32)) ↔ False := iff_false_intro (fun q => absurd ((of_le0 (by omega)).mp q) (by omega))
    have e1 : Int32.ofNat (k + 1) - 1 = Int32.ofNat k := by rw [show (1 : Int32) = Int32.ofNat 1 by rfl, of_sub (by omega)]; rfl
    have e2 : Int32.ofNat (k + 1) + -1 = Int32.ofNat k := by rw [← e1]; exact (Int32.sub_eq_add_neg ..).symm
    have eb : inB (Int32.ofNat (k + 1)) 8 = true := on_inB (by omega) (by omega)
    have en := on_nat (i := k + 1) (by omega)
    have eb' : inB (Int32.ofNat k) 8 = true := on_inB (by omega) (by omega)
    have en' := on_nat (i := k) (by omega)
    have hbk := hb k (by omega)
    have ebb : inB (Int32.ofNat (b k)) 8 = true := on_inB (by omega) (by omega)
    have enb := on_nat (i := b k) (by omega)
    have ebs : inB (Int32.ofNat s) 8 = true := on_inB (by omega) (by omega)
    have ens := on_nat (i := s) (by omega)
    have m1 := h1 k (by omega)
    by_cases z : σ.1 (P + 7) (b k) ≤ σ.1 (P + 7) s
    · refine ⟨uI (uI σ 70 (k + 1) (Int32.ofNat s)) 67 0 (Int32.ofNat (n + 1)), k + 1, hk, frR_tr (frR_I (by omega)) (frR_I (by omega)), ?_, fun i hi => ?_, fun {Q d} hQ => ?_⟩
      · rw [uI_1, if_pos ⟨rfl, rfl⟩]
      · rw [uI_1, if_neg (by omega), uI_1]
        by_cases c : i = k + 1
        · rw [if_pos ⟨rfl, c⟩, if_neg (by omega), if_pos c]
        · rw [if_neg (fun q => c q.2)]
          by_cases c2 : i < k + 1
          · rw [if_pos c2]; exact h1 i c2
          · rw [if_neg c2, if_neg c]; exact h2 i (by omega) hi
      · refine b17_31 ?_
        simp only [↓br_pos, ↓br_neg, ↓rF_I, ↓rF_L, ↓rF_R, ↓rF_N, rO_m, rB_m, ↓rI_m, wI_m, ↓rB2_m, ↓rB3_m, wB2_m, wB3_m, ↓rL_m, wL_m, ↓rQ_m, wQ_m, ↓lI_m, pI_m, pL_m, pR_m, sI_m, sBy_m, sBo_m, sL_m, sQ_m, fst_m, true_and, and_true, tg_some, ln_some, uI_1, uI_2, uL_1, uL_2, uL_3, uQ_1, uQ_2, uQ_3, rv_i, rv_l, rv_n, rv_b0, rv_b1, RMR, ne_eq, reduceCtorEq, not_false_eq_true, Option.getD_some, if_true, if_false, and_self, false_and, and_false, Nat.add_left_cancel_iff, Nat.add_eq_left, Nat.left_eq_add, Nat.one_ne_zero, Nat.reduceAdd, Nat.reduceLT, Nat.reduceLeDiff, Nat.reduceEqDiff, true_implies, false_implies, implies_true, Option.some.injEq, forall_eq', forall_eq, reduceCtorEq, brT, brF, br_s, i_10, i_01, ib_0_2, ib_1_2, tn_0, tn_1, Int32.le_refl, eq_self, rv_bN, rv_iM, RCX 0, RCG 2, RCT 4, RCT 15, RCT 25, RCS 35, RCS 49, RCH 63, RCP 67, RCB 72, RCR 77, RCM 81, RLY, lit_at hw, RCT P, hT', c0, e1, eb, en, eb', en', m1, ebb, enb, ebs, ens, z, h0, on_succ]
        exact hQ
    · have f1 : frR 67 72 σ (uI σ 70 (k + 1) (Int32.ofNat (b k))) := frR_I (by omega)
      obtain ⟨σ', k', g1, g2, g3, g4, g5⟩ := ih (uI σ 70 (k + 1) (Int32.ofNat (b k))) (by omega) (loE_fr hE' f1) (by rw [uI_1, if_neg (by omega)]; exact h0) (fun i hi => by rw [uI_1, if_neg (by omega)]; exact h1 i (by omega)) (fun i hi hi2 => by
        rw [uI_1]
        by_cases c : i = k + 1
        · subst c; rw [if_pos ⟨rfl, rfl⟩]; rfl
        · rw [if_neg (fun q => c q.2)]; exact h2 i (by omega) hi2)
      refine ⟨σ', k', g1, frR_tr f1 g2, g3, g4, fun {Q d} hQ => ?_⟩
      refine b17_31 ?_
      simp only [↓br_pos, ↓br_neg, ↓rF_I, ↓rF_L, ↓rF_R, ↓rF_N, rO_m, rB_m, ↓rI_m, wI_m, ↓rB2_m, ↓rB3_m, wB2_m, wB3_m, ↓rL_m, wL_m, ↓rQ_m, wQ_m, ↓lI_m, pI_m, pL_m, pR_m, sI_m, sBy_m, sBo_m, sL_m, sQ_m, fst_m, true_and, and_true, tg_some, ln_some, uI_1, uI_2, uL_1, uL_2, uL_3, uQ_1, uQ_2, uQ_3, rv_i, rv_l, rv_n, rv_b0, rv_b1, RMR, ne_eq, reduceCtorEq, not_false_eq_true, Option.getD_some, if_true, if_false, and_self, false_and, and_false, Nat.add_left_cancel_iff, Nat.add_eq_left, Nat.left_eq_add, Nat.one_ne_zero, Nat.reduceAdd, Nat.reduceLT, Nat.reduceLeDiff, Nat.reduceEqDiff, true_implies, false_implies, implies_true, Option.some.injEq, forall_eq', forall_eq, reduceCtorEq, brT, brF, br_s, i_10, i_01, ib_0_2, ib_1_2, tn_0, tn_1, Int32.le_refl, eq_self, rv_bN, rv_iM, RCX 0, RCG 2, RCT 4, RCT 15, RCT 25, RCS 35, RCS 49, RCH 63, RCP 67, RCB 72, RCR 77, RCM 81, RLY, lit_at hw, RCT P, hT', c0, e1, e2, eb, en, eb', en', m1, ebb, enb, ebs, ens, z]
      exact g5 hQ
theorem opS_s {ρ : Rw} {g : Nat → Nat} {s : Nat} : sm (s + 1) (opS ρ g) = sm s (opS ρ g) + (if ρ (43 + s) = 0 then g s else 0) := rfl
theorem lp_17 {w : mT} {P : Nat} {τ ρ : Rw} : ∀ (r s n : Nat) (σ : mS) (b : Nat → Nat), s + r = τ 2 → loE w σ P τ ρ → loI σ ρ s n b → ∃ σ' n' b', frR 67 72 σ σ' ∧ loI σ' ρ (τ 2) n' b' ∧ ∀ {Q : Option (Option Value) → Hp → Prop} {d : Nat} (x : Value), (x = jk ∨ ∃ u : Int32, x = .int u) → Q (some none) (mW w σ') → Wp 17 7 [.ref 67, .ref P, .ref 35, .int (Int32.ofNat s), x] [] (mW w σ) Q d := by
  intro r
  induction r with
  | zero =>
    intro s n σ b hs hE hI
    obtain ⟨hw, hP, hτ, hv, hρ, hr⟩ := hE
    have hT' := isTP hw hP
    simp only [isT] at hT'
    have hs' : s = τ 2 := by omega
    subst hs'
    have e4 : σ.1 P 4 = Int32.ofNat (τ 2) := hτ.2.2.2.1
    refine ⟨σ, n, b, frR_rf, hI, fun {Q d} x hx hQ => ?_⟩
    rcases hx with rfl | ⟨u, rfl⟩
    · refine b17_7 ?_
      simp only [↓br_pos, ↓br_neg, ↓rF_I, ↓rF_L, ↓rF_R, ↓rF_N, rO_m, rB_m, ↓rI_m, wI_m, ↓rB2_m, ↓rB3_m, wB2_m, wB3_m, ↓rL_m, wL_m, ↓rQ_m, wQ_m, ↓lI_m, pI_m, pL_m, pR_m, sI_m, sBy_m, sBo_m, sL_m, sQ_m, fst_m, true_and, and_true, tg_some, ln_some, uI_1, uI_2, uL_1, uL_2, uL_3, uQ_1, uQ_2, uQ_3, rv_i, rv_l, rv_n, rv_b0, rv_b1, RMR, ne_eq, reduceCtorEq, not_false_eq_true, Option.getD_some, if_true, if_false, and_self, false_and, and_false, Nat.add_left_cancel_iff, Nat.add_eq_left, Nat.left_eq_add, Nat.one_ne_zero, Nat.reduceAdd, Nat.reduceLT, Nat.reduceLeDiff, Nat.reduceEqDiff, true_implies, false_implies, implies_true, Option.some.injEq, forall_eq', forall_eq, reduceCtorEq, brT, brF, br_s, i_10, i_01, ib_0_2, ib_1_2, tn_0, tn_1, Int32.le_refl, eq_self, rv_bN, rv_iM, RCX 0, RCG 2, RCT 4, RCT 15, RCT 25, RCS 35, RCS 49, RCH 63, RCP 67, RCB 72, RCR 77, RCM 81, RLY, lit_at hw, RCT P, hT', e4, Int32.le_refl]
      exact hQ
    · refine b17_7a ?_
      simp only [↓br_pos, ↓br_neg, ↓rF_I, ↓rF_L, ↓rF_R, ↓rF_N, rO_m, rB_m, ↓rI_m, wI_m, ↓rB2_m, ↓rB3_m, wB2_m, wB3_m, ↓rL_m, wL_m, ↓rQ_m, wQ_m, ↓lI_m, pI_m, pL_m, pR_m, sI_m, sBy_m, sBo_m, sL_m, sQ_m, fst_m, true_and, and_true, tg_some, ln_some, uI_1, uI_2, uL_1, uL_2, uL_3, uQ_1, uQ_2, uQ_3, rv_i, rv_l, rv_n, rv_b0, rv_b1, RMR, ne_eq, reduceCtorEq, not_false_eq_true, Option.getD_some, if_true, if_false, and_self, false_and, and_false, Nat.add_left_cancel_iff, Nat.add_eq_left, Nat.left_eq_add, Nat.one_ne_zero, Nat.reduceAdd, Nat.reduceLT, Nat.reduceLeDiff, Nat.reduceEqDiff, true_implies, false_implies, implies_true, Option.some.injEq, forall_eq', forall_eq, reduceCtorEq, brT, brF, br_s, i_10, i_01, ib_0_2, ib_1_2, tn_0, tn_1, Int32.le_refl, eq_self, rv_bN, rv_iM, RCX 0, RCG 2, RCT 4, RCT 15, RCT 25, RCS 35, RCS 49, RCH 63, RCP 67, RCB 72, RCR 77, RCM 81, RLY, lit_at hw, RCT P, hT', e4, Int32.le_refl]
      exact hQ
  | succ r ih =>
    intro s n σ b hs hE hI
    have hE' := hE
    obtain ⟨hw, hP, hτ, hv, hρ, hr⟩ := hE
    have hT' := isTP hw hP
    simp only [isT] at hT'
    have v2 := hv.2.2.1
    have hs' : s < τ 2 := by omega
    have e4 : σ.1 P 4 = Int32.ofNat (τ 2) := hτ.2.2.2.1
    have l1 : (Int32.ofNat (τ 2) ≤ Int32.ofNat s) ↔ False := iff_false_intro (fun q => absurd ((on_le (by omega) (by omega)).mp q) (by omega))
    have eb : inB (Int32.ofNat s) 8 = true := on_inB (by omega) (by omega)
    have en := on_nat (i := s) (by omega)
    have es : σ.1 42 s = Int32.ofNat (ρ (43 + s)) - 1 := tS_sa hρ hs'
    have oi := open_iff hr hs'
    obtain ⟨i1, i2, i3, i4⟩ := hI
    by_cases z : ρ (43 + s) = 0
    · have oi' := iff_true_intro (oi.mpr z)
      obtain ⟨σ1, k1, g1, g2, g3, g4, g5⟩ := in_17 (w := w) (P := P) (τ := τ) (ρ := ρ) hs' i2 (fun i hi => (i3 i hi).2.1) n σ (Nat.le_refl _) hE' i1 (fun i hi => (i3 i hi).1) (fun i h1 h2 => by omega)
      obtain ⟨σ2, n2, b2, f2, I2, e2⟩ := ih (s + 1) (n + 1) σ1 (fun i => if i < k1 then b i else if i = k1 then s else b (i - 1)) (by omega) (loE_fr hE' g2) ⟨g3, by omega, fun i hi => ⟨g4 i (by omega), by
          show (if i < k1 then b i else if i = k1 then s else b (i - 1)) < s + 1 ∧ ρ (43 + (if i < k1 then b i else if i = k1 then s else b (i - 1))) = 0
          by_cases c : i < k1
          · rw [if_pos c]; have := i3 i (by omega); exact ⟨by omega, this.2.2⟩
          · rw [if_neg c]
            by_cases c2 : i = k1
            · rw [if_pos c2]; exact ⟨by omega, z⟩
            · rw [if_neg c2]; have := i3 (i - 1) (by omega); exact ⟨by omega, this.2.2⟩⟩, fun g => by
          rw [opS_s, if_pos z, ← i4 g, ← sm_ins (f := fun i => g (b i)) (a := k1) (x := g s) n g1]
          refine sm_eq (fun i hi => ?_)
          show g (if i < k1 then b i else if i = k1 then s else b (i - 1)) = _
          by_cases c : i < k1
          · rw [if_pos c, if_pos c]
          · rw [if_neg c, if_neg c]
            by_cases c2 : i = k1
            · rw [if_pos c2, if_pos c2]
            · rw [if_neg c2, if_neg c2]⟩
      refine ⟨σ2, n2, b2, frR_tr g2 f2, I2, fun {Q d} x hx hQ => ?_⟩
      have nx := g5 (d := d) (e2 (.int (Int32.ofNat k1)) (Or.inr ⟨_, rfl⟩) hQ)
      rcases hx with rfl | ⟨u, rfl⟩
      · refine b17_7 ?_
        simp only [↓br_pos, ↓br_neg, ↓rF_I, ↓rF_L, ↓rF_R, ↓rF_N, rO_m, rB_m, ↓rI_m, wI_m, ↓rB2_m, ↓rB3_m, wB2_m, wB3_m, ↓rL_m, wL_m, ↓rQ_m, wQ_m, ↓lI_m, pI_m, pL_m, pR_m, sI_m, sBy_m, sBo_m, sL_m, sQ_m, fst_m, true_and, and_true, tg_some, ln_some, uI_1, uI_2, uL_1, uL_2, uL_3, uQ_1, uQ_2, uQ_3, rv_i, rv_l, rv_n, rv_b0, rv_b1, RMR, ne_eq, reduceCtorEq, not_false_eq_true, Option.getD_some, if_true, if_false, and_self, false_and, and_false, Nat.add_left_cancel_iff, Nat.add_eq_left, Nat.left_eq_add, Nat.one_ne_zero, Nat.reduceAdd, Nat.reduceLT, Nat.reduceLeDiff, Nat.reduceEqDiff, true_implies, false_implies, implies_true, Option.some.injEq, forall_eq', forall_eq, reduceCtorEq, brT, brF, br_s, i_10, i_01, ib_0_2, ib_1_2, tn_0, tn_1, Int32.le_refl, eq_self, rv_bN, rv_iM, RCX 0, RCG 2, RCT 4, RCT 15, RCT 25, RCS 35, RCS 49, RCH 63, RCP 67, RCB 72, RCR 77, RCM 81, RLY, lit_at hw, RCT P, hT', e4, l1, eb, en, es, oi', i1]
        exact nx
      · refine b17_7a ?_
        simp only [↓br_pos, ↓br_neg, ↓rF_I, ↓rF_L, ↓rF_R, ↓rF_N, rO_m, rB_m, ↓rI_m, wI_m, ↓rB2_m, ↓rB3_m, wB2_m, wB3_m, ↓rL_m, wL_m, ↓rQ_m, wQ_m, ↓lI_m, pI_m, pL_m, pR_m, sI_m, sBy_m, sBo_m, sL_m, sQ_m, fst_m, true_and, and_true, tg_some, ln_some, uI_1, uI_2, uL_1, uL_2, uL_3, uQ_1, uQ_2, uQ_3, rv_i, rv_l, rv_n, rv_b0, rv_b1, RMR, ne_eq, reduceCtorEq, not_false_eq_true, Option.getD_some, if_true, if_false, and_self, false_and, and_false, Nat.add_left_cancel_iff, Nat.add_eq_left, Nat.left_eq_add, Nat.one_ne_zero, Nat.reduceAdd, Nat.reduceLT, Nat.reduceLeDiff, Nat.reduceEqDiff, true_implies, false_implies, implies_true, Option.some.injEq, forall_eq', forall_eq, reduceCtorEq, brT, brF, br_s, i_10, i_01, ib_0_2, ib_1_2, tn_0, tn_1, Int32.le_refl, eq_self, rv_bN, rv_iM, RCX 0, RCG 2, RCT 4, RCT 15, RCT 25, RCS 35, RCS 49, RCH 63, RCP 67, RCB 72, RCR 77, RCM 81, RLY, lit_at hw, RCT P, hT', e4, l1, eb, en, es, oi', i1]
        exact nx
    · have oi' := iff_false_intro (fun q => z (oi.mp q))
      obtain ⟨σ2, n2, b2, f2, I2, e2⟩ := ih (s + 1) n σ b (by omega) hE' ⟨i1, by omega, fun i hi => ⟨(i3 i hi).1, by have := (i3 i hi).2.1; omega, (i3 i hi).2.2⟩, fun g => by rw [opS_s, if_neg z, i4 g]; rfl⟩
      refine ⟨σ2, n2, b2, f2, I2, fun {Q d} x hx hQ => ?_⟩
      rcases hx with rfl | ⟨u, rfl⟩
      · refine b17_7 ?_
        simp only [↓br_pos, ↓br_neg, ↓rF_I, ↓rF_L, ↓rF_R, ↓rF_N, rO_m, rB_m, ↓rI_m, wI_m, ↓rB2_m, ↓rB3_m, wB2_m, wB3_m, ↓rL_m, wL_m, ↓rQ_m, wQ_m, ↓lI_m, pI_m, pL_m, pR_m, sI_m, sBy_m, sBo_m, sL_m, sQ_m, fst_m, true_and, and_true, tg_some, ln_some, uI_1, uI_2, uL_1, uL_2, uL_3, uQ_1, uQ_2, uQ_3, rv_i, rv_l, rv_n, rv_b0, rv_b1, RMR, ne_eq, reduceCtorEq, not_false_eq_true, Option.getD_some, if_true, if_false, and_self, false_and, and_false, Nat.add_left_cancel_iff, Nat.add_eq_left, Nat.left_eq_add, Nat.one_ne_zero, Nat.reduceAdd, Nat.reduceLT, Nat.reduceLeDiff, Nat.reduceEqDiff, true_implies, false_implies, implies_true, Option.some.injEq, forall_eq', forall_eq, reduceCtorEq, brT, brF, br_s, i_10, i_01, ib_0_2, ib_1_2, tn_0, tn_1, Int32.le_refl, eq_self, rv_bN, rv_iM, RCX 0, RCG 2, RCT 4, RCT 15, RCT 25, RCS 35, RCS 49, RCH 63, RCP 67, RCB 72, RCR 77, RCM 81, RLY, lit_at hw, RCT P, hT', e4, l1, eb, en, es, oi', on_succ]
        exact e2 jk (Or.inl rfl) hQ
      · refine b17_7a ?_
        simp only [↓br_pos, ↓br_neg, ↓rF_I, ↓rF_L, ↓rF_R, ↓rF_N, rO_m, rB_m, ↓rI_m, wI_m, ↓rB2_m, ↓rB3_m, wB2_m, wB3_m, ↓rL_m, wL_m, ↓rQ_m, wQ_m, ↓lI_m, pI_m, pL_m, pR_m, sI_m, sBy_m, sBo_m, sL_m, sQ_m, fst_m, true_and, and_true, tg_some, ln_some, uI_1, uI_2, uL_1, uL_2, uL_3, uQ_1, uQ_2, uQ_3, rv_i, rv_l, rv_n, rv_b0, rv_b1, RMR, ne_eq, reduceCtorEq, not_false_eq_true, Option.getD_some, if_true, if_false, and_self, false_and, and_false, Nat.add_left_cancel_iff, Nat.add_eq_left, Nat.left_eq_add, Nat.one_ne_zero, Nat.reduceAdd, Nat.reduceLT, Nat.reduceLeDiff, Nat.reduceEqDiff, true_implies, false_implies, implies_true, Option.some.injEq, forall_eq', forall_eq, reduceCtorEq, brT, brF, br_s, i_10, i_01, ib_0_2, ib_1_2, tn_0, tn_1, Int32.le_refl, eq_self, rv_bN, rv_iM, RCX 0, RCG 2, RCT 4, RCT 15, RCT 25, RCS 35, RCS 49, RCH 63, RCP 67, RCB 72, RCR 77, RCM 81, RLY, lit_at hw, RCT P, hT', e4, l1, eb, en, es, oi', on_succ]
        exact e2 (.int u) (Or.inr ⟨_, rfl⟩) hQ
theorem s_17 {w : mT} {σ : mS} {P : Nat} {τ ρ : Rw} (hE : loE w σ P τ ρ) : ∃ σ' n b, frR 67 72 σ σ' ∧ loI σ' ρ (τ 2) n b ∧ ∀ {D : Nat} {K : Hp → Prop}, 1 ≤ D → (wpV D 17 [.ref 67, .ref P, .ref 35] (mW w σ) K ↔ K (mW w σ')) := by
  have f1 : frR 67 72 σ (uI σ 67 0 0) := frR_I (by omega)
  obtain ⟨σ2, n2, b2, f2, I2, e2⟩ := lp_17 (w := w) (P := P) (τ := τ) (ρ := ρ) (τ 2) 0 0 (uI σ 67 0 0) (fun _ => 0) (by omega) (loE_fr hE f1) ⟨by rw [uI_1, if_pos ⟨rfl, rfl⟩]; rfl, Nat.le_refl _, fun i hi => by omega, fun g => rfl⟩
  refine ⟨σ2, n2, b2, frR_tr f1 f2, I2, fun hD => cV_of (m := 0) (fun d hd Q hQ => ?_) rfl hD⟩
  have hw := hE.1
  refine b17_0 ?_
  simp only [↓br_pos, ↓br_neg, ↓rF_I, ↓rF_L, ↓rF_R, ↓rF_N, rO_m, rB_m, ↓rI_m, wI_m, ↓rB2_m, ↓rB3_m, wB2_m, wB3_m, ↓rL_m, wL_m, ↓rQ_m, wQ_m, ↓lI_m, pI_m, pL_m, pR_m, sI_m, sBy_m, sBo_m, sL_m, sQ_m, fst_m, true_and, and_true, tg_some, ln_some, uI_1, uI_2, uL_1, uL_2, uL_3, uQ_1, uQ_2, uQ_3, rv_i, rv_l, rv_n, rv_b0, rv_b1, RMR, ne_eq, reduceCtorEq, not_false_eq_true, Option.getD_some, if_true, if_false, and_self, false_and, and_false, Nat.add_left_cancel_iff, Nat.add_eq_left, Nat.left_eq_add, Nat.one_ne_zero, Nat.reduceAdd, Nat.reduceLT, Nat.reduceLeDiff, Nat.reduceEqDiff, true_implies, false_implies, implies_true, Option.some.injEq, forall_eq', forall_eq, reduceCtorEq, brT, brF, br_s, i_10, i_01, ib_0_2, ib_1_2, tn_0, tn_1, Int32.le_refl, eq_self, rv_bN, rv_iM, RCX 0, RCG 2, RCT 4, RCT 15, RCT 25, RCS 35, RCS 49, RCH 63, RCP 67, RCB 72, RCR 77, RCM 81, RLY, lit_at hw]
  exact e2 jk (Or.inl rfl) hQ
end
section
/-! a call, by what it may do -/
theorem sI_of {m D k : Nat} {as : List Value} {hp : Hp} {K : Int32 → Hp → Prop} (hx : ∀ d, m ≤ d → ∀ Q : Option (Option Value) → Hp → Prop, (∀ x h, K x h → Q (some (some (.int x))) h) → Wp k 0 (enL as (ML k)) [] hp Q d) (hb : Nat.ble (enF as).length (ML k) = true) (hD : m + 1 ≤ D) : wpI D k as hp K := by
  obtain ⟨d, rfl⟩ : ∃ d, D = d + 1 := ⟨D - 1, by omega⟩
  exact ⟨d, rfl, hb, hx d (by omega) _ (fun x h q => ⟨x, rfl, q⟩)⟩
theorem sL_of {m D k : Nat} {as : List Value} {hp : Hp} {K : Int64 → Hp → Prop} (hx : ∀ d, m ≤ d → ∀ Q : Option (Option Value) → Hp → Prop, (∀ x h, K x h → Q (some (some (.long x))) h) → Wp k 0 (enL as (ML k)) [] hp Q d) (hb : Nat.ble (enF as).length (ML k) = true) (hD : m + 1 ≤ D) : wpL D k as hp K := by
  obtain ⟨d, rfl⟩ : ∃ d, D = d + 1 := ⟨D - 1, by omega⟩
  exact ⟨d, rfl, hb, hx d (by omega) _ (fun x h q => ⟨x, rfl, q⟩)⟩
theorem sV_of {m D k : Nat} {as : List Value} {hp : Hp} {K : Hp → Prop} (hx : ∀ d, m ≤ d → ∀ Q : Option (Option Value) → Hp → Prop, (∀ h, K h → Q (some none) h) → Wp k 0 (enL as (ML k)) [] hp Q d) (hb : Nat.ble (enF as).length (ML k) = true) (hD : m + 1 ≤ D) : wpV D k as hp K := by
  obtain ⟨d, rfl⟩ : ∃ d, D = d + 1 := ⟨D - 1, by omega⟩
  exact ⟨d, rfl, hb, hx d (by omega) _ (fun h q => ⟨rfl, q⟩)⟩
theorem br2 {c A B : Prop} (a : A) (b : B) : br c A B := ⟨fun _ => a, fun _ => b⟩
/-! Loading: the longest, the order, the plan -/
theorem l77 {w : mT} {σ : mS} {P c l i s : Nat} {τ ρ : Rw} {f g : Int32} {Q : Option (Option Value) → Hp → Prop} {d : Nat} (hw : lit w) (hs : s < 8) (h1 : ∀ f g : Int32, Wp 18 10 [.ref 67, .ref P, .int (Int32.ofNat c), .int (Int32.ofNat l), .int (Int32.ofNat (i + 1)), .int (Int32.ofNat s), .int f, .int g] [] (mW w σ) Q d) (h2 : ∀ f g : Int32, Wp 18 10 [.ref 67, .ref P, .int (Int32.ofNat c), .int (Int32.ofNat s), .int (Int32.ofNat (i + 1)), .int (Int32.ofNat s), .int f, .int g] [] (mW w σ) Q d) : Wp 18 77 [.ref 67, .ref P, .int (Int32.ofNat c), .int (Int32.ofNat l), .int (Int32.ofNat i), .int (Int32.ofNat s), .int f, .int g] [] (mW w σ) Q d := by
  have eb : inB (Int32.ofNat s) 8 = true := on_inB (by omega) (by omega)
  have en := on_nat (i := s) (by omega)
  refine b18_77 ?_
  simp only [↓rF_I, ↓rF_L, ↓rF_R, ↓rF_N, rO_m, rB_m, ↓rI_m, wI_m, ↓rB2_m, ↓rB3_m, wB2_m, wB3_m, ↓rL_m, wL_m, ↓rQ_m, wQ_m, ↓lI_m, pI_m, pL_m, pR_m, sI_m, sBy_m, sBo_m, sL_m, sQ_m, fst_m, true_and, and_true, tg_some, ln_some, uI_1, uI_2, uL_1, uL_2, uL_3, uQ_1, uQ_2, uQ_3, rv_i, rv_l, rv_n, rv_b0, rv_b1, RMR, ne_eq, reduceCtorEq, not_false_eq_true, Option.getD_some, if_true, if_false, and_self, false_and, and_false, Nat.add_left_cancel_iff, Nat.add_eq_left, Nat.left_eq_add, Nat.one_ne_zero, Nat.reduceAdd, Nat.reduceLT, Nat.reduceLeDiff, Nat.reduceEqDiff, true_implies, false_implies, implies_true, Option.some.injEq, forall_eq', forall_eq, reduceCtorEq, brT, brF, br_s, i_10, i_01, ib_0_2, ib_1_2, tn_0, tn_1, Int32.le_refl, eq_self, rv_bN, rv_iM, RCX 0, RCG 2, RCT 4, RCT 15, RCT 25, RCS 35, RCS 49, RCH 63, RCP 67, RCB 72, RCR 77, RCM 81, RLY, lit_at hw, eb, en, on_succ]
  exact br2 (h1 _ _) (br2 (br2 (h1 _ _) (h2 _ _)) (h2 _ _))
theorem lp_18 {w : mT} {σ : mS} {P c n d : Nat} {τ ρ : Rw} {b : Nat → Nat} {Q : Option (Option Value) → Hp → Prop} (hE : loE w σ P τ ρ) (hI : loI σ ρ (τ 2) n b) (hc : c < n) (hQ : ∀ l, l < τ 2 → Q (some (some (.int (Int32.ofNat l)))) (mW w σ)) : ∀ (r i l : Nat) (x5 x6 x7 : Value), i + r = c → l < τ 2 → (x5 = jk ∧ x6 = jk ∧ x7 = jk ∨ ∃ u v z : Int32, x5 = .int u ∧ x6 = .int v ∧ x7 = .int z) → Wp 18 10 [.ref 67, .ref P, .int (Int32.ofNat c), .int (Int32.ofNat l), .int (Int32.ofNat i), x5, x6, x7] [] (mW w σ) Q d := by
  obtain ⟨hw, hP, hτ, hv, hρ, hr⟩ := hE
  have hT' := isTP hw hP
  simp only [isT] at hT'
  have v2 := hv.2.2.1
  obtain ⟨i1, i2, i3, i4⟩ := hI
  intro r
  induction r with
  | zero =>
    intro i l x5 x6 x7 hi hl hx
    have hi' : i = c := by omega
    subst hi'
    rcases hx with ⟨rfl, rfl, rfl⟩ | ⟨u, v, z, rfl, rfl, rfl⟩
    · refine b18_10 ?_
      simp only [↓br_pos, ↓br_neg, ↓rF_I, ↓rF_L, ↓rF_R, ↓rF_N, rO_m, rB_m, ↓rI_m, wI_m, ↓rB2_m, ↓rB3_m, wB2_m, wB3_m, ↓rL_m, wL_m, ↓rQ_m, wQ_m, ↓lI_m, pI_m, pL_m, pR_m, sI_m, sBy_m, sBo_m, sL_m, sQ_m, fst_m, true_and, and_true, tg_some, ln_some, uI_1, uI_2, uL_1, uL_2, uL_3, uQ_1, uQ_2, uQ_3, rv_i, rv_l, rv_n, rv_b0, rv_b1, RMR, ne_eq, reduceCtorEq, not_false_eq_true, Option.getD_some, if_true, if_false, and_self, false_and, and_false, Nat.add_left_cancel_iff, Nat.add_eq_left, Nat.left_eq_add, Nat.one_ne_zero, Nat.reduceAdd, Nat.reduceLT, Nat.reduceLeDiff, Nat.reduceEqDiff, true_implies, false_implies, implies_true, Option.some.injEq, forall_eq', forall_eq, reduceCtorEq, brT, brF, br_s, i_10, i_01, ib_0_2, ib_1_2, tn_0, tn_1, Int32.le_refl, eq_self, rv_bN, rv_iM, Int32.le_refl]
      exact hQ l hl
    · refine b18_10a ?_
      simp only [↓br_pos, ↓br_neg, ↓rF_I, ↓rF_L, ↓rF_R, ↓rF_N, rO_m, rB_m, ↓rI_m, wI_m, ↓rB2_m, ↓rB3_m, wB2_m, wB3_m, ↓rL_m, wL_m, ↓rQ_m, wQ_m, ↓lI_m, pI_m, pL_m, pR_m, sI_m, sBy_m, sBo_m, sL_m, sQ_m, fst_m, true_and, and_true, tg_some, ln_some, uI_1, uI_2, uL_1, uL_2, uL_3, uQ_1, uQ_2, uQ_3, rv_i, rv_l, rv_n, rv_b0, rv_b1, RMR, ne_eq, reduceCtorEq, not_false_eq_true, Option.getD_some, if_true, if_false, and_self, false_and, and_false, Nat.add_left_cancel_iff, Nat.add_eq_left, Nat.left_eq_add, Nat.one_ne_zero, Nat.reduceAdd, Nat.reduceLT, Nat.reduceLeDiff, Nat.reduceEqDiff, true_implies, false_implies, implies_true, Option.some.injEq, forall_eq', forall_eq, reduceCtorEq, brT, brF, br_s, i_10, i_01, ib_0_2, ib_1_2, tn_0, tn_1, Int32.le_refl, eq_self, rv_bN, rv_iM, Int32.le_refl]
      exact hQ l hl
  | succ r ih =>
    intro i l x5 x6 x7 hi hl hx
    have m1 := i3 i (by omega)
    have l1 : (Int32.ofNat c ≤ Int32.ofNat i) ↔ False := iff_false_intro (fun q => absurd ((on_le (by omega) (by omega)).mp q) (by omega))
    have eb : inB (Int32.ofNat i) 8 = true := on_inB (by omega) (by omega)
    have en := on_nat (i := i) (by omega)
    have ebs : inB (Int32.ofNat (b i)) 8 = true := on_inB (by omega) (by omega)
    have ens := on_nat (i := b i) (by omega)
    have ebl : inB (Int32.ofNat l) 8 = true := on_inB (by omega) (by omega)
    have enl := on_nat (i := l) (by omega)
    rcases hx with ⟨rfl, rfl, rfl⟩ | ⟨u, v, z, rfl, rfl, rfl⟩
    · skip
      refine b18_10 ?_
      simp only [↓rF_I, ↓rF_L, ↓rF_R, ↓rF_N, rO_m, rB_m, ↓rI_m, wI_m, ↓rB2_m, ↓rB3_m, wB2_m, wB3_m, ↓rL_m, wL_m, ↓rQ_m, wQ_m, ↓lI_m, pI_m, pL_m, pR_m, sI_m, sBy_m, sBo_m, sL_m, sQ_m, fst_m, true_and, and_true, tg_some, ln_some, uI_1, uI_2, uL_1, uL_2, uL_3, uQ_1, uQ_2, uQ_3, rv_i, rv_l, rv_n, rv_b0, rv_b1, RMR, ne_eq, reduceCtorEq, not_false_eq_true, Option.getD_some, if_true, if_false, and_self, false_and, and_false, Nat.add_left_cancel_iff, Nat.add_eq_left, Nat.left_eq_add, Nat.one_ne_zero, Nat.reduceAdd, Nat.reduceLT, Nat.reduceLeDiff, Nat.reduceEqDiff, true_implies, false_implies, implies_true, Option.some.injEq, forall_eq', forall_eq, reduceCtorEq, brT, brF, br_s, i_10, i_01, ib_0_2, ib_1_2, tn_0, tn_1, Int32.le_refl, eq_self, rv_bN, rv_iM, RCX 0, RCG 2, RCT 4, RCT 15, RCT 25, RCS 35, RCS 49, RCH 63, RCP 67, RCB 72, RCR 77, RCM 81, RLY, lit_at hw, RCT P, hT', l1, eb, en, m1.1, ebs, ens, ebl, enl]
      have q : ∀ f g : Int32, Wp 18 77 [.ref 67, .ref P, .int (Int32.ofNat c), .int (Int32.ofNat l), .int (Int32.ofNat i), .int (Int32.ofNat (b i)), .int f, .int g] [] (mW w σ) Q d := fun f g => l77 (τ := τ) (ρ := ρ) hw (by omega) (fun f g => ih (i + 1) l _ _ _ (by omega) hl (Or.inr ⟨_, _, _, rfl, rfl, rfl⟩)) (fun f g => ih (i + 1) (b i) _ _ _ (by omega) m1.2.1 (Or.inr ⟨_, _, _, rfl, rfl, rfl⟩))
      exact br2 (br2 (br2 (q _ _) (q _ _)) (q _ _)) (br2 (br2 (q _ _) (q _ _)) (q _ _))
    · skip
      refine b18_10a ?_
      simp only [↓rF_I, ↓rF_L, ↓rF_R, ↓rF_N, rO_m, rB_m, ↓rI_m, wI_m, ↓rB2_m, ↓rB3_m, wB2_m, wB3_m, ↓rL_m, wL_m, ↓rQ_m, wQ_m, ↓lI_m, pI_m, pL_m, pR_m, sI_m, sBy_m, sBo_m, sL_m, sQ_m, fst_m, true_and, and_true, tg_some, ln_some, uI_1, uI_2, uL_1, uL_2, uL_3, uQ_1, uQ_2, uQ_3, rv_i, rv_l, rv_n, rv_b0, rv_b1, RMR, ne_eq, reduceCtorEq, not_false_eq_true, Option.getD_some, if_true, if_false, and_self, false_and, and_false, Nat.add_left_cancel_iff, Nat.add_eq_left, Nat.left_eq_add, Nat.one_ne_zero, Nat.reduceAdd, Nat.reduceLT, Nat.reduceLeDiff, Nat.reduceEqDiff, true_implies, false_implies, implies_true, Option.some.injEq, forall_eq', forall_eq, reduceCtorEq, brT, brF, br_s, i_10, i_01, ib_0_2, ib_1_2, tn_0, tn_1, Int32.le_refl, eq_self, rv_bN, rv_iM, RCX 0, RCG 2, RCT 4, RCT 15, RCT 25, RCS 35, RCS 49, RCH 63, RCP 67, RCB 72, RCR 77, RCM 81, RLY, lit_at hw, RCT P, hT', l1, eb, en, m1.1, ebs, ens, ebl, enl]
      have q : ∀ f g : Int32, Wp 18 77 [.ref 67, .ref P, .int (Int32.ofNat c), .int (Int32.ofNat l), .int (Int32.ofNat i), .int (Int32.ofNat (b i)), .int f, .int g] [] (mW w σ) Q d := fun f g => l77 (τ := τ) (ρ := ρ) hw (by omega) (fun f g => ih (i + 1) l _ _ _ (by omega) hl (Or.inr ⟨_, _, _, rfl, rfl, rfl⟩)) (fun f g => ih (i + 1) (b i) _ _ _ (by omega) m1.2.1 (Or.inr ⟨_, _, _, rfl, rfl, rfl⟩))
      exact br2 (br2 (br2 (q _ _) (q _ _)) (q _ _)) (br2 (br2 (q _ _) (q _ _)) (q _ _))
theorem s_18 {w : mT} {σ : mS} {P c n D : Nat} {τ ρ : Rw} {b : Nat → Nat} {K : Int32 → Hp → Prop} (hE : loE w σ P τ ρ) (hI : loI σ ρ (τ 2) n b) (hc : c < n) (hK : ∀ l, l < τ 2 → K (Int32.ofNat l) (mW w σ)) (hD : 1 ≤ D) : wpI D 18 [.ref 67, .ref P, .int (Int32.ofNat c)] (mW w σ) K := by
  refine sI_of (m := 0) (fun d hd Q hQ => ?_) rfl hD
  have hw := hE.1
  have v2 := hE.2.2.2.1.2.2.1
  have m1 := hI.2.2.1 c hc
  have n8 := hI.2.1
  have eb : inB (Int32.ofNat c) 8 = true := on_inB (by omega) (by omega)
  have en := on_nat (i := c) (by omega)
  refine b18_0 ?_
  simp only [↓rF_I, ↓rF_L, ↓rF_R, ↓rF_N, rO_m, rB_m, ↓rI_m, wI_m, ↓rB2_m, ↓rB3_m, wB2_m, wB3_m, ↓rL_m, wL_m, ↓rQ_m, wQ_m, ↓lI_m, pI_m, pL_m, pR_m, sI_m, sBy_m, sBo_m, sL_m, sQ_m, fst_m, true_and, and_true, tg_some, ln_some, uI_1, uI_2, uL_1, uL_2, uL_3, uQ_1, uQ_2, uQ_3, rv_i, rv_l, rv_n, rv_b0, rv_b1, RMR, ne_eq, reduceCtorEq, not_false_eq_true, Option.getD_some, if_true, if_false, and_self, false_and, and_false, Nat.add_left_cancel_iff, Nat.add_eq_left, Nat.left_eq_add, Nat.one_ne_zero, Nat.reduceAdd, Nat.reduceLT, Nat.reduceLeDiff, Nat.reduceEqDiff, true_implies, false_implies, implies_true, Option.some.injEq, forall_eq', forall_eq, reduceCtorEq, brT, brF, br_s, i_10, i_01, ib_0_2, ib_1_2, tn_0, tn_1, Int32.le_refl, eq_self, rv_bN, rv_iM, RCX 0, RCG 2, RCT 4, RCT 15, RCT 25, RCS 35, RCS 49, RCH 63, RCP 67, RCB 72, RCR 77, RCM 81, RLY, lit_at hw, eb, en, m1.1]
  exact lp_18 hE hI hc (fun l hl => hQ _ _ (hK l hl)) c 0 (b c) jk jk jk (by omega) m1.2.1 (Or.inl ⟨rfl, rfl, rfl⟩)
def inT (σ : mS) (s : Nat) : Nat := if σ.1 71 s = 0 then 0 else 1
def inN (σ : mS) (s : Nat) : Nat := if σ.1 71 s = 0 then 1 else 0
theorem inT_1 {σ : mS} {s : Nat} : inT σ s + inN σ s = 1 := by
  unfold inT inN; split <;> rfl
theorem sm_1 : ∀ {n : Nat}, sm n (fun _ => 1) = n := by
  intro n
  induction n with
  | zero => rfl
  | succ n ih => rw [sm_s, ih]
theorem lo_all {σ σ0 : mS} {ρ : Rw} {m n : Nat} {b : Nat → Nat} (hI : loI σ0 ρ m n b) : sm n (fun i => inT σ (b i)) + sm m (opS ρ (inN σ)) = n := by
  have e := hI.2.2.2
  rw [e (inT σ), ← sm_add]
  have h1 := e (fun _ => 1)
  rw [sm_1] at h1
  rw [h1]
  refine sm_eq (fun s _ => ?_)
  unfold opS
  split
  · exact inT_1
  · rfl
theorem loI_fr {σ σ' : mS} {ρ : Rw} {m n : Nat} {b : Nat → Nat} (h : loI σ ρ m n b) (h0 : σ'.1 67 0 = σ.1 67 0) (h1 : σ'.1 70 = σ.1 70) : loI σ' ρ m n b := by
  obtain ⟨a, b', c, d⟩ := h
  exact ⟨by rw [h0]; exact a, b', fun i hi => by rw [h1]; exact c i hi, d⟩
theorem inT_fr {σ σ' : mS} (h : σ'.1 71 = σ.1 71) : inT σ' = inT σ ∧ inN σ' = inN σ := by
  constructor
  · funext s; unfold inT; rw [h]
  · funext s; unfold inN; rw [h]
theorem lpC_19 {w : mT} {σ0 : mS} {P n d : Nat} {τ ρ : Rw} {b : Nat → Nat} {Q : Option (Option Value) → Hp → Prop} (hQ : ∀ σ', frR 67 72 σ0 σ' → σ'.1 67 0 = Int32.ofNat n → Q (some none) (mW w σ')) : ∀ (r i : Nat) (σ : mS) (a y : Int32), i + r = n → frR 67 72 σ0 σ → loE w σ P τ ρ → loI σ ρ (τ 2) n b → (∀ j, j < n → ∃ s, s < 8 ∧ σ.1 68 j = Int32.ofNat s) → Wp 19 112 [.ref 67, .ref P, .ref 35, .int a, .int y, .int (Int32.ofNat i)] [] (mW w σ) Q d := by
  intro r
  induction r with
  | zero =>
    intro i σ a y hi hf hE hI hS
    obtain ⟨hw, hP, hτ, hv, hρ, hr⟩ := hE
    have hi' : i = n := by omega
    subst hi'
    refine b19_112 ?_
    simp only [↓br_pos, ↓br_neg, ↓rF_I, ↓rF_L, ↓rF_R, ↓rF_N, rO_m, rB_m, ↓rI_m, wI_m, ↓rB2_m, ↓rB3_m, wB2_m, wB3_m, ↓rL_m, wL_m, ↓rQ_m, wQ_m, ↓lI_m, pI_m, pL_m, pR_m, sI_m, sBy_m, sBo_m, sL_m, sQ_m, fst_m, true_and, and_true, tg_some, ln_some, uI_1, uI_2, uL_1, uL_2, uL_3, uQ_1, uQ_2, uQ_3, rv_i, rv_l, rv_n, rv_b0, rv_b1, RMR, ne_eq, reduceCtorEq, not_false_eq_true, Option.getD_some, if_true, if_false, and_self, false_and, and_false, Nat.add_left_cancel_iff, Nat.add_eq_left, Nat.left_eq_add, Nat.one_ne_zero, Nat.reduceAdd, Nat.reduceLT, Nat.reduceLeDiff, Nat.reduceEqDiff, true_implies, false_implies, implies_true, Option.some.injEq, forall_eq', forall_eq, reduceCtorEq, brT, brF, br_s, i_10, i_01, ib_0_2, ib_1_2, tn_0, tn_1, Int32.le_refl, eq_self, rv_bN, rv_iM, RCX 0, RCG 2, RCT 4, RCT 15, RCT 25, RCS 35, RCS 49, RCH 63, RCP 67, RCB 72, RCR 77, RCM 81, RLY, lit_at hw, hI.1, Int32.le_refl]
    exact hQ σ hf hI.1
  | succ r ih =>
    intro i σ a y hi hf hE hI hS
    have hE' := hE
    obtain ⟨hw, hP, hτ, hv, hρ, hr⟩ := hE
    have hT' := isTP hw hP
    simp only [isT] at hT'
    have v2 := hv.2.2.1
    have n8 := hI.2.1
    have l1 : (Int32.ofNat n ≤ Int32.ofNat i) ↔ False := iff_false_intro (fun q => absurd ((on_le (by omega) (by omega)).mp q) (by omega))
    have eb : inB (Int32.ofNat i) 8 = true := on_inB (by omega) (by omega)
    have en := on_nat (i := i) (by omega)
    obtain ⟨s, hs, es⟩ := hS i (by omega)
    have ebs : inB (Int32.ofNat s) 8 = true := on_inB (by omega) (by omega)
    have ens := on_nat (i := s) (by omega)
    have nx := fun v : Int32 => ih (i + 1) (uI σ 69 s v) a v (by omega) (frR_tr hf (frR_I (by omega))) (loE_fr hE' (frR_I (by omega))) (loI_fr hI (by rw [uI_1, if_neg (by omega)]) (funext fun j => by rw [uI_1, if_neg (by omega)])) (fun j hj => by rw [uI_1, if_neg (by omega)]; exact hS j hj)
    refine b19_112 ?_
    simp only [↓br_pos, ↓br_neg, ↓rF_I, ↓rF_L, ↓rF_R, ↓rF_N, rO_m, rB_m, ↓rI_m, wI_m, ↓rB2_m, ↓rB3_m, wB2_m, wB3_m, ↓rL_m, wL_m, ↓rQ_m, wQ_m, ↓lI_m, pI_m, pL_m, pR_m, sI_m, sBy_m, sBo_m, sL_m, sQ_m, fst_m, true_and, and_true, tg_some, ln_some, uI_1, uI_2, uL_1, uL_2, uL_3, uQ_1, uQ_2, uQ_3, rv_i, rv_l, rv_n, rv_b0, rv_b1, RMR, ne_eq, reduceCtorEq, not_false_eq_true, Option.getD_some, if_true, if_false, and_self, false_and, and_false, Nat.add_left_cancel_iff, Nat.add_eq_left, Nat.left_eq_add, Nat.one_ne_zero, Nat.reduceAdd, Nat.reduceLT, Nat.reduceLeDiff, Nat.reduceEqDiff, true_implies, false_implies, implies_true, Option.some.injEq, forall_eq', forall_eq, reduceCtorEq, brT, brF, br_s, i_10, i_01, ib_0_2, ib_1_2, tn_0, tn_1, Int32.le_refl, eq_self, rv_bN, rv_iM, RCX 0, RCG 2, RCT 4, RCT 15, RCT 25, RCS 35, RCS 49, RCH 63, RCP 67, RCB 72, RCR 77, RCM 81, RLY, lit_at hw, RCT P, hT', hI.1, l1, eb, en, es, ebs, ens, on_succ]
    exact nx _
theorem lpB_19 {w : mT} {σ0 : mS} {P n d : Nat} {τ ρ : Rw} {b : Nat → Nat} {Q : Option (Option Value) → Hp → Prop} (hQ : ∀ σ', frR 67 72 σ0 σ' → σ'.1 67 0 = Int32.ofNat n → Q (some none) (mW w σ')) : ∀ (r s : Nat) (σ : mS), s + r = τ 2 → frR 67 72 σ0 σ → loE w σ P τ ρ → loI σ ρ (τ 2) n b → (∀ j, j < sm n (fun i => inT σ (b i)) + sm s (opS ρ (inN σ)) → ∃ s, s < 8 ∧ σ.1 68 j = Int32.ofNat s) → Wp 19 54 [.ref 67, .ref P, .ref 35, .int (Int32.ofNat (sm n (fun i => inT σ (b i)) + sm s (opS ρ (inN σ)))), .int (Int32.ofNat s), jk] [] (mW w σ) Q d := by
  intro r
  induction r with
  | zero =>
    intro s σ hs hf hE hI hS
    have hE' := hE
    obtain ⟨hw, hP, hτ, hv, hρ, hr⟩ := hE
    have hT' := isTP hw hP
    simp only [isT] at hT'
    have hs' : s = τ 2 := by omega
    subst hs'
    have e4 : σ.1 P 4 = Int32.ofNat (τ 2) := hτ.2.2.2.1
    have al := lo_all (σ := σ) hI
    refine b19_54 ?_
    simp only [↓br_pos, ↓br_neg, ↓rF_I, ↓rF_L, ↓rF_R, ↓rF_N, rO_m, rB_m, ↓rI_m, wI_m, ↓rB2_m, ↓rB3_m, wB2_m, wB3_m, ↓rL_m, wL_m, ↓rQ_m, wQ_m, ↓lI_m, pI_m, pL_m, pR_m, sI_m, sBy_m, sBo_m, sL_m, sQ_m, fst_m, true_and, and_true, tg_some, ln_some, uI_1, uI_2, uL_1, uL_2, uL_3, uQ_1, uQ_2, uQ_3, rv_i, rv_l, rv_n, rv_b0, rv_b1, RMR, ne_eq, reduceCtorEq, not_false_eq_true, Option.getD_some, if_true, if_false, and_self, false_and, and_false, Nat.add_left_cancel_iff, Nat.add_eq_left, Nat.left_eq_add, Nat.one_ne_zero, Nat.reduceAdd, Nat.reduceLT, Nat.reduceLeDiff, Nat.reduceEqDiff, true_implies, false_implies, implies_true, Option.some.injEq, forall_eq', forall_eq, reduceCtorEq, brT, brF, br_s, i_10, i_01, ib_0_2, ib_1_2, tn_0, tn_1, Int32.le_refl, eq_self, rv_bN, rv_iM, RCX 0, RCG 2, RCT 4, RCT 15, RCT 25, RCS 35, RCS 49, RCH 63, RCP 67, RCB 72, RCR 77, RCM 81, RLY, lit_at hw, RCT P, hT', e4, Int32.le_refl]
    exact lpC_19 hQ n 0 σ _ _ (by omega) hf hE' hI (fun j hj => hS j (by omega))
  | succ r ih =>
    intro s σ hs hf hE hI hS
    have hE' := hE
    obtain ⟨hw, hP, hτ, hv, hρ, hr⟩ := hE
    have hT' := isTP hw hP
    simp only [isT] at hT'
    have v2 := hv.2.2.1
    have n8 := hI.2.1
    have hs' : s < τ 2 := by omega
    have e4 : σ.1 P 4 = Int32.ofNat (τ 2) := hτ.2.2.2.1
    have l1 : (Int32.ofNat (τ 2) ≤ Int32.ofNat s) ↔ False := iff_false_intro (fun q => absurd ((on_le (by omega) (by omega)).mp q) (by omega))
    have eb : inB (Int32.ofNat s) 8 = true := on_inB (by omega) (by omega)
    have en := on_nat (i := s) (by omega)
    have es : σ.1 42 s = Int32.ofNat (ρ (43 + s)) - 1 := tS_sa hρ hs'
    have oi := open_iff hr hs'
    have al := lo_all (σ := σ) hI
    have am := sm_mono (f := opS ρ (inN σ)) (by omega : s + 1 ≤ τ 2)
    have e1 := opS_s (ρ := ρ) (g := inN σ) (s := s)
    rw [e1] at am
    refine b19_54 ?_
    by_cases z : ρ (43 + s) = 0
    · have oi' := iff_true_intro (oi.mpr z)
      rw [if_pos z] at e1 am
      by_cases y : σ.1 71 s = 0
      · have ey : inN σ s = 1 := if_pos y
        rw [ey] at e1 am
        have ebn : inB (Int32.ofNat (sm n (fun i => inT σ (b i)) + sm s (opS ρ (inN σ)))) 8 = true := on_inB (by omega) (by omega)
        have enn := on_nat (i := sm n (fun i => inT σ (b i)) + sm s (opS ρ (inN σ))) (by omega)
        have f1 : frR 67 72 σ (uI σ 68 (sm n (fun i => inT σ (b i)) + sm s (opS ρ (inN σ))) (Int32.ofNat s)) := frR_I (by omega)
        have q71 : (uI σ 68 (sm n (fun i => inT σ (b i)) + sm s (opS ρ (inN σ))) (Int32.ofNat s)).1 71 = σ.1 71 := funext fun j => by rw [uI_1, if_neg (by omega)]
        have nx := ih (s + 1) (uI σ 68 (sm n (fun i => inT σ (b i)) + sm s (opS ρ (inN σ))) (Int32.ofNat s)) (by omega) (frR_tr hf f1) (loE_fr hE' f1) (loI_fr hI (by rw [uI_1, if_neg (by omega)]) (funext fun j => by rw [uI_1, if_neg (by omega)])) (fun j hj => by
          rw [(inT_fr q71).1, (inT_fr q71).2, e1] at hj
          rw [uI_1]
          by_cases c : j = sm n (fun i => inT σ (b i)) + sm s (opS ρ (inN σ))
          · rw [if_pos ⟨rfl, c⟩]; exact ⟨s, by omega, rfl⟩
          · rw [if_neg (fun q => c q.2)]; exact hS j (by omega))
        rw [(inT_fr q71).1, (inT_fr q71).2, e1, ← Nat.add_assoc] at nx
        simp only [↓br_pos, ↓br_neg, ↓rF_I, ↓rF_L, ↓rF_R, ↓rF_N, rO_m, rB_m, ↓rI_m, wI_m, ↓rB2_m, ↓rB3_m, wB2_m, wB3_m, ↓rL_m, wL_m, ↓rQ_m, wQ_m, ↓lI_m, pI_m, pL_m, pR_m, sI_m, sBy_m, sBo_m, sL_m, sQ_m, fst_m, true_and, and_true, tg_some, ln_some, uI_1, uI_2, uL_1, uL_2, uL_3, uQ_1, uQ_2, uQ_3, rv_i, rv_l, rv_n, rv_b0, rv_b1, RMR, ne_eq, reduceCtorEq, not_false_eq_true, Option.getD_some, if_true, if_false, and_self, false_and, and_false, Nat.add_left_cancel_iff, Nat.add_eq_left, Nat.left_eq_add, Nat.one_ne_zero, Nat.reduceAdd, Nat.reduceLT, Nat.reduceLeDiff, Nat.reduceEqDiff, true_implies, false_implies, implies_true, Option.some.injEq, forall_eq', forall_eq, reduceCtorEq, brT, brF, br_s, i_10, i_01, ib_0_2, ib_1_2, tn_0, tn_1, Int32.le_refl, eq_self, rv_bN, rv_iM, RCX 0, RCG 2, RCT 4, RCT 15, RCT 25, RCS 35, RCS 49, RCH 63, RCP 67, RCB 72, RCR 77, RCM 81, RLY, lit_at hw, RCT P, hT', e4, l1, eb, en, es, oi', y, ebn, enn, on_succ]
        exact nx
      · have ey : inN σ s = 0 := if_neg y
        have nx := ih (s + 1) σ (by omega) hf hE' hI (fun j hj => hS j (by rw [e1, ey] at hj; omega))
        rw [e1, ey, Nat.add_zero] at nx
        simp only [↓br_pos, ↓br_neg, ↓rF_I, ↓rF_L, ↓rF_R, ↓rF_N, rO_m, rB_m, ↓rI_m, wI_m, ↓rB2_m, ↓rB3_m, wB2_m, wB3_m, ↓rL_m, wL_m, ↓rQ_m, wQ_m, ↓lI_m, pI_m, pL_m, pR_m, sI_m, sBy_m, sBo_m, sL_m, sQ_m, fst_m, true_and, and_true, tg_some, ln_some, uI_1, uI_2, uL_1, uL_2, uL_3, uQ_1, uQ_2, uQ_3, rv_i, rv_l, rv_n, rv_b0, rv_b1, RMR, ne_eq, reduceCtorEq, not_false_eq_true, Option.getD_some, if_true, if_false, and_self, false_and, and_false, Nat.add_left_cancel_iff, Nat.add_eq_left, Nat.left_eq_add, Nat.one_ne_zero, Nat.reduceAdd, Nat.reduceLT, Nat.reduceLeDiff, Nat.reduceEqDiff, true_implies, false_implies, implies_true, Option.some.injEq, forall_eq', forall_eq, reduceCtorEq, brT, brF, br_s, i_10, i_01, ib_0_2, ib_1_2, tn_0, tn_1, Int32.le_refl, eq_self, rv_bN, rv_iM, RCX 0, RCG 2, RCT 4, RCT 15, RCT 25, RCS 35, RCS 49, RCH 63, RCP 67, RCB 72, RCR 77, RCM 81, RLY, lit_at hw, RCT P, hT', e4, l1, eb, en, es, oi', y, on_succ]
        exact nx
    · have oi' := iff_false_intro (fun q => z (oi.mp q))
      rw [if_neg z] at e1
      have nx := ih (s + 1) σ (by omega) hf hE' hI (fun j hj => hS j (by rw [e1] at hj; omega))
      rw [e1, Nat.add_zero] at nx
      simp only [↓br_pos, ↓br_neg, ↓rF_I, ↓rF_L, ↓rF_R, ↓rF_N, rO_m, rB_m, ↓rI_m, wI_m, ↓rB2_m, ↓rB3_m, wB2_m, wB3_m, ↓rL_m, wL_m, ↓rQ_m, wQ_m, ↓lI_m, pI_m, pL_m, pR_m, sI_m, sBy_m, sBo_m, sL_m, sQ_m, fst_m, true_and, and_true, tg_some, ln_some, uI_1, uI_2, uL_1, uL_2, uL_3, uQ_1, uQ_2, uQ_3, rv_i, rv_l, rv_n, rv_b0, rv_b1, RMR, ne_eq, reduceCtorEq, not_false_eq_true, Option.getD_some, if_true, if_false, and_self, false_and, and_false, Nat.add_left_cancel_iff, Nat.add_eq_left, Nat.left_eq_add, Nat.one_ne_zero, Nat.reduceAdd, Nat.reduceLT, Nat.reduceLeDiff, Nat.reduceEqDiff, true_implies, false_implies, implies_true, Option.some.injEq, forall_eq', forall_eq, reduceCtorEq, brT, brF, br_s, i_10, i_01, ib_0_2, ib_1_2, tn_0, tn_1, Int32.le_refl, eq_self, rv_bN, rv_iM, RCX 0, RCG 2, RCT 4, RCT 15, RCT 25, RCS 35, RCS 49, RCH 63, RCP 67, RCB 72, RCR 77, RCM 81, RLY, lit_at hw, RCT P, hT', e4, l1, eb, en, es, oi', on_succ]
      exact nx
theorem lpA_19 {w : mT} {σ0 : mS} {P n d : Nat} {τ ρ : Rw} {b : Nat → Nat} {Q : Option (Option Value) → Hp → Prop} (hQ : ∀ σ', frR 67 72 σ0 σ' → σ'.1 67 0 = Int32.ofNat n → Q (some none) (mW w σ')) : ∀ (r i : Nat) (σ : mS), i + r = n → frR 67 72 σ0 σ → loE w σ P τ ρ → loI σ ρ (τ 2) n b → (∀ j, j < sm i (fun i => inT σ (b i)) → ∃ s, s < 8 ∧ σ.1 68 j = Int32.ofNat s) → Wp 19 5 [.ref 67, .ref P, .ref 35, .int (Int32.ofNat (sm i (fun i => inT σ (b i)))), .int (Int32.ofNat i), jk] [] (mW w σ) Q d := by
  intro r
  induction r with
  | zero =>
    intro i σ hi hf hE hI hS
    have hE' := hE
    obtain ⟨hw, hP, hτ, hv, hρ, hr⟩ := hE
    have hi' : i = n := by omega
    subst hi'
    refine b19_5 ?_
    simp only [↓br_pos, ↓br_neg, ↓rF_I, ↓rF_L, ↓rF_R, ↓rF_N, rO_m, rB_m, ↓rI_m, wI_m, ↓rB2_m, ↓rB3_m, wB2_m, wB3_m, ↓rL_m, wL_m, ↓rQ_m, wQ_m, ↓lI_m, pI_m, pL_m, pR_m, sI_m, sBy_m, sBo_m, sL_m, sQ_m, fst_m, true_and, and_true, tg_some, ln_some, uI_1, uI_2, uL_1, uL_2, uL_3, uQ_1, uQ_2, uQ_3, rv_i, rv_l, rv_n, rv_b0, rv_b1, RMR, ne_eq, reduceCtorEq, not_false_eq_true, Option.getD_some, if_true, if_false, and_self, false_and, and_false, Nat.add_left_cancel_iff, Nat.add_eq_left, Nat.left_eq_add, Nat.one_ne_zero, Nat.reduceAdd, Nat.reduceLT, Nat.reduceLeDiff, Nat.reduceEqDiff, true_implies, false_implies, implies_true, Option.some.injEq, forall_eq', forall_eq, reduceCtorEq, brT, brF, br_s, i_10, i_01, ib_0_2, ib_1_2, tn_0, tn_1, Int32.le_refl, eq_self, rv_bN, rv_iM, RCX 0, RCG 2, RCT 4, RCT 15, RCT 25, RCS 35, RCS 49, RCH 63, RCP 67, RCB 72, RCR 77, RCM 81, RLY, lit_at hw, hI.1, Int32.le_refl]
    have nx := lpB_19 (d := d) hQ (τ 2) 0 σ (by omega) hf hE' hI (fun j hj => hS j hj)
    exact nx
  | succ r ih =>
    intro i σ hi hf hE hI hS
    have hE' := hE
    obtain ⟨hw, hP, hτ, hv, hρ, hr⟩ := hE
    have v2 := hv.2.2.1
    have n8 := hI.2.1
    have m1 := hI.2.2.1 i (by omega)
    have l1 : (Int32.ofNat n ≤ Int32.ofNat i) ↔ False := iff_false_intro (fun q => absurd ((on_le (by omega) (by omega)).mp q) (by omega))
    have eb : inB (Int32.ofNat i) 8 = true := on_inB (by omega) (by omega)
    have en := on_nat (i := i) (by omega)
    have ebs : inB (Int32.ofNat (b i)) 8 = true := on_inB (by omega) (by omega)
    have ens := on_nat (i := b i) (by omega)
    have al := lo_all (σ := σ) hI
    have am := sm_mono (f := fun i => inT σ (b i)) (by omega : i + 1 ≤ n)
    have e1 : sm (i + 1) (fun i => inT σ (b i)) = sm i (fun i => inT σ (b i)) + inT σ (b i) := rfl
    rw [e1] at am
    refine b19_5 ?_
    by_cases y : σ.1 71 (b i) = 0
    · have ey : inT σ (b i) = 0 := if_pos y
      have nx := ih (i + 1) σ (by omega) hf hE' hI (fun j hj => hS j (by rw [e1, ey] at hj; omega))
      rw [e1, ey, Nat.add_zero] at nx
      simp only [↓br_pos, ↓br_neg, ↓rF_I, ↓rF_L, ↓rF_R, ↓rF_N, rO_m, rB_m, ↓rI_m, wI_m, ↓rB2_m, ↓rB3_m, wB2_m, wB3_m, ↓rL_m, wL_m, ↓rQ_m, wQ_m, ↓lI_m, pI_m, pL_m, pR_m, sI_m, sBy_m, sBo_m, sL_m, sQ_m, fst_m, true_and, and_true, tg_some, ln_some, uI_1, uI_2, uL_1, uL_2, uL_3, uQ_1, uQ_2, uQ_3, rv_i, rv_l, rv_n, rv_b0, rv_b1, RMR, ne_eq, reduceCtorEq, not_false_eq_true, Option.getD_some, if_true, if_false, and_self, false_and, and_false, Nat.add_left_cancel_iff, Nat.add_eq_left, Nat.left_eq_add, Nat.one_ne_zero, Nat.reduceAdd, Nat.reduceLT, Nat.reduceLeDiff, Nat.reduceEqDiff, true_implies, false_implies, implies_true, Option.some.injEq, forall_eq', forall_eq, reduceCtorEq, brT, brF, br_s, i_10, i_01, ib_0_2, ib_1_2, tn_0, tn_1, Int32.le_refl, eq_self, rv_bN, rv_iM, RCX 0, RCG 2, RCT 4, RCT 15, RCT 25, RCS 35, RCS 49, RCH 63, RCP 67, RCB 72, RCR 77, RCM 81, RLY, lit_at hw, hI.1, l1, eb, en, m1.1, ebs, ens, y, on_succ]
      exact nx
    · have ey : inT σ (b i) = 1 := if_neg y
      rw [ey] at e1 am
      have ebn : inB (Int32.ofNat (sm i (fun i => inT σ (b i)))) 8 = true := on_inB (by omega) (by omega)
      have enn := on_nat (i := sm i (fun i => inT σ (b i))) (by omega)
      have f1 : frR 67 72 σ (uI σ 68 (sm i (fun i => inT σ (b i))) (Int32.ofNat (b i))) := frR_I (by omega)
      have q71 : (uI σ 68 (sm i (fun i => inT σ (b i))) (Int32.ofNat (b i))).1 71 = σ.1 71 := funext fun j => by rw [uI_1, if_neg (by omega)]
      have nx := ih (i + 1) (uI σ 68 (sm i (fun i => inT σ (b i))) (Int32.ofNat (b i))) (by omega) (frR_tr hf f1) (loE_fr hE' f1) (loI_fr hI (by rw [uI_1, if_neg (by omega)]) (funext fun j => by rw [uI_1, if_neg (by omega)])) (fun j hj => by
        rw [(inT_fr q71).1, e1] at hj
        rw [uI_1]
        by_cases c : j = sm i (fun i => inT σ (b i))
        · rw [if_pos ⟨rfl, c⟩]; exact ⟨b i, by omega, rfl⟩
        · rw [if_neg (fun q => c q.2)]; exact hS j (by omega))
      rw [(inT_fr q71).1, e1] at nx
      simp only [↓br_pos, ↓br_neg, ↓rF_I, ↓rF_L, ↓rF_R, ↓rF_N, rO_m, rB_m, ↓rI_m, wI_m, ↓rB2_m, ↓rB3_m, wB2_m, wB3_m, ↓rL_m, wL_m, ↓rQ_m, wQ_m, ↓lI_m, pI_m, pL_m, pR_m, sI_m, sBy_m, sBo_m, sL_m, sQ_m, fst_m, true_and, and_true, tg_some, ln_some, uI_1, uI_2, uL_1, uL_2, uL_3, uQ_1, uQ_2, uQ_3, rv_i, rv_l, rv_n, rv_b0, rv_b1, RMR, ne_eq, reduceCtorEq, not_false_eq_true, Option.getD_some, if_true, if_false, and_self, false_and, and_false, Nat.add_left_cancel_iff, Nat.add_eq_left, Nat.left_eq_add, Nat.one_ne_zero, Nat.reduceAdd, Nat.reduceLT, Nat.reduceLeDiff, Nat.reduceEqDiff, true_implies, false_implies, implies_true, Option.some.injEq, forall_eq', forall_eq, reduceCtorEq, brT, brF, br_s, i_10, i_01, ib_0_2, ib_1_2, tn_0, tn_1, Int32.le_refl, eq_self, rv_bN, rv_iM, RCX 0, RCG 2, RCT 4, RCT 15, RCT 25, RCS 35, RCS 49, RCH 63, RCP 67, RCB 72, RCR 77, RCM 81, RLY, lit_at hw, hI.1, l1, eb, en, m1.1, ebs, ens, y, ebn, enn, on_succ]
      exact nx
theorem s_19 {w : mT} {σ : mS} {P n D : Nat} {τ ρ : Rw} {b : Nat → Nat} {K : Hp → Prop} (hE : loE w σ P τ ρ) (hI : loI σ ρ (τ 2) n b) (hK : ∀ σ', frR 67 72 σ σ' → σ'.1 67 0 = Int32.ofNat n → K (mW w σ')) (hD : 1 ≤ D) : wpV D 19 [.ref 67, .ref P, .ref 35] (mW w σ) K := by
  refine sV_of (m := 0) (fun d hd Q hQ => ?_) rfl hD
  refine b19_0 ?_
  exact lpA_19 (fun σ' f e => hQ _ (hK σ' f e)) n 0 σ (by omega) frR_rf hE hI (fun j hj => by have : sm 0 (fun i => inT σ (b i)) = 0 := rfl; omega)
theorem lp_16 {w : mT} {σ0 : mS} {P n d : Nat} {τ ρ : Rw} {b : Nat → Nat} {Q : Option (Option Value) → Hp → Prop} (hd : 1 ≤ d) (hQ : ∀ σ', frR 67 72 σ0 σ' → σ'.1 67 0 = Int32.ofNat n → Q (some none) (mW w σ')) : ∀ (r i : Nat) (σ : mS) (a : Int32) (x5 x6 : Value), i + r = n → frR 67 72 σ0 σ → loE w σ P τ ρ → loI σ ρ (τ 2) n b → (x5 = jk ∧ x6 = jk ∨ (∃ u : Int32, x5 = .int u ∧ x6 = jk) ∨ ∃ u v : Int32, x5 = .int u ∧ x6 = .int v) → Wp 16 21 [.ref 67, .ref P, .ref 35, .int a, .int (Int32.ofNat i), x5, x6] [] (mW w σ) Q d := by
  intro r
  induction r with
  | zero =>
    intro i σ a x5 x6 hi hf hE hI hx
    have hE' := hE
    obtain ⟨hw, hP, hτ, hv, hρ, hr⟩ := hE
    have hi' : i = n := by omega
    subst hi'
    have fin : wpV d 19 [.ref 67, .ref P, .ref 35] (mW w σ) (fun h2 => Q (some none) h2) := s_19 hE' hI (fun σ' f e => hQ σ' (frR_tr hf f) e) hd
    rcases hx with ⟨rfl, rfl⟩ | ⟨u, rfl, rfl⟩ | ⟨u, v, rfl, rfl⟩
    · refine b16_21 ?_
      simp only [↓br_pos, ↓br_neg, ↓rF_I, ↓rF_L, ↓rF_R, ↓rF_N, rO_m, rB_m, ↓rI_m, wI_m, ↓rB2_m, ↓rB3_m, wB2_m, wB3_m, ↓rL_m, wL_m, ↓rQ_m, wQ_m, ↓lI_m, pI_m, pL_m, pR_m, sI_m, sBy_m, sBo_m, sL_m, sQ_m, fst_m, true_and, and_true, tg_some, ln_some, uI_1, uI_2, uL_1, uL_2, uL_3, uQ_1, uQ_2, uQ_3, rv_i, rv_l, rv_n, rv_b0, rv_b1, RMR, ne_eq, reduceCtorEq, not_false_eq_true, Option.getD_some, if_true, if_false, and_self, false_and, and_false, Nat.add_left_cancel_iff, Nat.add_eq_left, Nat.left_eq_add, Nat.one_ne_zero, Nat.reduceAdd, Nat.reduceLT, Nat.reduceLeDiff, Nat.reduceEqDiff, true_implies, false_implies, implies_true, Option.some.injEq, forall_eq', forall_eq, reduceCtorEq, brT, brF, br_s, i_10, i_01, ib_0_2, ib_1_2, tn_0, tn_1, Int32.le_refl, eq_self, rv_bN, rv_iM, RCX 0, RCG 2, RCT 4, RCT 15, RCT 25, RCS 35, RCS 49, RCH 63, RCP 67, RCB 72, RCR 77, RCM 81, RLY, lit_at hw, hI.1, Int32.le_refl]
      exact fin
    · refine b16_21a ?_
      simp only [↓br_pos, ↓br_neg, ↓rF_I, ↓rF_L, ↓rF_R, ↓rF_N, rO_m, rB_m, ↓rI_m, wI_m, ↓rB2_m, ↓rB3_m, wB2_m, wB3_m, ↓rL_m, wL_m, ↓rQ_m, wQ_m, ↓lI_m, pI_m, pL_m, pR_m, sI_m, sBy_m, sBo_m, sL_m, sQ_m, fst_m, true_and, and_true, tg_some, ln_some, uI_1, uI_2, uL_1, uL_2, uL_3, uQ_1, uQ_2, uQ_3, rv_i, rv_l, rv_n, rv_b0, rv_b1, RMR, ne_eq, reduceCtorEq, not_false_eq_true, Option.getD_some, if_true, if_false, and_self, false_and, and_false, Nat.add_left_cancel_iff, Nat.add_eq_left, Nat.left_eq_add, Nat.one_ne_zero, Nat.reduceAdd, Nat.reduceLT, Nat.reduceLeDiff, Nat.reduceEqDiff, true_implies, false_implies, implies_true, Option.some.injEq, forall_eq', forall_eq, reduceCtorEq, brT, brF, br_s, i_10, i_01, ib_0_2, ib_1_2, tn_0, tn_1, Int32.le_refl, eq_self, rv_bN, rv_iM, RCX 0, RCG 2, RCT 4, RCT 15, RCT 25, RCS 35, RCS 49, RCH 63, RCP 67, RCB 72, RCR 77, RCM 81, RLY, lit_at hw, hI.1, Int32.le_refl]
      exact fin
    · refine b16_21b ?_
      simp only [↓br_pos, ↓br_neg, ↓rF_I, ↓rF_L, ↓rF_R, ↓rF_N, rO_m, rB_m, ↓rI_m, wI_m, ↓rB2_m, ↓rB3_m, wB2_m, wB3_m, ↓rL_m, wL_m, ↓rQ_m, wQ_m, ↓lI_m, pI_m, pL_m, pR_m, sI_m, sBy_m, sBo_m, sL_m, sQ_m, fst_m, true_and, and_true, tg_some, ln_some, uI_1, uI_2, uL_1, uL_2, uL_3, uQ_1, uQ_2, uQ_3, rv_i, rv_l, rv_n, rv_b0, rv_b1, RMR, ne_eq, reduceCtorEq, not_false_eq_true, Option.getD_some, if_true, if_false, and_self, false_and, and_false, Nat.add_left_cancel_iff, Nat.add_eq_left, Nat.left_eq_add, Nat.one_ne_zero, Nat.reduceAdd, Nat.reduceLT, Nat.reduceLeDiff, Nat.reduceEqDiff, true_implies, false_implies, implies_true, Option.some.injEq, forall_eq', forall_eq, reduceCtorEq, brT, brF, br_s, i_10, i_01, ib_0_2, ib_1_2, tn_0, tn_1, Int32.le_refl, eq_self, rv_bN, rv_iM, RCX 0, RCG 2, RCT 4, RCT 15, RCT 25, RCS 35, RCS 49, RCH 63, RCP 67, RCB 72, RCR 77, RCM 81, RLY, lit_at hw, hI.1, Int32.le_refl]
      exact fin
  | succ r ih =>
    intro i σ a x5 x6 hi hf hE hI hx
    have hE' := hE
    obtain ⟨hw, hP, hτ, hv, hρ, hr⟩ := hE
    have hT' := isTP hw hP
    simp only [isT] at hT'
    have v2 := hv.2.2.1
    have n8 := hI.2.1
    have m1 := hI.2.2.1 i (by omega)
    have l1 : (Int32.ofNat n ≤ Int32.ofNat i) ↔ False := iff_false_intro (fun q => absurd ((on_le (by omega) (by omega)).mp q) (by omega))
    have eb : inB (Int32.ofNat i) 8 = true := on_inB (by omega) (by omega)
    have en := on_nat (i := i) (by omega)
    have ebs : inB (Int32.ofNat (b i)) 8 = true := on_inB (by omega) (by omega)
    have ens := on_nat (i := b i) (by omega)
    have f1 : frR 67 72 σ (uI σ 71 (b i) 1) := frR_I (by omega)
    have E1 := loE_fr hE' f1
    have I1 : loI (uI σ 71 (b i) 1) ρ (τ 2) n b := loI_fr hI (by rw [uI_1, if_neg (by omega)]) (funext fun j => by rw [uI_1, if_neg (by omega)])
    rcases hx with ⟨rfl, rfl⟩ | ⟨u, rfl, rfl⟩ | ⟨u, v, rfl, rfl⟩
    · skip
      refine b16_21 ?_
      simp only [↓br_pos, ↓br_neg, ↓rF_I, ↓rF_L, ↓rF_R, ↓rF_N, rO_m, rB_m, ↓rI_m, wI_m, ↓rB2_m, ↓rB3_m, wB2_m, wB3_m, ↓rL_m, wL_m, ↓rQ_m, wQ_m, ↓lI_m, pI_m, pL_m, pR_m, sI_m, sBy_m, sBo_m, sL_m, sQ_m, fst_m, true_and, and_true, tg_some, ln_some, uI_1, uI_2, uL_1, uL_2, uL_3, uQ_1, uQ_2, uQ_3, rv_i, rv_l, rv_n, rv_b0, rv_b1, RMR, ne_eq, reduceCtorEq, not_false_eq_true, Option.getD_some, if_true, if_false, and_self, false_and, and_false, Nat.add_left_cancel_iff, Nat.add_eq_left, Nat.left_eq_add, Nat.one_ne_zero, Nat.reduceAdd, Nat.reduceLT, Nat.reduceLeDiff, Nat.reduceEqDiff, true_implies, false_implies, implies_true, Option.some.injEq, forall_eq', forall_eq, reduceCtorEq, brT, brF, br_s, i_10, i_01, ib_0_2, ib_1_2, tn_0, tn_1, Int32.le_refl, eq_self, rv_bN, rv_iM, RCX 0, RCG 2, RCT 4, RCT 15, RCT 25, RCS 35, RCS 49, RCH 63, RCP 67, RCB 72, RCR 77, RCM 81, RLY, lit_at hw, RCT P, hT', hI.1, l1, eb, en, m1.1, ebs, ens, vn_b1]
      refine br2 (c := _ ≤ _) ?_ ?_
      · rw [on_succ]
        exact b16_108 (ih (i + 1) _ _ _ _ (by omega) (frR_tr hf f1) E1 I1 (Or.inr (Or.inl ⟨_, rfl, rfl⟩)))
      · refine s_18 E1 I1 (by omega) (fun l hl => ?_) hd
        have ebl : inB (Int32.ofNat l) 8 = true := on_inB (by omega) (by omega)
        have enl := on_nat (i := l) (by omega)
        refine b16_77 ?_
        simp only [↓br_pos, ↓br_neg, ↓rF_I, ↓rF_L, ↓rF_R, ↓rF_N, rO_m, rB_m, ↓rI_m, wI_m, ↓rB2_m, ↓rB3_m, wB2_m, wB3_m, ↓rL_m, wL_m, ↓rQ_m, wQ_m, ↓lI_m, pI_m, pL_m, pR_m, sI_m, sBy_m, sBo_m, sL_m, sQ_m, fst_m, true_and, and_true, tg_some, ln_some, uI_1, uI_2, uL_1, uL_2, uL_3, uQ_1, uQ_2, uQ_3, rv_i, rv_l, rv_n, rv_b0, rv_b1, RMR, ne_eq, reduceCtorEq, not_false_eq_true, Option.getD_some, if_true, if_false, and_self, false_and, and_false, Nat.add_left_cancel_iff, Nat.add_eq_left, Nat.left_eq_add, Nat.one_ne_zero, Nat.reduceAdd, Nat.reduceLT, Nat.reduceLeDiff, Nat.reduceEqDiff, true_implies, false_implies, implies_true, Option.some.injEq, forall_eq', forall_eq, reduceCtorEq, brT, brF, br_s, i_10, i_01, ib_0_2, ib_1_2, tn_0, tn_1, Int32.le_refl, eq_self, rv_bN, rv_iM, RCX 0, RCG 2, RCT 4, RCT 15, RCT 25, RCS 35, RCS 49, RCH 63, RCP 67, RCB 72, RCR 77, RCM 81, RLY, lit_at hw, RCT P, hT', ebl, enl, vn_b0]
        rw [on_succ]
        exact b16_108a (ih (i + 1) _ _ _ _ (by omega) (frR_tr hf (frR_tr f1 (frR_tr (frR_I (by omega)) (frR_I (by omega))))) (loE_fr E1 (frR_tr (frR_I (by omega)) (frR_I (by omega)))) (loI_fr I1 (by rw [uI_1, if_neg (by omega), uI_1, if_neg (by omega)]) (funext fun j => by rw [uI_1, if_neg (by omega), uI_1, if_neg (by omega)])) (Or.inr (Or.inr ⟨_, _, rfl, rfl⟩)))
    · skip
      refine b16_21a ?_
      simp only [↓br_pos, ↓br_neg, ↓rF_I, ↓rF_L, ↓rF_R, ↓rF_N, rO_m, rB_m, ↓rI_m, wI_m, ↓rB2_m, ↓rB3_m, wB2_m, wB3_m, ↓rL_m, wL_m, ↓rQ_m, wQ_m, ↓lI_m, pI_m, pL_m, pR_m, sI_m, sBy_m, sBo_m, sL_m, sQ_m, fst_m, true_and, and_true, tg_some, ln_some, uI_1, uI_2, uL_1, uL_2, uL_3, uQ_1, uQ_2, uQ_3, rv_i, rv_l, rv_n, rv_b0, rv_b1, RMR, ne_eq, reduceCtorEq, not_false_eq_true, Option.getD_some, if_true, if_false, and_self, false_and, and_false, Nat.add_left_cancel_iff, Nat.add_eq_left, Nat.left_eq_add, Nat.one_ne_zero, Nat.reduceAdd, Nat.reduceLT, Nat.reduceLeDiff, Nat.reduceEqDiff, true_implies, false_implies, implies_true, Option.some.injEq, forall_eq', forall_eq, reduceCtorEq, brT, brF, br_s, i_10, i_01, ib_0_2, ib_1_2, tn_0, tn_1, Int32.le_refl, eq_self, rv_bN, rv_iM, RCX 0, RCG 2, RCT 4, RCT 15, RCT 25, RCS 35, RCS 49, RCH 63, RCP 67, RCB 72, RCR 77, RCM 81, RLY, lit_at hw, RCT P, hT', hI.1, l1, eb, en, m1.1, ebs, ens, vn_b1]
      refine br2 (c := _ ≤ _) ?_ ?_
      · rw [on_succ]
        exact b16_108 (ih (i + 1) _ _ _ _ (by omega) (frR_tr hf f1) E1 I1 (Or.inr (Or.inl ⟨_, rfl, rfl⟩)))
      · refine s_18 E1 I1 (by omega) (fun l hl => ?_) hd
        have ebl : inB (Int32.ofNat l) 8 = true := on_inB (by omega) (by omega)
        have enl := on_nat (i := l) (by omega)
        refine b16_77 ?_
        simp only [↓br_pos, ↓br_neg, ↓rF_I, ↓rF_L, ↓rF_R, ↓rF_N, rO_m, rB_m, ↓rI_m, wI_m, ↓rB2_m, ↓rB3_m, wB2_m, wB3_m, ↓rL_m, wL_m, ↓rQ_m, wQ_m, ↓lI_m, pI_m, pL_m, pR_m, sI_m, sBy_m, sBo_m, sL_m, sQ_m, fst_m, true_and, and_true, tg_some, ln_some, uI_1, uI_2, uL_1, uL_2, uL_3, uQ_1, uQ_2, uQ_3, rv_i, rv_l, rv_n, rv_b0, rv_b1, RMR, ne_eq, reduceCtorEq, not_false_eq_true, Option.getD_some, if_true, if_false, and_self, false_and, and_false, Nat.add_left_cancel_iff, Nat.add_eq_left, Nat.left_eq_add, Nat.one_ne_zero, Nat.reduceAdd, Nat.reduceLT, Nat.reduceLeDiff, Nat.reduceEqDiff, true_implies, false_implies, implies_true, Option.some.injEq, forall_eq', forall_eq, reduceCtorEq, brT, brF, br_s, i_10, i_01, ib_0_2, ib_1_2, tn_0, tn_1, Int32.le_refl, eq_self, rv_bN, rv_iM, RCX 0, RCG 2, RCT 4, RCT 15, RCT 25, RCS 35, RCS 49, RCH 63, RCP 67, RCB 72, RCR 77, RCM 81, RLY, lit_at hw, RCT P, hT', ebl, enl, vn_b0]
        rw [on_succ]
        exact b16_108a (ih (i + 1) _ _ _ _ (by omega) (frR_tr hf (frR_tr f1 (frR_tr (frR_I (by omega)) (frR_I (by omega))))) (loE_fr E1 (frR_tr (frR_I (by omega)) (frR_I (by omega)))) (loI_fr I1 (by rw [uI_1, if_neg (by omega), uI_1, if_neg (by omega)]) (funext fun j => by rw [uI_1, if_neg (by omega), uI_1, if_neg (by omega)])) (Or.inr (Or.inr ⟨_, _, rfl, rfl⟩)))
    · skip
      refine b16_21b ?_
      simp only [↓br_pos, ↓br_neg, ↓rF_I, ↓rF_L, ↓rF_R, ↓rF_N, rO_m, rB_m, ↓rI_m, wI_m, ↓rB2_m, ↓rB3_m, wB2_m, wB3_m, ↓rL_m, wL_m, ↓rQ_m, wQ_m, ↓lI_m, pI_m, pL_m, pR_m, sI_m, sBy_m, sBo_m, sL_m, sQ_m, fst_m, true_and, and_true, tg_some, ln_some, uI_1, uI_2, uL_1, uL_2, uL_3, uQ_1, uQ_2, uQ_3, rv_i, rv_l, rv_n, rv_b0, rv_b1, RMR, ne_eq, reduceCtorEq, not_false_eq_true, Option.getD_some, if_true, if_false, and_self, false_and, and_false, Nat.add_left_cancel_iff, Nat.add_eq_left, Nat.left_eq_add, Nat.one_ne_zero, Nat.reduceAdd, Nat.reduceLT, Nat.reduceLeDiff, Nat.reduceEqDiff, true_implies, false_implies, implies_true, Option.some.injEq, forall_eq', forall_eq, reduceCtorEq, brT, brF, br_s, i_10, i_01, ib_0_2, ib_1_2, tn_0, tn_1, Int32.le_refl, eq_self, rv_bN, rv_iM, RCX 0, RCG 2, RCT 4, RCT 15, RCT 25, RCS 35, RCS 49, RCH 63, RCP 67, RCB 72, RCR 77, RCM 81, RLY, lit_at hw, RCT P, hT', hI.1, l1, eb, en, m1.1, ebs, ens, vn_b1]
      refine br2 (c := _ ≤ _) ?_ ?_
      · rw [on_succ]
        exact b16_108a (ih (i + 1) _ _ _ _ (by omega) (frR_tr hf f1) E1 I1 (Or.inr (Or.inr ⟨_, _, rfl, rfl⟩)))
      · refine s_18 E1 I1 (by omega) (fun l hl => ?_) hd
        have ebl : inB (Int32.ofNat l) 8 = true := on_inB (by omega) (by omega)
        have enl := on_nat (i := l) (by omega)
        refine b16_77 ?_
        simp only [↓br_pos, ↓br_neg, ↓rF_I, ↓rF_L, ↓rF_R, ↓rF_N, rO_m, rB_m, ↓rI_m, wI_m, ↓rB2_m, ↓rB3_m, wB2_m, wB3_m, ↓rL_m, wL_m, ↓rQ_m, wQ_m, ↓lI_m, pI_m, pL_m, pR_m, sI_m, sBy_m, sBo_m, sL_m, sQ_m, fst_m, true_and, and_true, tg_some, ln_some, uI_1, uI_2, uL_1, uL_2, uL_3, uQ_1, uQ_2, uQ_3, rv_i, rv_l, rv_n, rv_b0, rv_b1, RMR, ne_eq, reduceCtorEq, not_false_eq_true, Option.getD_some, if_true, if_false, and_self, false_and, and_false, Nat.add_left_cancel_iff, Nat.add_eq_left, Nat.left_eq_add, Nat.one_ne_zero, Nat.reduceAdd, Nat.reduceLT, Nat.reduceLeDiff, Nat.reduceEqDiff, true_implies, false_implies, implies_true, Option.some.injEq, forall_eq', forall_eq, reduceCtorEq, brT, brF, br_s, i_10, i_01, ib_0_2, ib_1_2, tn_0, tn_1, Int32.le_refl, eq_self, rv_bN, rv_iM, RCX 0, RCG 2, RCT 4, RCT 15, RCT 25, RCS 35, RCS 49, RCH 63, RCP 67, RCB 72, RCR 77, RCM 81, RLY, lit_at hw, RCT P, hT', ebl, enl, vn_b0]
        rw [on_succ]
        exact b16_108a (ih (i + 1) _ _ _ _ (by omega) (frR_tr hf (frR_tr f1 (frR_tr (frR_I (by omega)) (frR_I (by omega))))) (loE_fr E1 (frR_tr (frR_I (by omega)) (frR_I (by omega)))) (loI_fr I1 (by rw [uI_1, if_neg (by omega), uI_1, if_neg (by omega)]) (funext fun j => by rw [uI_1, if_neg (by omega), uI_1, if_neg (by omega)])) (Or.inr (Or.inr ⟨_, _, rfl, rfl⟩)))
theorem s_16 {w : mT} {σ : mS} {P D : Nat} {τ ρ : Rw} {K : Hp → Prop} (hE : loE w σ P τ ρ) (hK : ∀ σ' n, frR 67 72 σ σ' → σ'.1 67 0 = Int32.ofNat n → n ≤ 8 → K (mW w σ')) (hD : 2 ≤ D) : wpV D 16 [.ref 67, .ref P, .ref 35] (mW w σ) K := by
  refine sV_of (m := 1) (fun d hd Q hQ => ?_) rfl hD
  obtain ⟨σ1, n, b, f1, I1, e1⟩ := s_17 hE
  have hw := hE.1
  have v2 := hE.2.2.2.1.2.2.1
  have n8 := I1.2.1
  have f2 : frR 67 72 σ1 (uI σ1 67 1 0) := frR_I (by omega)
  refine b16_0 ?_
  simp only [↓br_pos, ↓br_neg, ↓rF_I, ↓rF_L, ↓rF_R, ↓rF_N, rO_m, rB_m, ↓rI_m, wI_m, ↓rB2_m, ↓rB3_m, wB2_m, wB3_m, ↓rL_m, wL_m, ↓rQ_m, wQ_m, ↓lI_m, pI_m, pL_m, pR_m, sI_m, sBy_m, sBo_m, sL_m, sQ_m, fst_m, true_and, and_true, tg_some, ln_some, uI_1, uI_2, uL_1, uL_2, uL_3, uQ_1, uQ_2, uQ_3, rv_i, rv_l, rv_n, rv_b0, rv_b1, RMR, ne_eq, reduceCtorEq, not_false_eq_true, Option.getD_some, if_true, if_false, and_self, false_and, and_false, Nat.add_left_cancel_iff, Nat.add_eq_left, Nat.left_eq_add, Nat.one_ne_zero, Nat.reduceAdd, Nat.reduceLT, Nat.reduceLeDiff, Nat.reduceEqDiff, true_implies, false_implies, implies_true, Option.some.injEq, forall_eq', forall_eq, reduceCtorEq, brT, brF, br_s, i_10, i_01, ib_0_2, ib_1_2, tn_0, tn_1, Int32.le_refl, eq_self, rv_bN, rv_iM, RCX 0, RCG 2, RCT 4, RCT 15, RCT 25, RCS 35, RCS 49, RCH 63, RCP 67, RCB 72, RCR 77, RCM 81, RLY, lit_at hw, e1 hd]
  exact lp_16 hd (fun σ' f e => hQ _ (hK σ' n f e (by omega))) n 0 _ _ jk jk (by omega) (frR_tr f1 f2) (loE_fr (loE_fr hE f1) f2) (loI_fr I1 (by rw [uI_1, if_neg (by omega)]) (funext fun j => by rw [uI_1, if_neg (by omega)])) (Or.inl ⟨rfl, rfl⟩)
end
section
/-! the class's calls: fewest, order, ready, cost -/
theorem cIn_R {w : mT} {σ σ' : mS} {tp n : Nat} {t : Nat → Nat} {τ ρ : Rw} {bk : Nat → Rw} {has : Nat → Bool} {im : Nat → Rw} {lo hi : Nat} (h : cIn w σ tp t τ ρ n bk has im) (f : frR lo hi σ σ') (h1 : 49 ≤ lo ∧ hi ≤ 63 ∨ 67 ≤ lo ∧ hi ≤ 99) : cIn w σ' tp t τ ρ n bk has im := cIn_fr h (fun j hj => congrFun (f.1 0 (by omega)) j) (fun a ha => f.1 a (by omega)) (fun a ha => by rw [f.2])
theorem loE_c {w : mT} {σ : mS} {tp n : Nat} {t : Nat → Nat} {τ ρ : Rw} {bk : Nat → Rw} {has : Nat → Bool} {im : Nat → Rw} (h : cIn w σ tp t τ ρ n bk has im) : ∃ P, σ.2.2 0 3 = some P ∧ loE w σ P τ ρ := by
  obtain ⟨hw, hS, hH, ⟨P, hP, p3, p4, hτ⟩, hρ, hv, hr, h1, htp, htb, ht⟩ := h
  exact ⟨P, p3, hw, hP, hτ, hv, hρ, hr⟩
theorem s_113 {w : mT} {σ : mS} {tp n : Nat} {t : Nat → Nat} {τ ρ : Rw} {bk : Nat → Rw} {has : Nat → Bool} {im : Nat → Rw} {D : Nat} {K : Int32 → Hp → Prop} (h : cIn w σ tp t τ ρ n bk has im) (hK : ∀ v σ', frM σ σ' → cIn w σ' tp t τ ρ n bk has im → K v (mW w σ')) (hD : 3 ≤ D) : wpI D 113 [.ref 0] (mW w σ) K := by
  have h' := h
  obtain ⟨hw, hS, hH, ⟨P, hP, p3, p4, hτ⟩, hρ, hv, hr, h1, htp, htb, ht⟩ := h
  have hT := isTP hw hP
  have hT' := hT
  simp only [isT] at hT'
  refine sI_of (m := 2) (fun d hd Q hQ => ?_) rfl hD
  refine b113_0 ?_
  simp only [↓br_pos, ↓br_neg, ↓rF_I, ↓rF_L, ↓rF_R, ↓rF_N, rO_m, rB_m, ↓rI_m, wI_m, ↓rB2_m, ↓rB3_m, wB2_m, wB3_m, ↓rL_m, wL_m, ↓rQ_m, wQ_m, ↓lI_m, pI_m, pL_m, pR_m, sI_m, sBy_m, sBo_m, sL_m, sQ_m, fst_m, true_and, and_true, tg_some, ln_some, uI_1, uI_2, uL_1, uL_2, uL_3, uQ_1, uQ_2, uQ_3, rv_i, rv_l, rv_n, rv_b0, rv_b1, RMR, ne_eq, reduceCtorEq, not_false_eq_true, Option.getD_some, if_true, if_false, and_self, false_and, and_false, Nat.add_left_cancel_iff, Nat.add_eq_left, Nat.left_eq_add, Nat.one_ne_zero, Nat.reduceAdd, Nat.reduceLT, Nat.reduceLeDiff, Nat.reduceEqDiff, true_implies, false_implies, implies_true, Option.some.injEq, forall_eq', forall_eq, reduceCtorEq, brT, brF, br_s, i_10, i_01, ib_0_2, ib_1_2, tn_0, tn_1, Int32.le_refl, eq_self, rv_bN, rv_iM, RCX 0, RCG 2, RCT 4, RCT 15, RCT 25, RCS 35, RCS 49, RCH 63, RCP 67, RCB 72, RCR 77, RCM 81, RLY, lit_at hw, p3]
  refine s_16 ⟨hw, hP, hτ, hv, hρ, hr⟩ (fun σ' m f e m8 => ?_) hd
  simp only [↓br_pos, ↓br_neg, ↓rF_I, ↓rF_L, ↓rF_R, ↓rF_N, rO_m, rB_m, ↓rI_m, wI_m, ↓rB2_m, ↓rB3_m, wB2_m, wB3_m, ↓rL_m, wL_m, ↓rQ_m, wQ_m, ↓lI_m, pI_m, pL_m, pR_m, sI_m, sBy_m, sBo_m, sL_m, sQ_m, fst_m, true_and, and_true, tg_some, ln_some, uI_1, uI_2, uL_1, uL_2, uL_3, uQ_1, uQ_2, uQ_3, rv_i, rv_l, rv_n, rv_b0, rv_b1, RMR, ne_eq, reduceCtorEq, not_false_eq_true, Option.getD_some, if_true, if_false, and_self, false_and, and_false, Nat.add_left_cancel_iff, Nat.add_eq_left, Nat.left_eq_add, Nat.one_ne_zero, Nat.reduceAdd, Nat.reduceLT, Nat.reduceLeDiff, Nat.reduceEqDiff, true_implies, false_implies, implies_true, Option.some.injEq, forall_eq', forall_eq, reduceCtorEq, brT, brF, br_s, i_10, i_01, ib_0_2, ib_1_2, tn_0, tn_1, Int32.le_refl, eq_self, rv_bN, rv_iM, RCX 0, RCG 2, RCT 4, RCT 15, RCT 25, RCS 35, RCS 49, RCH 63, RCP 67, RCB 72, RCR 77, RCM 81, RLY, lit_at hw]
  exact hQ _ _ (hK _ σ' (frM_R f (by omega)) (cIn_R h' f (by omega)))
theorem s_114 {w : mT} {σ : mS} {tp n : Nat} {t : Nat → Nat} {τ ρ : Rw} {bk : Nat → Rw} {has : Nat → Bool} {im : Nat → Rw} {a : Int32} {D : Nat} {K : Int32 → Hp → Prop} (h : cIn w σ tp t τ ρ n bk has im) (hK : ∀ v σ', frM σ σ' → cIn w σ' tp t τ ρ n bk has im → K v (mW w σ')) (hD : 3 ≤ D) : wpI D 114 [.ref 0, .int a] (mW w σ) K := by
  have h' := h
  obtain ⟨hw, hS, hH, ⟨P, hP, p3, p4, hτ⟩, hρ, hv, hr, h1, htp, htb, ht⟩ := h
  have hT := isTP hw hP
  have hT' := hT
  simp only [isT] at hT'
  refine sI_of (m := 2) (fun d hd Q hQ => ?_) rfl hD
  refine b114_0 ?_
  simp only [↓br_pos, ↓br_neg, ↓rF_I, ↓rF_L, ↓rF_R, ↓rF_N, rO_m, rB_m, ↓rI_m, wI_m, ↓rB2_m, ↓rB3_m, wB2_m, wB3_m, ↓rL_m, wL_m, ↓rQ_m, wQ_m, ↓lI_m, pI_m, pL_m, pR_m, sI_m, sBy_m, sBo_m, sL_m, sQ_m, fst_m, true_and, and_true, tg_some, ln_some, uI_1, uI_2, uL_1, uL_2, uL_3, uQ_1, uQ_2, uQ_3, rv_i, rv_l, rv_n, rv_b0, rv_b1, RMR, ne_eq, reduceCtorEq, not_false_eq_true, Option.getD_some, if_true, if_false, and_self, false_and, and_false, Nat.add_left_cancel_iff, Nat.add_eq_left, Nat.left_eq_add, Nat.one_ne_zero, Nat.reduceAdd, Nat.reduceLT, Nat.reduceLeDiff, Nat.reduceEqDiff, true_implies, false_implies, implies_true, Option.some.injEq, forall_eq', forall_eq, reduceCtorEq, brT, brF, br_s, i_10, i_01, ib_0_2, ib_1_2, tn_0, tn_1, Int32.le_refl, eq_self, rv_bN, rv_iM, RCX 0, RCG 2, RCT 4, RCT 15, RCT 25, RCS 35, RCS 49, RCH 63, RCP 67, RCB 72, RCR 77, RCM 81, RLY, lit_at hw, p3]
  refine s_16 ⟨hw, hP, hτ, hv, hρ, hr⟩ (fun σ' m f e m8 => ?_) hd
  have fin := fun v : Int32 => hQ _ _ (hK v σ' (frM_R f (by omega)) (cIn_R h' f (by omega)))
  by_cases c1 : a = -1
  · simp only [↓br_pos, ↓br_neg, ↓rF_I, ↓rF_L, ↓rF_R, ↓rF_N, rO_m, rB_m, ↓rI_m, wI_m, ↓rB2_m, ↓rB3_m, wB2_m, wB3_m, ↓rL_m, wL_m, ↓rQ_m, wQ_m, ↓lI_m, pI_m, pL_m, pR_m, sI_m, sBy_m, sBo_m, sL_m, sQ_m, fst_m, true_and, and_true, tg_some, ln_some, uI_1, uI_2, uL_1, uL_2, uL_3, uQ_1, uQ_2, uQ_3, rv_i, rv_l, rv_n, rv_b0, rv_b1, RMR, ne_eq, reduceCtorEq, not_false_eq_true, Option.getD_some, if_true, if_false, and_self, false_and, and_false, Nat.add_left_cancel_iff, Nat.add_eq_left, Nat.left_eq_add, Nat.one_ne_zero, Nat.reduceAdd, Nat.reduceLT, Nat.reduceLeDiff, Nat.reduceEqDiff, true_implies, false_implies, implies_true, Option.some.injEq, forall_eq', forall_eq, reduceCtorEq, brT, brF, br_s, i_10, i_01, ib_0_2, ib_1_2, tn_0, tn_1, Int32.le_refl, eq_self, rv_bN, rv_iM, RCX 0, RCG 2, RCT 4, RCT 15, RCT 25, RCS 35, RCS 49, RCH 63, RCP 67, RCB 72, RCR 77, RCM 81, RLY, lit_at hw, c1]
    exact fin _
  · by_cases c2 : a < 0
    · simp only [↓br_pos, ↓br_neg, ↓rF_I, ↓rF_L, ↓rF_R, ↓rF_N, rO_m, rB_m, ↓rI_m, wI_m, ↓rB2_m, ↓rB3_m, wB2_m, wB3_m, ↓rL_m, wL_m, ↓rQ_m, wQ_m, ↓lI_m, pI_m, pL_m, pR_m, sI_m, sBy_m, sBo_m, sL_m, sQ_m, fst_m, true_and, and_true, tg_some, ln_some, uI_1, uI_2, uL_1, uL_2, uL_3, uQ_1, uQ_2, uQ_3, rv_i, rv_l, rv_n, rv_b0, rv_b1, RMR, ne_eq, reduceCtorEq, not_false_eq_true, Option.getD_some, if_true, if_false, and_self, false_and, and_false, Nat.add_left_cancel_iff, Nat.add_eq_left, Nat.left_eq_add, Nat.one_ne_zero, Nat.reduceAdd, Nat.reduceLT, Nat.reduceLeDiff, Nat.reduceEqDiff, true_implies, false_implies, implies_true, Option.some.injEq, forall_eq', forall_eq, reduceCtorEq, brT, brF, br_s, i_10, i_01, ib_0_2, ib_1_2, tn_0, tn_1, Int32.le_refl, eq_self, rv_bN, rv_iM, RCX 0, RCG 2, RCT 4, RCT 15, RCT 25, RCS 35, RCS 49, RCH 63, RCP 67, RCB 72, RCR 77, RCM 81, RLY, lit_at hw, c1, c2]
      exact fin _
    · by_cases c3 : a < Int32.ofNat m
      · have b2 : a.toInt < m := by rw [i_lt, on_int (by omega)] at c3; exact c3
        have b1 : 0 ≤ a.toInt := by rw [i_lt, show (0 : Int32).toInt = 0 by decide] at c2; omega
        obtain ⟨k, rfl, hk⟩ := ex_on (a := a) (n := 8) ⟨b1, by omega⟩
        have eb : inB (Int32.ofNat k) 8 = true := on_inB (by omega) (by omega)
        have en := on_nat (i := k) (by omega)
        simp only [↓br_pos, ↓br_neg, ↓rF_I, ↓rF_L, ↓rF_R, ↓rF_N, rO_m, rB_m, ↓rI_m, wI_m, ↓rB2_m, ↓rB3_m, wB2_m, wB3_m, ↓rL_m, wL_m, ↓rQ_m, wQ_m, ↓lI_m, pI_m, pL_m, pR_m, sI_m, sBy_m, sBo_m, sL_m, sQ_m, fst_m, true_and, and_true, tg_some, ln_some, uI_1, uI_2, uL_1, uL_2, uL_3, uQ_1, uQ_2, uQ_3, rv_i, rv_l, rv_n, rv_b0, rv_b1, RMR, ne_eq, reduceCtorEq, not_false_eq_true, Option.getD_some, if_true, if_false, and_self, false_and, and_false, Nat.add_left_cancel_iff, Nat.add_eq_left, Nat.left_eq_add, Nat.one_ne_zero, Nat.reduceAdd, Nat.reduceLT, Nat.reduceLeDiff, Nat.reduceEqDiff, true_implies, false_implies, implies_true, Option.some.injEq, forall_eq', forall_eq, reduceCtorEq, brT, brF, br_s, i_10, i_01, ib_0_2, ib_1_2, tn_0, tn_1, Int32.le_refl, eq_self, rv_bN, rv_iM, RCX 0, RCG 2, RCT 4, RCT 15, RCT 25, RCS 35, RCS 49, RCH 63, RCP 67, RCB 72, RCR 77, RCM 81, RLY, lit_at hw, c1, c2, e, c3, eb, en]
        exact fin _
      · simp only [↓br_pos, ↓br_neg, ↓rF_I, ↓rF_L, ↓rF_R, ↓rF_N, rO_m, rB_m, ↓rI_m, wI_m, ↓rB2_m, ↓rB3_m, wB2_m, wB3_m, ↓rL_m, wL_m, ↓rQ_m, wQ_m, ↓lI_m, pI_m, pL_m, pR_m, sI_m, sBy_m, sBo_m, sL_m, sQ_m, fst_m, true_and, and_true, tg_some, ln_some, uI_1, uI_2, uL_1, uL_2, uL_3, uQ_1, uQ_2, uQ_3, rv_i, rv_l, rv_n, rv_b0, rv_b1, RMR, ne_eq, reduceCtorEq, not_false_eq_true, Option.getD_some, if_true, if_false, and_self, false_and, and_false, Nat.add_left_cancel_iff, Nat.add_eq_left, Nat.left_eq_add, Nat.one_ne_zero, Nat.reduceAdd, Nat.reduceLT, Nat.reduceLeDiff, Nat.reduceEqDiff, true_implies, false_implies, implies_true, Option.some.injEq, forall_eq', forall_eq, reduceCtorEq, brT, brF, br_s, i_10, i_01, ib_0_2, ib_1_2, tn_0, tn_1, Int32.le_refl, eq_self, rv_bN, rv_iM, RCX 0, RCG 2, RCT 4, RCT 15, RCT 25, RCS 35, RCS 49, RCH 63, RCP 67, RCB 72, RCR 77, RCM 81, RLY, lit_at hw, c1, c2, e, c3]
        exact fin _
theorem s_115 {w : mT} {σ : mS} {tp n : Nat} {t : Nat → Nat} {τ ρ : Rw} {bk : Nat → Rw} {has : Nat → Bool} {im : Nat → Rw} {a : Int32} {D : Nat} {K : Int32 → Hp → Prop} (h : cIn w σ tp t τ ρ n bk has im) (hK : ∀ v σ', frM σ σ' → cIn w σ' tp t τ ρ n bk has im → K v (mW w σ')) (hD : 3 ≤ D) : wpI D 115 [.ref 0, .int a] (mW w σ) K := by
  have h' := h
  obtain ⟨hw, hS, hH, ⟨P, hP, p3, p4, hτ⟩, hρ, hv, hr, h1, htp, htb, ht⟩ := h
  have hT := isTP hw hP
  have hT' := hT
  simp only [isT] at hT'
  refine sI_of (m := 2) (fun d hd Q hQ => ?_) rfl hD
  have hd1 : 1 ≤ d := by omega
  have v2 := hv.2.2.1
  have fin0 := fun v : Int32 => hQ _ _ (hK v σ frM_rf h')
  refine b115_0 ?_
  by_cases z : bN a (τ 2) = 1
  · obtain ⟨s, rfl, hs⟩ := bN_ex z
    have eb : inB (Int32.ofNat s) 8 = true := on_inB (by omega) (by omega)
    have en := on_nat (i := s) (by omega)
    have es : σ.1 42 s = Int32.ofNat (ρ (43 + s)) - 1 := tS_sa hρ hs
    by_cases y : Int32.ofNat (ρ (43 + s)) - 1 = (-1 : Int32)
    · simp only [↓br_pos, ↓br_neg, ↓rF_I, ↓rF_L, ↓rF_R, ↓rF_N, rO_m, rB_m, ↓rI_m, wI_m, ↓rB2_m, ↓rB3_m, wB2_m, wB3_m, ↓rL_m, wL_m, ↓rQ_m, wQ_m, ↓lI_m, pI_m, pL_m, pR_m, sI_m, sBy_m, sBo_m, sL_m, sQ_m, fst_m, true_and, and_true, tg_some, ln_some, uI_1, uI_2, uL_1, uL_2, uL_3, uQ_1, uQ_2, uQ_3, rv_i, rv_l, rv_n, rv_b0, rv_b1, RMR, ne_eq, reduceCtorEq, not_false_eq_true, Option.getD_some, if_true, if_false, and_self, false_and, and_false, Nat.add_left_cancel_iff, Nat.add_eq_left, Nat.left_eq_add, Nat.one_ne_zero, Nat.reduceAdd, Nat.reduceLT, Nat.reduceLeDiff, Nat.reduceEqDiff, true_implies, false_implies, implies_true, Option.some.injEq, forall_eq', forall_eq, reduceCtorEq, brT, brF, br_s, i_10, i_01, ib_0_2, ib_1_2, tn_0, tn_1, Int32.le_refl, eq_self, rv_bN, rv_iM, RCX 0, RCG 2, RCT 4, RCT 15, RCT 25, RCS 35, RCS 49, RCH 63, RCP 67, RCB 72, RCR 77, RCM 81, RLY, lit_at hw, RCT P, hT', p3, g_73 hT hτ.2.2.2.1 (by omega : τ 2 < 2147483648) hd1, z, eb, en, es, y]
      refine s_16 ⟨hw, hP, hτ, hv, hρ, hr⟩ (fun σ' m f e m8 => ?_) hd
      simp only [↓br_pos, ↓br_neg, ↓rF_I, ↓rF_L, ↓rF_R, ↓rF_N, rO_m, rB_m, ↓rI_m, wI_m, ↓rB2_m, ↓rB3_m, wB2_m, wB3_m, ↓rL_m, wL_m, ↓rQ_m, wQ_m, ↓lI_m, pI_m, pL_m, pR_m, sI_m, sBy_m, sBo_m, sL_m, sQ_m, fst_m, true_and, and_true, tg_some, ln_some, uI_1, uI_2, uL_1, uL_2, uL_3, uQ_1, uQ_2, uQ_3, rv_i, rv_l, rv_n, rv_b0, rv_b1, RMR, ne_eq, reduceCtorEq, not_false_eq_true, Option.getD_some, if_true, if_false, and_self, false_and, and_false, Nat.add_left_cancel_iff, Nat.add_eq_left, Nat.left_eq_add, Nat.one_ne_zero, Nat.reduceAdd, Nat.reduceLT, Nat.reduceLeDiff, Nat.reduceEqDiff, true_implies, false_implies, implies_true, Option.some.injEq, forall_eq', forall_eq, reduceCtorEq, brT, brF, br_s, i_10, i_01, ib_0_2, ib_1_2, tn_0, tn_1, Int32.le_refl, eq_self, rv_bN, rv_iM, RCX 0, RCG 2, RCT 4, RCT 15, RCT 25, RCS 35, RCS 49, RCH 63, RCP 67, RCB 72, RCR 77, RCM 81, RLY, lit_at hw, eb, en]
      exact hQ _ _ (hK _ σ' (frM_R f (by omega)) (cIn_R h' f (by omega)))
    · simp only [↓br_pos, ↓br_neg, ↓rF_I, ↓rF_L, ↓rF_R, ↓rF_N, rO_m, rB_m, ↓rI_m, wI_m, ↓rB2_m, ↓rB3_m, wB2_m, wB3_m, ↓rL_m, wL_m, ↓rQ_m, wQ_m, ↓lI_m, pI_m, pL_m, pR_m, sI_m, sBy_m, sBo_m, sL_m, sQ_m, fst_m, true_and, and_true, tg_some, ln_some, uI_1, uI_2, uL_1, uL_2, uL_3, uQ_1, uQ_2, uQ_3, rv_i, rv_l, rv_n, rv_b0, rv_b1, RMR, ne_eq, reduceCtorEq, not_false_eq_true, Option.getD_some, if_true, if_false, and_self, false_and, and_false, Nat.add_left_cancel_iff, Nat.add_eq_left, Nat.left_eq_add, Nat.one_ne_zero, Nat.reduceAdd, Nat.reduceLT, Nat.reduceLeDiff, Nat.reduceEqDiff, true_implies, false_implies, implies_true, Option.some.injEq, forall_eq', forall_eq, reduceCtorEq, brT, brF, br_s, i_10, i_01, ib_0_2, ib_1_2, tn_0, tn_1, Int32.le_refl, eq_self, rv_bN, rv_iM, RCX 0, RCG 2, RCT 4, RCT 15, RCT 25, RCS 35, RCS 49, RCH 63, RCP 67, RCB 72, RCR 77, RCM 81, RLY, lit_at hw, RCT P, hT', p3, g_73 hT hτ.2.2.2.1 (by omega : τ 2 < 2147483648) hd1, z, eb, en, es, y]
      exact fin0 _
  · have z' : bN a (τ 2) = 0 := bN_01.resolve_right z
    simp only [↓br_pos, ↓br_neg, ↓rF_I, ↓rF_L, ↓rF_R, ↓rF_N, rO_m, rB_m, ↓rI_m, wI_m, ↓rB2_m, ↓rB3_m, wB2_m, wB3_m, ↓rL_m, wL_m, ↓rQ_m, wQ_m, ↓lI_m, pI_m, pL_m, pR_m, sI_m, sBy_m, sBo_m, sL_m, sQ_m, fst_m, true_and, and_true, tg_some, ln_some, uI_1, uI_2, uL_1, uL_2, uL_3, uQ_1, uQ_2, uQ_3, rv_i, rv_l, rv_n, rv_b0, rv_b1, RMR, ne_eq, reduceCtorEq, not_false_eq_true, Option.getD_some, if_true, if_false, and_self, false_and, and_false, Nat.add_left_cancel_iff, Nat.add_eq_left, Nat.left_eq_add, Nat.one_ne_zero, Nat.reduceAdd, Nat.reduceLT, Nat.reduceLeDiff, Nat.reduceEqDiff, true_implies, false_implies, implies_true, Option.some.injEq, forall_eq', forall_eq, reduceCtorEq, brT, brF, br_s, i_10, i_01, ib_0_2, ib_1_2, tn_0, tn_1, Int32.le_refl, eq_self, rv_bN, rv_iM, RCX 0, RCG 2, RCT 4, RCT 15, RCT 25, RCS 35, RCS 49, RCH 63, RCP 67, RCB 72, RCR 77, RCM 81, RLY, lit_at hw, RCT P, hT', p3, g_73 hT hτ.2.2.2.1 (by omega : τ 2 < 2147483648) hd1, z']
    exact fin0 _
theorem lp_116 {w : mT} {σ : mS} {tp n : Nat} {t : Nat → Nat} {τ ρ : Rw} {bk : Nat → Rw} {has : Nat → Bool} {im : Nat → Rw} {a : Int32} {d : Nat} {Q : Option (Option Value) → Hp → Prop} (h : cIn w σ tp t τ ρ n bk has im) (hd : 1 ≤ d) (hQ : ∀ v : Int32, Q (some (some (.int v))) (mW w σ)) : ∀ (r s : Nat) (y : Int32) (x4 x5 : Value), s + r = τ 2 → (x4 = jk ∧ x5 = jk ∨ ∃ u v : Int32, x4 = .int u ∧ x5 = .int v) → Wp 116 35 [.ref 0, .int a, .int y, .int (Int32.ofNat s), x4, x5] [] (mW w σ) Q d := by
  have h' := h
  obtain ⟨hw, hS, hH, ⟨P, hP, p3, p4, hτ⟩, hρ, hv, hr, h1, htp, htb, ht⟩ := h
  have hT := isTP hw hP
  have hT' := hT
  simp only [isT] at hT'
  have v2 := hv.2.2.1
  have e4 : σ.1 P 4 = Int32.ofNat (τ 2) := hτ.2.2.2.1
  have i10 : ((1 : Int32) = 0) ↔ False := by decide
  have i00 : ((0 : Int32) = 0) ↔ True := by decide
  intro r
  induction r with
  | zero =>
    intro s y x4 x5 hs hx
    have hs' : s = τ 2 := by omega
    subst hs'
    rcases hx with ⟨rfl, rfl⟩ | ⟨u, v, rfl, rfl⟩
    · refine b116_35 ?_
      simp only [↓br_pos, ↓br_neg, ↓rF_I, ↓rF_L, ↓rF_R, ↓rF_N, rO_m, rB_m, ↓rI_m, wI_m, ↓rB2_m, ↓rB3_m, wB2_m, wB3_m, ↓rL_m, wL_m, ↓rQ_m, wQ_m, ↓lI_m, pI_m, pL_m, pR_m, sI_m, sBy_m, sBo_m, sL_m, sQ_m, fst_m, true_and, and_true, tg_some, ln_some, uI_1, uI_2, uL_1, uL_2, uL_3, uQ_1, uQ_2, uQ_3, rv_i, rv_l, rv_n, rv_b0, rv_b1, RMR, ne_eq, reduceCtorEq, not_false_eq_true, Option.getD_some, if_true, if_false, and_self, false_and, and_false, Nat.add_left_cancel_iff, Nat.add_eq_left, Nat.left_eq_add, Nat.one_ne_zero, Nat.reduceAdd, Nat.reduceLT, Nat.reduceLeDiff, Nat.reduceEqDiff, true_implies, false_implies, implies_true, Option.some.injEq, forall_eq', forall_eq, reduceCtorEq, brT, brF, br_s, i_10, i_01, ib_0_2, ib_1_2, tn_0, tn_1, Int32.le_refl, eq_self, rv_bN, rv_iM, RCX 0, RCG 2, RCT 4, RCT 15, RCT 25, RCS 35, RCS 49, RCH 63, RCP 67, RCB 72, RCR 77, RCM 81, RLY, lit_at hw, RCT P, hT', p3, e4, Int32.le_refl]
      exact hQ _
    · refine b116_35a ?_
      simp only [↓br_pos, ↓br_neg, ↓rF_I, ↓rF_L, ↓rF_R, ↓rF_N, rO_m, rB_m, ↓rI_m, wI_m, ↓rB2_m, ↓rB3_m, wB2_m, wB3_m, ↓rL_m, wL_m, ↓rQ_m, wQ_m, ↓lI_m, pI_m, pL_m, pR_m, sI_m, sBy_m, sBo_m, sL_m, sQ_m, fst_m, true_and, and_true, tg_some, ln_some, uI_1, uI_2, uL_1, uL_2, uL_3, uQ_1, uQ_2, uQ_3, rv_i, rv_l, rv_n, rv_b0, rv_b1, RMR, ne_eq, reduceCtorEq, not_false_eq_true, Option.getD_some, if_true, if_false, and_self, false_and, and_false, Nat.add_left_cancel_iff, Nat.add_eq_left, Nat.left_eq_add, Nat.one_ne_zero, Nat.reduceAdd, Nat.reduceLT, Nat.reduceLeDiff, Nat.reduceEqDiff, true_implies, false_implies, implies_true, Option.some.injEq, forall_eq', forall_eq, reduceCtorEq, brT, brF, br_s, i_10, i_01, ib_0_2, ib_1_2, tn_0, tn_1, Int32.le_refl, eq_self, rv_bN, rv_iM, RCX 0, RCG 2, RCT 4, RCT 15, RCT 25, RCS 35, RCS 49, RCH 63, RCP 67, RCB 72, RCR 77, RCM 81, RLY, lit_at hw, RCT P, hT', p3, e4, Int32.le_refl]
      exact hQ _
  | succ r ih =>
    intro s y x4 x5 hs hx
    have hs' : s < τ 2 := by omega
    have l1 : (Int32.ofNat (τ 2) ≤ Int32.ofNat s) ↔ False := iff_false_intro (fun q => absurd ((on_le (by omega) (by omega)).mp q) (by omega))
    have eb : inB (Int32.ofNat s) 8 = true := on_inB (by omega) (by omega)
    have en := on_nat (i := s) (by omega)
    have es : σ.1 42 s = Int32.ofNat (ρ (43 + s)) - 1 := tS_sa hρ hs'
    have edue := lo_due hτ hs'
    have efine := lo_fine hτ hs'
    have e125 := fun {K : Int32 → Hp → Prop} => g_125 (K := K) hw hP p3 hτ hv hρ hr hs' hd
    rcases hx with ⟨rfl, rfl⟩ | ⟨u, v, rfl, rfl⟩
    · skip
      refine b116_35 ?_
      by_cases c0 : a = 1
      · have c1 := iff_true_intro c0
        by_cases y : Int32.ofNat (ρ (43 + s)) - 1 = (-1 : Int32)
        · simp only [↓br_pos, ↓br_neg, ↓rF_I, ↓rF_L, ↓rF_R, ↓rF_N, rO_m, rB_m, ↓rI_m, wI_m, ↓rB2_m, ↓rB3_m, wB2_m, wB3_m, ↓rL_m, wL_m, ↓rQ_m, wQ_m, ↓lI_m, pI_m, pL_m, pR_m, sI_m, sBy_m, sBo_m, sL_m, sQ_m, fst_m, true_and, and_true, tg_some, ln_some, uI_1, uI_2, uL_1, uL_2, uL_3, uQ_1, uQ_2, uQ_3, rv_i, rv_l, rv_n, rv_b0, rv_b1, RMR, ne_eq, reduceCtorEq, not_false_eq_true, Option.getD_some, if_true, if_false, and_self, false_and, and_false, Nat.add_left_cancel_iff, Nat.add_eq_left, Nat.left_eq_add, Nat.one_ne_zero, Nat.reduceAdd, Nat.reduceLT, Nat.reduceLeDiff, Nat.reduceEqDiff, true_implies, false_implies, implies_true, Option.some.injEq, forall_eq', forall_eq, reduceCtorEq, brT, brF, br_s, i_10, i_01, ib_0_2, ib_1_2, tn_0, tn_1, Int32.le_refl, eq_self, rv_bN, rv_iM, RCX 0, RCG 2, RCT 4, RCT 15, RCT 25, RCS 35, RCS 49, RCH 63, RCP 67, RCB 72, RCR 77, RCM 81, RLY, lit_at hw, RCT P, hT', p3, e4, l1, c1, eb, en, es, y, i10, edue, efine, on_succ]
          exact ih (s + 1) _ _ _ (by omega) (Or.inr ⟨_, _, rfl, rfl⟩)
        · simp only [↓br_pos, ↓br_neg, ↓rF_I, ↓rF_L, ↓rF_R, ↓rF_N, rO_m, rB_m, ↓rI_m, wI_m, ↓rB2_m, ↓rB3_m, wB2_m, wB3_m, ↓rL_m, wL_m, ↓rQ_m, wQ_m, ↓lI_m, pI_m, pL_m, pR_m, sI_m, sBy_m, sBo_m, sL_m, sQ_m, fst_m, true_and, and_true, tg_some, ln_some, uI_1, uI_2, uL_1, uL_2, uL_3, uQ_1, uQ_2, uQ_3, rv_i, rv_l, rv_n, rv_b0, rv_b1, RMR, ne_eq, reduceCtorEq, not_false_eq_true, Option.getD_some, if_true, if_false, and_self, false_and, and_false, Nat.add_left_cancel_iff, Nat.add_eq_left, Nat.left_eq_add, Nat.one_ne_zero, Nat.reduceAdd, Nat.reduceLT, Nat.reduceLeDiff, Nat.reduceEqDiff, true_implies, false_implies, implies_true, Option.some.injEq, forall_eq', forall_eq, reduceCtorEq, brT, brF, br_s, i_10, i_01, ib_0_2, ib_1_2, tn_0, tn_1, Int32.le_refl, eq_self, rv_bN, rv_iM, RCX 0, RCG 2, RCT 4, RCT 15, RCT 25, RCS 35, RCS 49, RCH 63, RCP 67, RCB 72, RCR 77, RCM 81, RLY, lit_at hw, RCT P, hT', p3, e4, l1, c1, eb, en, es, y, i00, e125, efine, on_succ]
          exact ih (s + 1) _ _ _ (by omega) (Or.inr ⟨_, _, rfl, rfl⟩)
      · have c1 := iff_false_intro c0
        simp only [↓br_pos, ↓br_neg, ↓rF_I, ↓rF_L, ↓rF_R, ↓rF_N, rO_m, rB_m, ↓rI_m, wI_m, ↓rB2_m, ↓rB3_m, wB2_m, wB3_m, ↓rL_m, wL_m, ↓rQ_m, wQ_m, ↓lI_m, pI_m, pL_m, pR_m, sI_m, sBy_m, sBo_m, sL_m, sQ_m, fst_m, true_and, and_true, tg_some, ln_some, uI_1, uI_2, uL_1, uL_2, uL_3, uQ_1, uQ_2, uQ_3, rv_i, rv_l, rv_n, rv_b0, rv_b1, RMR, ne_eq, reduceCtorEq, not_false_eq_true, Option.getD_some, if_true, if_false, and_self, false_and, and_false, Nat.add_left_cancel_iff, Nat.add_eq_left, Nat.left_eq_add, Nat.one_ne_zero, Nat.reduceAdd, Nat.reduceLT, Nat.reduceLeDiff, Nat.reduceEqDiff, true_implies, false_implies, implies_true, Option.some.injEq, forall_eq', forall_eq, reduceCtorEq, brT, brF, br_s, i_10, i_01, ib_0_2, ib_1_2, tn_0, tn_1, Int32.le_refl, eq_self, rv_bN, rv_iM, RCX 0, RCG 2, RCT 4, RCT 15, RCT 25, RCS 35, RCS 49, RCH 63, RCP 67, RCB 72, RCR 77, RCM 81, RLY, lit_at hw, RCT P, hT', p3, e4, l1, c1, eb, en, i00, e125, efine, on_succ]
        exact ih (s + 1) _ _ _ (by omega) (Or.inr ⟨_, _, rfl, rfl⟩)
    · skip
      refine b116_35a ?_
      by_cases c0 : a = 1
      · have c1 := iff_true_intro c0
        by_cases y : Int32.ofNat (ρ (43 + s)) - 1 = (-1 : Int32)
        · simp only [↓br_pos, ↓br_neg, ↓rF_I, ↓rF_L, ↓rF_R, ↓rF_N, rO_m, rB_m, ↓rI_m, wI_m, ↓rB2_m, ↓rB3_m, wB2_m, wB3_m, ↓rL_m, wL_m, ↓rQ_m, wQ_m, ↓lI_m, pI_m, pL_m, pR_m, sI_m, sBy_m, sBo_m, sL_m, sQ_m, fst_m, true_and, and_true, tg_some, ln_some, uI_1, uI_2, uL_1, uL_2, uL_3, uQ_1, uQ_2, uQ_3, rv_i, rv_l, rv_n, rv_b0, rv_b1, RMR, ne_eq, reduceCtorEq, not_false_eq_true, Option.getD_some, if_true, if_false, and_self, false_and, and_false, Nat.add_left_cancel_iff, Nat.add_eq_left, Nat.left_eq_add, Nat.one_ne_zero, Nat.reduceAdd, Nat.reduceLT, Nat.reduceLeDiff, Nat.reduceEqDiff, true_implies, false_implies, implies_true, Option.some.injEq, forall_eq', forall_eq, reduceCtorEq, brT, brF, br_s, i_10, i_01, ib_0_2, ib_1_2, tn_0, tn_1, Int32.le_refl, eq_self, rv_bN, rv_iM, RCX 0, RCG 2, RCT 4, RCT 15, RCT 25, RCS 35, RCS 49, RCH 63, RCP 67, RCB 72, RCR 77, RCM 81, RLY, lit_at hw, RCT P, hT', p3, e4, l1, c1, eb, en, es, y, i10, edue, efine, on_succ]
          exact ih (s + 1) _ _ _ (by omega) (Or.inr ⟨_, _, rfl, rfl⟩)
        · simp only [↓br_pos, ↓br_neg, ↓rF_I, ↓rF_L, ↓rF_R, ↓rF_N, rO_m, rB_m, ↓rI_m, wI_m, ↓rB2_m, ↓rB3_m, wB2_m, wB3_m, ↓rL_m, wL_m, ↓rQ_m, wQ_m, ↓lI_m, pI_m, pL_m, pR_m, sI_m, sBy_m, sBo_m, sL_m, sQ_m, fst_m, true_and, and_true, tg_some, ln_some, uI_1, uI_2, uL_1, uL_2, uL_3, uQ_1, uQ_2, uQ_3, rv_i, rv_l, rv_n, rv_b0, rv_b1, RMR, ne_eq, reduceCtorEq, not_false_eq_true, Option.getD_some, if_true, if_false, and_self, false_and, and_false, Nat.add_left_cancel_iff, Nat.add_eq_left, Nat.left_eq_add, Nat.one_ne_zero, Nat.reduceAdd, Nat.reduceLT, Nat.reduceLeDiff, Nat.reduceEqDiff, true_implies, false_implies, implies_true, Option.some.injEq, forall_eq', forall_eq, reduceCtorEq, brT, brF, br_s, i_10, i_01, ib_0_2, ib_1_2, tn_0, tn_1, Int32.le_refl, eq_self, rv_bN, rv_iM, RCX 0, RCG 2, RCT 4, RCT 15, RCT 25, RCS 35, RCS 49, RCH 63, RCP 67, RCB 72, RCR 77, RCM 81, RLY, lit_at hw, RCT P, hT', p3, e4, l1, c1, eb, en, es, y, i00, e125, efine, on_succ]
          exact ih (s + 1) _ _ _ (by omega) (Or.inr ⟨_, _, rfl, rfl⟩)
      · have c1 := iff_false_intro c0
        simp only [↓br_pos, ↓br_neg, ↓rF_I, ↓rF_L, ↓rF_R, ↓rF_N, rO_m, rB_m, ↓rI_m, wI_m, ↓rB2_m, ↓rB3_m, wB2_m, wB3_m, ↓rL_m, wL_m, ↓rQ_m, wQ_m, ↓lI_m, pI_m, pL_m, pR_m, sI_m, sBy_m, sBo_m, sL_m, sQ_m, fst_m, true_and, and_true, tg_some, ln_some, uI_1, uI_2, uL_1, uL_2, uL_3, uQ_1, uQ_2, uQ_3, rv_i, rv_l, rv_n, rv_b0, rv_b1, RMR, ne_eq, reduceCtorEq, not_false_eq_true, Option.getD_some, if_true, if_false, and_self, false_and, and_false, Nat.add_left_cancel_iff, Nat.add_eq_left, Nat.left_eq_add, Nat.one_ne_zero, Nat.reduceAdd, Nat.reduceLT, Nat.reduceLeDiff, Nat.reduceEqDiff, true_implies, false_implies, implies_true, Option.some.injEq, forall_eq', forall_eq, reduceCtorEq, brT, brF, br_s, i_10, i_01, ib_0_2, ib_1_2, tn_0, tn_1, Int32.le_refl, eq_self, rv_bN, rv_iM, RCX 0, RCG 2, RCT 4, RCT 15, RCT 25, RCS 35, RCS 49, RCH 63, RCP 67, RCB 72, RCR 77, RCM 81, RLY, lit_at hw, RCT P, hT', p3, e4, l1, c1, eb, en, i00, e125, efine, on_succ]
        exact ih (s + 1) _ _ _ (by omega) (Or.inr ⟨_, _, rfl, rfl⟩)
theorem s_116 {w : mT} {σ : mS} {tp n : Nat} {t : Nat → Nat} {τ ρ : Rw} {bk : Nat → Rw} {has : Nat → Bool} {im : Nat → Rw} {a : Int32} {D : Nat} {K : Int32 → Hp → Prop} (h : cIn w σ tp t τ ρ n bk has im) (hK : ∀ v σ', frM σ σ' → cIn w σ' tp t τ ρ n bk has im → K v (mW w σ')) (hD : 3 ≤ D) : wpI D 116 [.ref 0, .int a] (mW w σ) K := by
  have h' := h
  obtain ⟨hw, hS, hH, ⟨P, hP, p3, p4, hτ⟩, hρ, hv, hr, h1, htp, htb, ht⟩ := h
  have hT := isTP hw hP
  have hT' := hT
  simp only [isT] at hT'
  refine sI_of (m := 2) (fun d hd Q hQ => ?_) rfl hD
  have hd1 : 1 ≤ d := by omega
  have fin0 := fun v : Int32 => hQ _ _ (hK v σ frM_rf h')
  refine b116_0 ?_
  by_cases c1 : a < 0
  · simp only [↓br_pos, ↓br_neg, ↓rF_I, ↓rF_L, ↓rF_R, ↓rF_N, rO_m, rB_m, ↓rI_m, wI_m, ↓rB2_m, ↓rB3_m, wB2_m, wB3_m, ↓rL_m, wL_m, ↓rQ_m, wQ_m, ↓lI_m, pI_m, pL_m, pR_m, sI_m, sBy_m, sBo_m, sL_m, sQ_m, fst_m, true_and, and_true, tg_some, ln_some, uI_1, uI_2, uL_1, uL_2, uL_3, uQ_1, uQ_2, uQ_3, rv_i, rv_l, rv_n, rv_b0, rv_b1, RMR, ne_eq, reduceCtorEq, not_false_eq_true, Option.getD_some, if_true, if_false, and_self, false_and, and_false, Nat.add_left_cancel_iff, Nat.add_eq_left, Nat.left_eq_add, Nat.one_ne_zero, Nat.reduceAdd, Nat.reduceLT, Nat.reduceLeDiff, Nat.reduceEqDiff, true_implies, false_implies, implies_true, Option.some.injEq, forall_eq', forall_eq, reduceCtorEq, brT, brF, br_s, i_10, i_01, ib_0_2, ib_1_2, tn_0, tn_1, Int32.le_refl, eq_self, rv_bN, rv_iM, c1]
    exact fin0 _
  · by_cases c2 : a ≤ 1
    · by_cases c3 : a = 1
      · have c2' : ((1 : Int32) ≤ 1) ↔ True := by decide
        have c1' : ((1 : Int32) < 0) ↔ False := by decide
        subst c3
        have c3' : ((1 : Int32) = 1) ↔ True := by decide
        simp only [↓br_pos, ↓br_neg, ↓rF_I, ↓rF_L, ↓rF_R, ↓rF_N, rO_m, rB_m, ↓rI_m, wI_m, ↓rB2_m, ↓rB3_m, wB2_m, wB3_m, ↓rL_m, wL_m, ↓rQ_m, wQ_m, ↓lI_m, pI_m, pL_m, pR_m, sI_m, sBy_m, sBo_m, sL_m, sQ_m, fst_m, true_and, and_true, tg_some, ln_some, uI_1, uI_2, uL_1, uL_2, uL_3, uQ_1, uQ_2, uQ_3, rv_i, rv_l, rv_n, rv_b0, rv_b1, RMR, ne_eq, reduceCtorEq, not_false_eq_true, Option.getD_some, if_true, if_false, and_self, false_and, and_false, Nat.add_left_cancel_iff, Nat.add_eq_left, Nat.left_eq_add, Nat.one_ne_zero, Nat.reduceAdd, Nat.reduceLT, Nat.reduceLeDiff, Nat.reduceEqDiff, true_implies, false_implies, implies_true, Option.some.injEq, forall_eq', forall_eq, reduceCtorEq, brT, brF, br_s, i_10, i_01, ib_0_2, ib_1_2, tn_0, tn_1, Int32.le_refl, eq_self, rv_bN, rv_iM, RCX 0, RCG 2, RCT 4, RCT 15, RCT 25, RCS 35, RCS 49, RCH 63, RCP 67, RCB 72, RCR 77, RCM 81, RLY, lit_at hw, c1', c2', c3', p3]
        refine s_16 ⟨hw, hP, hτ, hv, hρ, hr⟩ (fun σ' m f e m8 => ?_) hd
        have C1 := cIn_R h' f (by omega)
        exact lp_116 C1 hd1 (fun v => hQ _ _ (hK v σ' (frM_R f (by omega)) C1)) (τ 2) 0 _ _ _ (by omega) (Or.inl ⟨rfl, rfl⟩)
      · simp only [↓br_pos, ↓br_neg, ↓rF_I, ↓rF_L, ↓rF_R, ↓rF_N, rO_m, rB_m, ↓rI_m, wI_m, ↓rB2_m, ↓rB3_m, wB2_m, wB3_m, ↓rL_m, wL_m, ↓rQ_m, wQ_m, ↓lI_m, pI_m, pL_m, pR_m, sI_m, sBy_m, sBo_m, sL_m, sQ_m, fst_m, true_and, and_true, tg_some, ln_some, uI_1, uI_2, uL_1, uL_2, uL_3, uQ_1, uQ_2, uQ_3, rv_i, rv_l, rv_n, rv_b0, rv_b1, RMR, ne_eq, reduceCtorEq, not_false_eq_true, Option.getD_some, if_true, if_false, and_self, false_and, and_false, Nat.add_left_cancel_iff, Nat.add_eq_left, Nat.left_eq_add, Nat.one_ne_zero, Nat.reduceAdd, Nat.reduceLT, Nat.reduceLeDiff, Nat.reduceEqDiff, true_implies, false_implies, implies_true, Option.some.injEq, forall_eq', forall_eq, reduceCtorEq, brT, brF, br_s, i_10, i_01, ib_0_2, ib_1_2, tn_0, tn_1, Int32.le_refl, eq_self, rv_bN, rv_iM, c1, c2, c3]
        exact lp_116 h' hd1 fin0 (τ 2) 0 _ _ _ (by omega) (Or.inl ⟨rfl, rfl⟩)
    · simp only [↓br_pos, ↓br_neg, ↓rF_I, ↓rF_L, ↓rF_R, ↓rF_N, rO_m, rB_m, ↓rI_m, wI_m, ↓rB2_m, ↓rB3_m, wB2_m, wB3_m, ↓rL_m, wL_m, ↓rQ_m, wQ_m, ↓lI_m, pI_m, pL_m, pR_m, sI_m, sBy_m, sBo_m, sL_m, sQ_m, fst_m, true_and, and_true, tg_some, ln_some, uI_1, uI_2, uL_1, uL_2, uL_3, uQ_1, uQ_2, uQ_3, rv_i, rv_l, rv_n, rv_b0, rv_b1, RMR, ne_eq, reduceCtorEq, not_false_eq_true, Option.getD_some, if_true, if_false, and_self, false_and, and_false, Nat.add_left_cancel_iff, Nat.add_eq_left, Nat.left_eq_add, Nat.one_ne_zero, Nat.reduceAdd, Nat.reduceLT, Nat.reduceLeDiff, Nat.reduceEqDiff, true_implies, false_implies, implies_true, Option.some.injEq, forall_eq', forall_eq, reduceCtorEq, brT, brF, br_s, i_10, i_01, ib_0_2, ib_1_2, tn_0, tn_1, Int32.le_refl, eq_self, rv_bN, rv_iM, c1, c2]
      exact fin0 _
end
section
/-! Blend: what it does is safe -/
theorem orb {s i : Nat} (hs : s < 64) (hi : i < 6) : Int32.ofNat s ||| ((1 : Int32) <<< (Int32.ofNat i &&& 31)) = Int32.ofNat (s ||| 2 ^ i) ∧ s ||| 2 ^ i < 64 := by
  constructor
  · have e : (1 : Int32) <<< (Int32.ofNat i &&& 31) = Int32.ofNat (2 ^ i) := by
      have : i = 0 ∨ i = 1 ∨ i = 2 ∨ i = 3 ∨ i = 4 ∨ i = 5 := by omega
      rcases this with rfl | rfl | rfl | rfl | rfl | rfl <;> decide
    rw [e]
    apply Int32.toBitVec_inj.mp
    rw [Int32.toBitVec_or, Int32.toBitVec_ofNat', Int32.toBitVec_ofNat', Int32.toBitVec_ofNat']
    apply BitVec.eq_of_toNat_eq
    have p : 2 ^ i < 64 := Nat.pow_lt_pow_right (by omega) hi
    have q : s ||| 2 ^ i < 64 := Nat.or_lt_two_pow (n := 6) hs p
    rw [BitVec.toNat_or, BitVec.toNat_ofNat, BitVec.toNat_ofNat, BitVec.toNat_ofNat, Nat.mod_eq_of_lt (by omega), Nat.mod_eq_of_lt (by omega), Nat.mod_eq_of_lt (by omega)]
  · exact Nat.or_lt_two_pow (n := 6) hs (Nat.pow_lt_pow_right (by omega) hi)
theorem all6 {n : Nat} (h1 : 1 ≤ n) (h2 : n ≤ 6) : ∃ s, 1 ≤ s ∧ s < 64 ∧ ((1 : Int32) <<< (Int32.ofNat n &&& 31)) - (1 : Int32) = Int32.ofNat s := by
  have : n = 1 ∨ n = 2 ∨ n = 3 ∨ n = 4 ∨ n = 5 ∨ n = 6 := by omega
  rcases this with rfl | rfl | rfl | rfl | rfl | rfl
  · exact ⟨1, by omega, by omega, by decide⟩
  · exact ⟨3, by omega, by omega, by decide⟩
  · exact ⟨7, by omega, by omega, by decide⟩
  · exact ⟨15, by omega, by omega, by decide⟩
  · exact ⟨31, by omega, by omega, by decide⟩
  · exact ⟨63, by omega, by omega, by decide⟩
def frW (lo hi : Nat) (σ σ' : mS) : Prop := (∀ a, (a < lo ∨ hi ≤ a) → σ'.1 a = σ.1 a ∧ σ'.2.1 a = σ.2.1 a) ∧ σ'.2.2 = σ.2.2
theorem frW_rf {lo hi : Nat} {σ : mS} : frW lo hi σ σ := ⟨fun _ _ => ⟨rfl, rfl⟩, rfl⟩
theorem frW_tr {lo hi : Nat} {σ σ' σ'' : mS} (h : frW lo hi σ σ') (h' : frW lo hi σ' σ'') : frW lo hi σ σ'' := ⟨fun a q => ⟨(h'.1 a q).1.trans (h.1 a q).1, (h'.1 a q).2.trans (h.1 a q).2⟩, h'.2.trans h.2⟩
theorem frW_I {lo hi : Nat} {σ : mS} {a j : Nat} {x : Int32} (h : lo ≤ a ∧ a < hi) : frW lo hi σ (uI σ a j x) := ⟨fun q hq => ⟨(uI_ne (by omega)).1, (uI_ne (by omega)).2.1⟩, rfl⟩
theorem frW_L {lo hi : Nat} {σ : mS} {a j : Nat} {x : Int64} (h : lo ≤ a ∧ a < hi) : frW lo hi σ (uL σ a j x) := ⟨fun q hq => ⟨(uL_ne (by omega)).1, (uL_ne (by omega)).2.1⟩, rfl⟩
theorem cIn_W {w : mT} {σ σ' : mS} {tp n : Nat} {t : Nat → Nat} {τ ρ : Rw} {bk : Nat → Rw} {has : Nat → Bool} {im : Nat → Rw} {lo hi : Nat} (h : cIn w σ tp t τ ρ n bk has im) (f : frW lo hi σ σ') (h1 : 49 ≤ lo ∧ hi ≤ 63 ∨ 67 ≤ lo ∧ hi ≤ 99) : cIn w σ' tp t τ ρ n bk has im := cIn_fr h (fun j hj => congrFun (f.1 0 (by omega)).1 j) (fun a ha => (f.1 a (by omega)).1) (fun a ha => by rw [f.2])
theorem frM_W {lo hi : Nat} {σ σ' : mS} (f : frW lo hi σ σ') (h : hi ≤ 81) : frM σ σ' := fun a x1 x2 => ⟨(f.1 a (by omega)).1, (f.1 a (by omega)).2, by rw [f.2]⟩
theorem loE_W {w : mT} {σ σ' : mS} {P : Nat} {τ ρ : Rw} {lo hi : Nat} (h : loE w σ P τ ρ) (f : frW lo hi σ σ') (h1 : 49 ≤ lo) : loE w σ' P τ ρ := by
  obtain ⟨a, b, c, d, e, g⟩ := h
  exact ⟨a, b, tTold_fr c (fun x h1 h2 => (f.1 x (by omega)).1), d, tSt_fr e (fun x h1 h2 => (f.1 x (by omega)).1), g⟩
/-- lots that may be laid -/
def blI (σ : mS) (n : Nat) : Prop := σ.1 72 0 = Int32.ofNat n ∧ n ≤ 6 ∧ ∀ i, i < n → ∃ l, l < 12 ∧ σ.1 74 i = Int32.ofNat l
theorem blI_fr {σ σ' : mS} {n : Nat} (h : blI σ n) (h0 : σ'.1 72 = σ.1 72) (h1 : σ'.1 74 = σ.1 74) : blI σ' n := ⟨by rw [h0]; exact h.1, h.2.1, fun i hi => by rw [h1]; exact h.2.2 i hi⟩
theorem uI_o {σ : mS} {a j b : Nat} {x : Int32} (h : b ≠ a) : (uI σ a j x).1 b = σ.1 b := funext fun i => by rw [uI_1, if_neg (fun q => h q.1)]
theorem s_239 {a : Int32} {hp : Hp} {D : Nat} {K : Int32 → Hp → Prop} (hK : ∀ x, K x hp) (hD : 1 ≤ D) : wpI D 239 [.int a] hp K := by
  refine sI_of (m := 0) (fun d hd Q hQ => ?_) rfl hD
  refine b239_0 ?_
  exact ⟨rfl, hQ _ _ (hK _)⟩
theorem gz {a : Int64} : (if a < (1 : Int64) then (1 : Int64) else a) ≠ 0 := by
  split
  · decide
  · rename_i h
    intro q
    subst q
    exact h (by decide)
theorem lps_127 {w : mT} {σ : mS} {d : Nat} {Q : Option (Option Value) → Hp → Prop} (hQ : ∀ g : Int64, g ≠ 0 → Q (some (some (.long g))) (mW w σ)) : ∀ (r i : Nat) (a b : Int64) (x : Value), i + r = 100 → (x = jk ∨ ∃ u : Int64, x = .long u) → Wp 127 3 [.long a, jk, .long b, jk, .int (Int32.ofNat i), x, jk] [] (mW w σ) Q d := by
  intro r
  induction r with
  | zero =>
    intro i a b x hi hx
    have hi' : i = 100 := by omega
    subst hi'
    have l1 : ((100 : Int32) ≤ Int32.ofNat 100) ↔ True := by decide
    rcases hx with rfl | ⟨u, rfl⟩
    · refine b127_3 ?_
      simp only [↓br_pos, ↓br_neg, ↓rF_I, ↓rF_L, ↓rF_R, ↓rF_N, rO_m, rB_m, ↓rI_m, wI_m, ↓rB2_m, ↓rB3_m, wB2_m, wB3_m, ↓rL_m, wL_m, ↓rQ_m, wQ_m, ↓lI_m, pI_m, pL_m, pR_m, sI_m, sBy_m, sBo_m, sL_m, sQ_m, fst_m, true_and, and_true, tg_some, ln_some, uI_1, uI_2, uL_1, uL_2, uL_3, uQ_1, uQ_2, uQ_3, rv_i, rv_l, rv_n, rv_b0, rv_b1, RMR, ne_eq, reduceCtorEq, not_false_eq_true, Option.getD_some, if_true, if_false, and_self, false_and, and_false, Nat.add_left_cancel_iff, Nat.add_eq_left, Nat.left_eq_add, Nat.one_ne_zero, Nat.reduceAdd, Nat.reduceLT, Nat.reduceLeDiff, Nat.reduceEqDiff, true_implies, false_implies, implies_true, Option.some.injEq, forall_eq', forall_eq, reduceCtorEq, brT, brF, br_s, i_10, i_01, ib_0_2, ib_1_2, tn_0, tn_1, Int32.le_refl, eq_self, rv_bN, rv_iM, l1]
      exact hQ _ gz
    · refine b127_3a ?_
      simp only [↓br_pos, ↓br_neg, ↓rF_I, ↓rF_L, ↓rF_R, ↓rF_N, rO_m, rB_m, ↓rI_m, wI_m, ↓rB2_m, ↓rB3_m, wB2_m, wB3_m, ↓rL_m, wL_m, ↓rQ_m, wQ_m, ↓lI_m, pI_m, pL_m, pR_m, sI_m, sBy_m, sBo_m, sL_m, sQ_m, fst_m, true_and, and_true, tg_some, ln_some, uI_1, uI_2, uL_1, uL_2, uL_3, uQ_1, uQ_2, uQ_3, rv_i, rv_l, rv_n, rv_b0, rv_b1, RMR, ne_eq, reduceCtorEq, not_false_eq_true, Option.getD_some, if_true, if_false, and_self, false_and, and_false, Nat.add_left_cancel_iff, Nat.add_eq_left, Nat.left_eq_add, Nat.one_ne_zero, Nat.reduceAdd, Nat.reduceLT, Nat.reduceLeDiff, Nat.reduceEqDiff, true_implies, false_implies, implies_true, Option.some.injEq, forall_eq', forall_eq, reduceCtorEq, brT, brF, br_s, i_10, i_01, ib_0_2, ib_1_2, tn_0, tn_1, Int32.le_refl, eq_self, rv_bN, rv_iM, l1]
      exact hQ _ gz
  | succ r ih =>
    intro i a b x hi hx
    have l1 : ((100 : Int32) ≤ Int32.ofNat i) ↔ False := iff_false_intro (fun q => absurd ((on_le (i := 100) (by omega) (by omega)).mp q) (by omega))
    by_cases z : b = 0
    · have c : (lg_cmp b (0 : Int64) = 0) ↔ True := iff_true_intro ((lg_cmp_eq _ _).mpr z)
      rcases hx with rfl | ⟨u, rfl⟩
      · refine b127_3 ?_
        simp only [↓br_pos, ↓br_neg, ↓rF_I, ↓rF_L, ↓rF_R, ↓rF_N, rO_m, rB_m, ↓rI_m, wI_m, ↓rB2_m, ↓rB3_m, wB2_m, wB3_m, ↓rL_m, wL_m, ↓rQ_m, wQ_m, ↓lI_m, pI_m, pL_m, pR_m, sI_m, sBy_m, sBo_m, sL_m, sQ_m, fst_m, true_and, and_true, tg_some, ln_some, uI_1, uI_2, uL_1, uL_2, uL_3, uQ_1, uQ_2, uQ_3, rv_i, rv_l, rv_n, rv_b0, rv_b1, RMR, ne_eq, reduceCtorEq, not_false_eq_true, Option.getD_some, if_true, if_false, and_self, false_and, and_false, Nat.add_left_cancel_iff, Nat.add_eq_left, Nat.left_eq_add, Nat.one_ne_zero, Nat.reduceAdd, Nat.reduceLT, Nat.reduceLeDiff, Nat.reduceEqDiff, true_implies, false_implies, implies_true, Option.some.injEq, forall_eq', forall_eq, reduceCtorEq, brT, brF, br_s, i_10, i_01, ib_0_2, ib_1_2, tn_0, tn_1, Int32.le_refl, eq_self, rv_bN, rv_iM, l1, c]
        exact hQ _ gz
      · refine b127_3a ?_
        simp only [↓br_pos, ↓br_neg, ↓rF_I, ↓rF_L, ↓rF_R, ↓rF_N, rO_m, rB_m, ↓rI_m, wI_m, ↓rB2_m, ↓rB3_m, wB2_m, wB3_m, ↓rL_m, wL_m, ↓rQ_m, wQ_m, ↓lI_m, pI_m, pL_m, pR_m, sI_m, sBy_m, sBo_m, sL_m, sQ_m, fst_m, true_and, and_true, tg_some, ln_some, uI_1, uI_2, uL_1, uL_2, uL_3, uQ_1, uQ_2, uQ_3, rv_i, rv_l, rv_n, rv_b0, rv_b1, RMR, ne_eq, reduceCtorEq, not_false_eq_true, Option.getD_some, if_true, if_false, and_self, false_and, and_false, Nat.add_left_cancel_iff, Nat.add_eq_left, Nat.left_eq_add, Nat.one_ne_zero, Nat.reduceAdd, Nat.reduceLT, Nat.reduceLeDiff, Nat.reduceEqDiff, true_implies, false_implies, implies_true, Option.some.injEq, forall_eq', forall_eq, reduceCtorEq, brT, brF, br_s, i_10, i_01, ib_0_2, ib_1_2, tn_0, tn_1, Int32.le_refl, eq_self, rv_bN, rv_iM, l1, c]
        exact hQ _ gz
    · have c : (lg_cmp b (0 : Int64) = 0) ↔ False := iff_false_intro (fun q => z ((lg_cmp_eq _ _).mp q))
      rcases hx with rfl | ⟨u, rfl⟩
      · refine b127_3 ?_
        simp only [↓br_pos, ↓br_neg, ↓rF_I, ↓rF_L, ↓rF_R, ↓rF_N, rO_m, rB_m, ↓rI_m, wI_m, ↓rB2_m, ↓rB3_m, wB2_m, wB3_m, ↓rL_m, wL_m, ↓rQ_m, wQ_m, ↓lI_m, pI_m, pL_m, pR_m, sI_m, sBy_m, sBo_m, sL_m, sQ_m, fst_m, true_and, and_true, tg_some, ln_some, uI_1, uI_2, uL_1, uL_2, uL_3, uQ_1, uQ_2, uQ_3, rv_i, rv_l, rv_n, rv_b0, rv_b1, RMR, ne_eq, reduceCtorEq, not_false_eq_true, Option.getD_some, if_true, if_false, and_self, false_and, and_false, Nat.add_left_cancel_iff, Nat.add_eq_left, Nat.left_eq_add, Nat.one_ne_zero, Nat.reduceAdd, Nat.reduceLT, Nat.reduceLeDiff, Nat.reduceEqDiff, true_implies, false_implies, implies_true, Option.some.injEq, forall_eq', forall_eq, reduceCtorEq, brT, brF, br_s, i_10, i_01, ib_0_2, ib_1_2, tn_0, tn_1, Int32.le_refl, eq_self, rv_bN, rv_iM, l1, c]
        refine ⟨z, b127_26 ?_⟩
        rw [on_succ]
        exact ih _ _ _ _ (by omega) (Or.inr ⟨_, rfl⟩)
      · refine b127_3a ?_
        simp only [↓br_pos, ↓br_neg, ↓rF_I, ↓rF_L, ↓rF_R, ↓rF_N, rO_m, rB_m, ↓rI_m, wI_m, ↓rB2_m, ↓rB3_m, wB2_m, wB3_m, ↓rL_m, wL_m, ↓rQ_m, wQ_m, ↓lI_m, pI_m, pL_m, pR_m, sI_m, sBy_m, sBo_m, sL_m, sQ_m, fst_m, true_and, and_true, tg_some, ln_some, uI_1, uI_2, uL_1, uL_2, uL_3, uQ_1, uQ_2, uQ_3, rv_i, rv_l, rv_n, rv_b0, rv_b1, RMR, ne_eq, reduceCtorEq, not_false_eq_true, Option.getD_some, if_true, if_false, and_self, false_and, and_false, Nat.add_left_cancel_iff, Nat.add_eq_left, Nat.left_eq_add, Nat.one_ne_zero, Nat.reduceAdd, Nat.reduceLT, Nat.reduceLeDiff, Nat.reduceEqDiff, true_implies, false_implies, implies_true, Option.some.injEq, forall_eq', forall_eq, reduceCtorEq, brT, brF, br_s, i_10, i_01, ib_0_2, ib_1_2, tn_0, tn_1, Int32.le_refl, eq_self, rv_bN, rv_iM, l1, c]
        refine ⟨z, b127_26 ?_⟩
        rw [on_succ]
        exact ih _ _ _ _ (by omega) (Or.inr ⟨_, rfl⟩)
theorem s_127 {w : mT} {σ : mS} {a b : Int64} {D : Nat} {K : Int64 → Hp → Prop} (hK : ∀ g : Int64, g ≠ 0 → K g (mW w σ)) (hD : 1 ≤ D) : wpL D 127 [.long a, .long b] (mW w σ) K := by
  refine sL_of (m := 0) (fun d hd Q hQ => ?_) rfl hD
  exact b127_0 (lps_127 (fun g hg => hQ _ _ (hK g hg)) 100 0 a b jk (by omega) (Or.inl rfl))
theorem ib64 {s : Nat} (h : s < 64) : inB (Int32.ofNat s) 64 = true := on_inB h (by omega)
theorem s_4 {w : mT} {σ : mS} {s u D : Nat} {K : Int32 → Hp → Prop} (hw : lit w) (hs : s < 64) (hu : u < 64) (hK : ∀ x, K x (mW w σ)) (hD : 1 ≤ D) : wpI D 4 [.ref 72, .int (Int32.ofNat s), .int (Int32.ofNat u)] (mW w σ) K := by
  refine sI_of (m := 0) (fun d hd Q hQ => ?_) rfl hD
  have es := on_nat (i := s) (by omega)
  have eu := on_nat (i := u) (by omega)
  refine b4_0 ?_
  simp only [↓rF_I, ↓rF_L, ↓rF_R, ↓rF_N, rO_m, rB_m, ↓rI_m, wI_m, ↓rB2_m, ↓rB3_m, wB2_m, wB3_m, ↓rL_m, wL_m, ↓rQ_m, wQ_m, ↓lI_m, pI_m, pL_m, pR_m, sI_m, sBy_m, sBo_m, sL_m, sQ_m, fst_m, true_and, and_true, tg_some, ln_some, uI_1, uI_2, uL_1, uL_2, uL_3, uQ_1, uQ_2, uQ_3, rv_i, rv_l, rv_n, rv_b0, rv_b1, RMR, ne_eq, reduceCtorEq, not_false_eq_true, Option.getD_some, if_true, if_false, and_self, false_and, and_false, Nat.add_left_cancel_iff, Nat.add_eq_left, Nat.left_eq_add, Nat.one_ne_zero, Nat.reduceAdd, Nat.reduceLT, Nat.reduceLeDiff, Nat.reduceEqDiff, true_implies, false_implies, implies_true, Option.some.injEq, forall_eq', forall_eq, reduceCtorEq, brT, brF, br_s, i_10, i_01, ib_0_2, ib_1_2, tn_0, tn_1, Int32.le_refl, eq_self, rv_bN, rv_iM, RCX 0, RCG 2, RCT 4, RCT 15, RCT 25, RCS 35, RCS 49, RCH 63, RCP 67, RCB 72, RCR 77, RCM 81, RLY, lit_at hw, ib64 hs, ib64 hu, es, eu]
  exact br2 (hQ _ _ (hK _)) (hQ _ _ (hK _))
theorem s_5 {w : mT} {σ : mS} {s u n D : Nat} {K : Hp → Prop} (hw : lit w) (hs : s < 64) (hu : u < 64) (hI : blI σ n) (hK : ∀ σ', frW 72 77 σ σ' → blI σ' n → K (mW w σ')) (hD : 2 ≤ D) : wpV D 5 [.ref 72, .int (Int32.ofNat s), .int (Int32.ofNat u)] (mW w σ) K := by
  refine sV_of (m := 1) (fun d hd Q hQ => ?_) rfl hD
  have es := on_nat (i := s) (by omega)
  have eu := on_nat (i := u) (by omega)
  refine b5_0 ?_
  simp only [↓rF_I, ↓rF_L, ↓rF_R, ↓rF_N, rO_m, rB_m, ↓rI_m, wI_m, ↓rB2_m, ↓rB3_m, wB2_m, wB3_m, ↓rL_m, wL_m, ↓rQ_m, wQ_m, ↓lI_m, pI_m, pL_m, pR_m, sI_m, sBy_m, sBo_m, sL_m, sQ_m, fst_m, true_and, and_true, tg_some, ln_some, uI_1, uI_2, uL_1, uL_2, uL_3, uQ_1, uQ_2, uQ_3, rv_i, rv_l, rv_n, rv_b0, rv_b1, RMR, ne_eq, reduceCtorEq, not_false_eq_true, Option.getD_some, if_true, if_false, and_self, false_and, and_false, Nat.add_left_cancel_iff, Nat.add_eq_left, Nat.left_eq_add, Nat.one_ne_zero, Nat.reduceAdd, Nat.reduceLT, Nat.reduceLeDiff, Nat.reduceEqDiff, true_implies, false_implies, implies_true, Option.some.injEq, forall_eq', forall_eq, reduceCtorEq, brT, brF, br_s, i_10, i_01, ib_0_2, ib_1_2, tn_0, tn_1, Int32.le_refl, eq_self, rv_bN, rv_iM, RCX 0, RCG 2, RCT 4, RCT 15, RCT 25, RCS 35, RCS 49, RCH 63, RCP 67, RCB 72, RCR 77, RCM 81, RLY, lit_at hw]
  refine s_4 hw hs hu (fun x => ?_) hd
  simp only [↓rF_I, ↓rF_L, ↓rF_R, ↓rF_N, rO_m, rB_m, ↓rI_m, wI_m, ↓rB2_m, ↓rB3_m, wB2_m, wB3_m, ↓rL_m, wL_m, ↓rQ_m, wQ_m, ↓lI_m, pI_m, pL_m, pR_m, sI_m, sBy_m, sBo_m, sL_m, sQ_m, fst_m, true_and, and_true, tg_some, ln_some, uI_1, uI_2, uL_1, uL_2, uL_3, uQ_1, uQ_2, uQ_3, rv_i, rv_l, rv_n, rv_b0, rv_b1, RMR, ne_eq, reduceCtorEq, not_false_eq_true, Option.getD_some, if_true, if_false, and_self, false_and, and_false, Nat.add_left_cancel_iff, Nat.add_eq_left, Nat.left_eq_add, Nat.one_ne_zero, Nat.reduceAdd, Nat.reduceLT, Nat.reduceLeDiff, Nat.reduceEqDiff, true_implies, false_implies, implies_true, Option.some.injEq, forall_eq', forall_eq, reduceCtorEq, brT, brF, br_s, i_10, i_01, ib_0_2, ib_1_2, tn_0, tn_1, Int32.le_refl, eq_self, rv_bN, rv_iM, RCX 0, RCG 2, RCT 4, RCT 15, RCT 25, RCS 35, RCS 49, RCH 63, RCP 67, RCB 72, RCR 77, RCM 81, RLY, lit_at hw, ib64 hs, ib64 hu, es, eu]
  exact br2 (hQ _ (hK σ frW_rf hI)) (hQ _ (hK _ (frW_tr (frW_L (by omega)) (frW_L (by omega))) (blI_fr hI rfl rfl)))
theorem lp_3 {w : mT} {σ : mS} {s n d : Nat} {Q : Option (Option Value) → Hp → Prop} (hw : lit w) (hs : s < 64) (hI : blI σ n) (hd : 1 ≤ d) (hQ : ∀ y, y < 64 → Q (some (some (.int (Int32.ofNat y)))) (mW w σ)) : ∀ (r i y : Nat) (x : Value), i + r = n → y < 64 → (x = jk ∨ ∃ u : Int32, x = .int u) → Wp 3 4 [.ref 72, .int (Int32.ofNat s), .int (Int32.ofNat y), .int (Int32.ofNat i), x] [] (mW w σ) Q d := by
  have n6 := hI.2.1
  intro r
  induction r with
  | zero =>
    intro i y x hi hy hx
    have hi' : i = n := by omega
    subst hi'
    rcases hx with rfl | ⟨u, rfl⟩
    · refine b3_4 ?_
      simp only [↓br_pos, ↓br_neg, ↓rF_I, ↓rF_L, ↓rF_R, ↓rF_N, rO_m, rB_m, ↓rI_m, wI_m, ↓rB2_m, ↓rB3_m, wB2_m, wB3_m, ↓rL_m, wL_m, ↓rQ_m, wQ_m, ↓lI_m, pI_m, pL_m, pR_m, sI_m, sBy_m, sBo_m, sL_m, sQ_m, fst_m, true_and, and_true, tg_some, ln_some, uI_1, uI_2, uL_1, uL_2, uL_3, uQ_1, uQ_2, uQ_3, rv_i, rv_l, rv_n, rv_b0, rv_b1, RMR, ne_eq, reduceCtorEq, not_false_eq_true, Option.getD_some, if_true, if_false, and_self, false_and, and_false, Nat.add_left_cancel_iff, Nat.add_eq_left, Nat.left_eq_add, Nat.one_ne_zero, Nat.reduceAdd, Nat.reduceLT, Nat.reduceLeDiff, Nat.reduceEqDiff, true_implies, false_implies, implies_true, Option.some.injEq, forall_eq', forall_eq, reduceCtorEq, brT, brF, br_s, i_10, i_01, ib_0_2, ib_1_2, tn_0, tn_1, Int32.le_refl, eq_self, rv_bN, rv_iM, RCX 0, RCG 2, RCT 4, RCT 15, RCT 25, RCS 35, RCS 49, RCH 63, RCP 67, RCB 72, RCR 77, RCM 81, RLY, lit_at hw, hI.1, Int32.le_refl]
      exact hQ y hy
    · refine b3_4a ?_
      simp only [↓br_pos, ↓br_neg, ↓rF_I, ↓rF_L, ↓rF_R, ↓rF_N, rO_m, rB_m, ↓rI_m, wI_m, ↓rB2_m, ↓rB3_m, wB2_m, wB3_m, ↓rL_m, wL_m, ↓rQ_m, wQ_m, ↓lI_m, pI_m, pL_m, pR_m, sI_m, sBy_m, sBo_m, sL_m, sQ_m, fst_m, true_and, and_true, tg_some, ln_some, uI_1, uI_2, uL_1, uL_2, uL_3, uQ_1, uQ_2, uQ_3, rv_i, rv_l, rv_n, rv_b0, rv_b1, RMR, ne_eq, reduceCtorEq, not_false_eq_true, Option.getD_some, if_true, if_false, and_self, false_and, and_false, Nat.add_left_cancel_iff, Nat.add_eq_left, Nat.left_eq_add, Nat.one_ne_zero, Nat.reduceAdd, Nat.reduceLT, Nat.reduceLeDiff, Nat.reduceEqDiff, true_implies, false_implies, implies_true, Option.some.injEq, forall_eq', forall_eq, reduceCtorEq, brT, brF, br_s, i_10, i_01, ib_0_2, ib_1_2, tn_0, tn_1, Int32.le_refl, eq_self, rv_bN, rv_iM, RCX 0, RCG 2, RCT 4, RCT 15, RCT 25, RCS 35, RCS 49, RCH 63, RCP 67, RCB 72, RCR 77, RCM 81, RLY, lit_at hw, hI.1, Int32.le_refl]
      exact hQ y hy
  | succ r ih =>
    intro i y x hi hy hx
    have hi6 : i < 6 := by omega
    have l1 : (Int32.ofNat n ≤ Int32.ofNat i) ↔ False := iff_false_intro (fun q => absurd ((on_le (by omega) (by omega)).mp q) (by omega))
    rcases hx with rfl | ⟨u, rfl⟩
    · skip
      refine b3_4 ?_
      have q : ∀ y, y < 64 → Wp 3 4 [.ref 72, .int (Int32.ofNat s), .int (Int32.ofNat y), .int (Int32.ofNat (i + 1)), .int (Int32.ofNat (s ||| 2 ^ i))] [] (mW w σ) Q d := fun y hy => ih (i + 1) y _ (by omega) hy (Or.inr ⟨_, rfl⟩)
      simp only [↓rF_I, ↓rF_L, ↓rF_R, ↓rF_N, rO_m, rB_m, ↓rI_m, wI_m, ↓rB2_m, ↓rB3_m, wB2_m, wB3_m, ↓rL_m, wL_m, ↓rQ_m, wQ_m, ↓lI_m, pI_m, pL_m, pR_m, sI_m, sBy_m, sBo_m, sL_m, sQ_m, fst_m, true_and, and_true, tg_some, ln_some, uI_1, uI_2, uL_1, uL_2, uL_3, uQ_1, uQ_2, uQ_3, rv_i, rv_l, rv_n, rv_b0, rv_b1, RMR, ne_eq, reduceCtorEq, not_false_eq_true, Option.getD_some, if_true, if_false, and_self, false_and, and_false, Nat.add_left_cancel_iff, Nat.add_eq_left, Nat.left_eq_add, Nat.one_ne_zero, Nat.reduceAdd, Nat.reduceLT, Nat.reduceLeDiff, Nat.reduceEqDiff, true_implies, false_implies, implies_true, Option.some.injEq, forall_eq', forall_eq, reduceCtorEq, brT, brF, br_s, i_10, i_01, ib_0_2, ib_1_2, tn_0, tn_1, Int32.le_refl, eq_self, rv_bN, rv_iM, RCX 0, RCG 2, RCT 4, RCT 15, RCT 25, RCS 35, RCS 49, RCH 63, RCP 67, RCB 72, RCR 77, RCM 81, RLY, lit_at hw, hI.1, l1, (orb hs hi6).1, on_succ]
      refine br2 (q _ hy) (br2 (q _ (orb hs hi6).2) ?_)
      refine s_4 hw (orb hs hi6).2 hy (fun x => ?_) hd
      exact br2 (q _ hy) (q _ (orb hs hi6).2)
    · skip
      refine b3_4a ?_
      have q : ∀ y, y < 64 → Wp 3 4 [.ref 72, .int (Int32.ofNat s), .int (Int32.ofNat y), .int (Int32.ofNat (i + 1)), .int (Int32.ofNat (s ||| 2 ^ i))] [] (mW w σ) Q d := fun y hy => ih (i + 1) y _ (by omega) hy (Or.inr ⟨_, rfl⟩)
      simp only [↓rF_I, ↓rF_L, ↓rF_R, ↓rF_N, rO_m, rB_m, ↓rI_m, wI_m, ↓rB2_m, ↓rB3_m, wB2_m, wB3_m, ↓rL_m, wL_m, ↓rQ_m, wQ_m, ↓lI_m, pI_m, pL_m, pR_m, sI_m, sBy_m, sBo_m, sL_m, sQ_m, fst_m, true_and, and_true, tg_some, ln_some, uI_1, uI_2, uL_1, uL_2, uL_3, uQ_1, uQ_2, uQ_3, rv_i, rv_l, rv_n, rv_b0, rv_b1, RMR, ne_eq, reduceCtorEq, not_false_eq_true, Option.getD_some, if_true, if_false, and_self, false_and, and_false, Nat.add_left_cancel_iff, Nat.add_eq_left, Nat.left_eq_add, Nat.one_ne_zero, Nat.reduceAdd, Nat.reduceLT, Nat.reduceLeDiff, Nat.reduceEqDiff, true_implies, false_implies, implies_true, Option.some.injEq, forall_eq', forall_eq, reduceCtorEq, brT, brF, br_s, i_10, i_01, ib_0_2, ib_1_2, tn_0, tn_1, Int32.le_refl, eq_self, rv_bN, rv_iM, RCX 0, RCG 2, RCT 4, RCT 15, RCT 25, RCS 35, RCS 49, RCH 63, RCP 67, RCB 72, RCR 77, RCM 81, RLY, lit_at hw, hI.1, l1, (orb hs hi6).1, on_succ]
      refine br2 (q _ hy) (br2 (q _ (orb hs hi6).2) ?_)
      refine s_4 hw (orb hs hi6).2 hy (fun x => ?_) hd
      exact br2 (q _ hy) (q _ (orb hs hi6).2)
theorem s_3 {w : mT} {σ : mS} {s n D : Nat} {K : Int32 → Hp → Prop} (hw : lit w) (hs : s < 64) (hI : blI σ n) (hK : ∀ y, y < 64 → K (Int32.ofNat y) (mW w σ)) (hD : 2 ≤ D) : wpI D 3 [.ref 72, .int (Int32.ofNat s)] (mW w σ) K := by
  refine sI_of (m := 1) (fun d hd Q hQ => ?_) rfl hD
  exact b3_0 (lp_3 hw hs hI hd (fun y hy => hQ _ _ (hK y hy)) n 0 0 jk (by omega) (by omega) (Or.inl rfl))
theorem lp_7 {w : mT} {σ : mS} {s n d : Nat} {Q : Option (Option Value) → Hp → Prop} (hw : lit w) (hs : s < 64) (hI : blI σ n) (hQ : ∀ y, y < 6 → Q (some (some (.int (Int32.ofNat y)))) (mW w σ)) : ∀ (r i : Nat) (x : Value), i + r = n → (x = jk ∨ ∃ u : Int32, x = .int u) → Wp 7 2 [.ref 72, .int (Int32.ofNat s), .int (Int32.ofNat i), x] [] (mW w σ) Q d := by
  have n6 := hI.2.1
  intro r
  induction r with
  | zero =>
    intro i x hi hx
    have hi' : i = n := by omega
    subst hi'
    rcases hx with rfl | ⟨u, rfl⟩
    · refine b7_2 ?_
      simp only [↓br_pos, ↓br_neg, ↓rF_I, ↓rF_L, ↓rF_R, ↓rF_N, rO_m, rB_m, ↓rI_m, wI_m, ↓rB2_m, ↓rB3_m, wB2_m, wB3_m, ↓rL_m, wL_m, ↓rQ_m, wQ_m, ↓lI_m, pI_m, pL_m, pR_m, sI_m, sBy_m, sBo_m, sL_m, sQ_m, fst_m, true_and, and_true, tg_some, ln_some, uI_1, uI_2, uL_1, uL_2, uL_3, uQ_1, uQ_2, uQ_3, rv_i, rv_l, rv_n, rv_b0, rv_b1, RMR, ne_eq, reduceCtorEq, not_false_eq_true, Option.getD_some, if_true, if_false, and_self, false_and, and_false, Nat.add_left_cancel_iff, Nat.add_eq_left, Nat.left_eq_add, Nat.one_ne_zero, Nat.reduceAdd, Nat.reduceLT, Nat.reduceLeDiff, Nat.reduceEqDiff, true_implies, false_implies, implies_true, Option.some.injEq, forall_eq', forall_eq, reduceCtorEq, brT, brF, br_s, i_10, i_01, ib_0_2, ib_1_2, tn_0, tn_1, Int32.le_refl, eq_self, rv_bN, rv_iM, RCX 0, RCG 2, RCT 4, RCT 15, RCT 25, RCS 35, RCS 49, RCH 63, RCP 67, RCB 72, RCR 77, RCM 81, RLY, lit_at hw, hI.1, Int32.le_refl]
      exact hQ 0 (by omega)
    · refine b7_2a ?_
      simp only [↓br_pos, ↓br_neg, ↓rF_I, ↓rF_L, ↓rF_R, ↓rF_N, rO_m, rB_m, ↓rI_m, wI_m, ↓rB2_m, ↓rB3_m, wB2_m, wB3_m, ↓rL_m, wL_m, ↓rQ_m, wQ_m, ↓lI_m, pI_m, pL_m, pR_m, sI_m, sBy_m, sBo_m, sL_m, sQ_m, fst_m, true_and, and_true, tg_some, ln_some, uI_1, uI_2, uL_1, uL_2, uL_3, uQ_1, uQ_2, uQ_3, rv_i, rv_l, rv_n, rv_b0, rv_b1, RMR, ne_eq, reduceCtorEq, not_false_eq_true, Option.getD_some, if_true, if_false, and_self, false_and, and_false, Nat.add_left_cancel_iff, Nat.add_eq_left, Nat.left_eq_add, Nat.one_ne_zero, Nat.reduceAdd, Nat.reduceLT, Nat.reduceLeDiff, Nat.reduceEqDiff, true_implies, false_implies, implies_true, Option.some.injEq, forall_eq', forall_eq, reduceCtorEq, brT, brF, br_s, i_10, i_01, ib_0_2, ib_1_2, tn_0, tn_1, Int32.le_refl, eq_self, rv_bN, rv_iM, RCX 0, RCG 2, RCT 4, RCT 15, RCT 25, RCS 35, RCS 49, RCH 63, RCP 67, RCB 72, RCR 77, RCM 81, RLY, lit_at hw, hI.1, Int32.le_refl]
      exact hQ 0 (by omega)
  | succ r ih =>
    intro i x hi hx
    have hi6 : i < 6 := by omega
    have l1 : (Int32.ofNat n ≤ Int32.ofNat i) ↔ False := iff_false_intro (fun q => absurd ((on_le (by omega) (by omega)).mp q) (by omega))
    have ew := on_nat (i := s ||| 2 ^ i) (by have := (orb hs hi6).2; omega)
    rcases hx with rfl | ⟨u, rfl⟩
    · skip
      refine b7_2 ?_
      have q : Wp 7 2 [.ref 72, .int (Int32.ofNat s), .int (Int32.ofNat (i + 1)), .int (Int32.ofNat (s ||| 2 ^ i))] [] (mW w σ) Q d := ih (i + 1) _ (by omega) (Or.inr ⟨_, rfl⟩)
      simp only [↓rF_I, ↓rF_L, ↓rF_R, ↓rF_N, rO_m, rB_m, ↓rI_m, wI_m, ↓rB2_m, ↓rB3_m, wB2_m, wB3_m, ↓rL_m, wL_m, ↓rQ_m, wQ_m, ↓lI_m, pI_m, pL_m, pR_m, sI_m, sBy_m, sBo_m, sL_m, sQ_m, fst_m, true_and, and_true, tg_some, ln_some, uI_1, uI_2, uL_1, uL_2, uL_3, uQ_1, uQ_2, uQ_3, rv_i, rv_l, rv_n, rv_b0, rv_b1, RMR, ne_eq, reduceCtorEq, not_false_eq_true, Option.getD_some, if_true, if_false, and_self, false_and, and_false, Nat.add_left_cancel_iff, Nat.add_eq_left, Nat.left_eq_add, Nat.one_ne_zero, Nat.reduceAdd, Nat.reduceLT, Nat.reduceLeDiff, Nat.reduceEqDiff, true_implies, false_implies, implies_true, Option.some.injEq, forall_eq', forall_eq, reduceCtorEq, brT, brF, br_s, i_10, i_01, ib_0_2, ib_1_2, tn_0, tn_1, Int32.le_refl, eq_self, rv_bN, rv_iM, RCX 0, RCG 2, RCT 4, RCT 15, RCT 25, RCS 35, RCS 49, RCH 63, RCP 67, RCB 72, RCR 77, RCM 81, RLY, lit_at hw, hI.1, l1, (orb hs hi6).1, on_succ, ib64 (orb hs hi6).2, ew]
      exact br2 q (br2 q (hQ i hi6))
    · skip
      refine b7_2a ?_
      have q : Wp 7 2 [.ref 72, .int (Int32.ofNat s), .int (Int32.ofNat (i + 1)), .int (Int32.ofNat (s ||| 2 ^ i))] [] (mW w σ) Q d := ih (i + 1) _ (by omega) (Or.inr ⟨_, rfl⟩)
      simp only [↓rF_I, ↓rF_L, ↓rF_R, ↓rF_N, rO_m, rB_m, ↓rI_m, wI_m, ↓rB2_m, ↓rB3_m, wB2_m, wB3_m, ↓rL_m, wL_m, ↓rQ_m, wQ_m, ↓lI_m, pI_m, pL_m, pR_m, sI_m, sBy_m, sBo_m, sL_m, sQ_m, fst_m, true_and, and_true, tg_some, ln_some, uI_1, uI_2, uL_1, uL_2, uL_3, uQ_1, uQ_2, uQ_3, rv_i, rv_l, rv_n, rv_b0, rv_b1, RMR, ne_eq, reduceCtorEq, not_false_eq_true, Option.getD_some, if_true, if_false, and_self, false_and, and_false, Nat.add_left_cancel_iff, Nat.add_eq_left, Nat.left_eq_add, Nat.one_ne_zero, Nat.reduceAdd, Nat.reduceLT, Nat.reduceLeDiff, Nat.reduceEqDiff, true_implies, false_implies, implies_true, Option.some.injEq, forall_eq', forall_eq, reduceCtorEq, brT, brF, br_s, i_10, i_01, ib_0_2, ib_1_2, tn_0, tn_1, Int32.le_refl, eq_self, rv_bN, rv_iM, RCX 0, RCG 2, RCT 4, RCT 15, RCT 25, RCS 35, RCS 49, RCH 63, RCP 67, RCB 72, RCR 77, RCM 81, RLY, lit_at hw, hI.1, l1, (orb hs hi6).1, on_succ, ib64 (orb hs hi6).2, ew]
      exact br2 q (br2 q (hQ i hi6))
theorem s_7 {w : mT} {σ : mS} {s n D : Nat} {K : Int32 → Hp → Prop} (hw : lit w) (hs : s < 64) (hI : blI σ n) (hK : ∀ y, y < 6 → K (Int32.ofNat y) (mW w σ)) (hD : 1 ≤ D) : wpI D 7 [.ref 72, .int (Int32.ofNat s)] (mW w σ) K := by
  refine sI_of (m := 0) (fun d hd Q hQ => ?_) rfl hD
  exact b7_0 (lp_7 hw hs hI (fun y hy => hQ _ _ (hK y hy)) n 0 jk (by omega) (Or.inl rfl))
theorem lp_6 {w : mT} {σ0 : mS} {n d : Nat} {v : Int32} {Q : Option (Option Value) → Hp → Prop} (hw : lit w) (hd : 1 ≤ d) (hQ : ∀ σ', frW 72 77 σ0 σ' → blI σ' n → Q (some none) (mW w σ')) : ∀ (r k s : Nat) (σ : mS) (x : Value), k + r = n → s < 64 → frW 72 77 σ0 σ → blI σ n → (x = jk ∨ ∃ u : Int32, x = .int u) → Wp 6 30 [.ref 72, .int v, .int (Int32.ofNat s), .int (Int32.ofNat k), x] [] (mW w σ) Q d := by
  intro r
  induction r with
  | zero =>
    intro k s σ x hk hs hf hI hx
    have hk' : k = n := by omega
    subst hk'
    rcases hx with rfl | ⟨u, rfl⟩
    · refine b6_30 ?_
      simp only [↓br_pos, ↓br_neg, ↓rF_I, ↓rF_L, ↓rF_R, ↓rF_N, rO_m, rB_m, ↓rI_m, wI_m, ↓rB2_m, ↓rB3_m, wB2_m, wB3_m, ↓rL_m, wL_m, ↓rQ_m, wQ_m, ↓lI_m, pI_m, pL_m, pR_m, sI_m, sBy_m, sBo_m, sL_m, sQ_m, fst_m, true_and, and_true, tg_some, ln_some, uI_1, uI_2, uL_1, uL_2, uL_3, uQ_1, uQ_2, uQ_3, rv_i, rv_l, rv_n, rv_b0, rv_b1, RMR, ne_eq, reduceCtorEq, not_false_eq_true, Option.getD_some, if_true, if_false, and_self, false_and, and_false, Nat.add_left_cancel_iff, Nat.add_eq_left, Nat.left_eq_add, Nat.one_ne_zero, Nat.reduceAdd, Nat.reduceLT, Nat.reduceLeDiff, Nat.reduceEqDiff, true_implies, false_implies, implies_true, Option.some.injEq, forall_eq', forall_eq, reduceCtorEq, brT, brF, br_s, i_10, i_01, ib_0_2, ib_1_2, tn_0, tn_1, Int32.le_refl, eq_self, rv_bN, rv_iM, RCX 0, RCG 2, RCT 4, RCT 15, RCT 25, RCS 35, RCS 49, RCH 63, RCP 67, RCB 72, RCR 77, RCM 81, RLY, lit_at hw, hI.1, Int32.le_refl]
      exact hQ σ hf hI
    · refine b6_30a ?_
      simp only [↓br_pos, ↓br_neg, ↓rF_I, ↓rF_L, ↓rF_R, ↓rF_N, rO_m, rB_m, ↓rI_m, wI_m, ↓rB2_m, ↓rB3_m, wB2_m, wB3_m, ↓rL_m, wL_m, ↓rQ_m, wQ_m, ↓lI_m, pI_m, pL_m, pR_m, sI_m, sBy_m, sBo_m, sL_m, sQ_m, fst_m, true_and, and_true, tg_some, ln_some, uI_1, uI_2, uL_1, uL_2, uL_3, uQ_1, uQ_2, uQ_3, rv_i, rv_l, rv_n, rv_b0, rv_b1, RMR, ne_eq, reduceCtorEq, not_false_eq_true, Option.getD_some, if_true, if_false, and_self, false_and, and_false, Nat.add_left_cancel_iff, Nat.add_eq_left, Nat.left_eq_add, Nat.one_ne_zero, Nat.reduceAdd, Nat.reduceLT, Nat.reduceLeDiff, Nat.reduceEqDiff, true_implies, false_implies, implies_true, Option.some.injEq, forall_eq', forall_eq, reduceCtorEq, brT, brF, br_s, i_10, i_01, ib_0_2, ib_1_2, tn_0, tn_1, Int32.le_refl, eq_self, rv_bN, rv_iM, RCX 0, RCG 2, RCT 4, RCT 15, RCT 25, RCS 35, RCS 49, RCH 63, RCP 67, RCB 72, RCR 77, RCM 81, RLY, lit_at hw, hI.1, Int32.le_refl]
      exact hQ σ hf hI
  | succ r ih =>
    intro k s σ x hk hs hf hI hx
    have n6 := hI.2.1
    have l1 : (Int32.ofNat n ≤ Int32.ofNat k) ↔ False := iff_false_intro (fun q => absurd ((on_le (by omega) (by omega)).mp q) (by omega))
    have eb : inB (Int32.ofNat k) 6 = true := on_inB (by omega) (by omega)
    have en := on_nat (i := k) (by omega)
    rcases hx with rfl | ⟨u, rfl⟩
    · skip
      refine b6_30 ?_
      simp only [↓rF_I, ↓rF_L, ↓rF_R, ↓rF_N, rO_m, rB_m, ↓rI_m, wI_m, ↓rB2_m, ↓rB3_m, wB2_m, wB3_m, ↓rL_m, wL_m, ↓rQ_m, wQ_m, ↓lI_m, pI_m, pL_m, pR_m, sI_m, sBy_m, sBo_m, sL_m, sQ_m, fst_m, true_and, and_true, tg_some, ln_some, uI_1, uI_2, uL_1, uL_2, uL_3, uQ_1, uQ_2, uQ_3, rv_i, rv_l, rv_n, rv_b0, rv_b1, RMR, ne_eq, reduceCtorEq, not_false_eq_true, Option.getD_some, if_true, if_false, and_self, false_and, and_false, Nat.add_left_cancel_iff, Nat.add_eq_left, Nat.left_eq_add, Nat.one_ne_zero, Nat.reduceAdd, Nat.reduceLT, Nat.reduceLeDiff, Nat.reduceEqDiff, true_implies, false_implies, implies_true, Option.some.injEq, forall_eq', forall_eq, reduceCtorEq, brT, brF, br_s, i_10, i_01, ib_0_2, ib_1_2, tn_0, tn_1, Int32.le_refl, eq_self, rv_bN, rv_iM, RCX 0, RCG 2, RCT 4, RCT 15, RCT 25, RCS 35, RCS 49, RCH 63, RCP 67, RCB 72, RCR 77, RCM 81, RLY, lit_at hw, hI.1, l1]
      refine s_7 hw hs hI (fun y hy => ?_) hd
      have eby : inB (Int32.ofNat y) 6 = true := on_inB (by omega) (by omega)
      have eny := on_nat (i := y) (by omega)
      simp only [↓rF_I, ↓rF_L, ↓rF_R, ↓rF_N, rO_m, rB_m, ↓rI_m, wI_m, ↓rB2_m, ↓rB3_m, wB2_m, wB3_m, ↓rL_m, wL_m, ↓rQ_m, wQ_m, ↓lI_m, pI_m, pL_m, pR_m, sI_m, sBy_m, sBo_m, sL_m, sQ_m, fst_m, true_and, and_true, tg_some, ln_some, uI_1, uI_2, uL_1, uL_2, uL_3, uQ_1, uQ_2, uQ_3, rv_i, rv_l, rv_n, rv_b0, rv_b1, RMR, ne_eq, reduceCtorEq, not_false_eq_true, Option.getD_some, if_true, if_false, and_self, false_and, and_false, Nat.add_left_cancel_iff, Nat.add_eq_left, Nat.left_eq_add, Nat.one_ne_zero, Nat.reduceAdd, Nat.reduceLT, Nat.reduceLeDiff, Nat.reduceEqDiff, true_implies, false_implies, implies_true, Option.some.injEq, forall_eq', forall_eq, reduceCtorEq, brT, brF, br_s, i_10, i_01, ib_0_2, ib_1_2, tn_0, tn_1, Int32.le_refl, eq_self, rv_bN, rv_iM, RCX 0, RCG 2, RCT 4, RCT 15, RCT 25, RCS 35, RCS 49, RCH 63, RCP 67, RCB 72, RCR 77, RCM 81, RLY, lit_at hw, eby, eny, eb, en, (orb hs hy).1, on_succ]
      exact ih (k + 1) _ _ _ (by omega) (orb hs hy).2 (frW_tr hf (frW_I (by omega))) (blI_fr hI (uI_o (by omega)) (uI_o (by omega))) (Or.inr ⟨_, rfl⟩)
    · skip
      refine b6_30a ?_
      simp only [↓rF_I, ↓rF_L, ↓rF_R, ↓rF_N, rO_m, rB_m, ↓rI_m, wI_m, ↓rB2_m, ↓rB3_m, wB2_m, wB3_m, ↓rL_m, wL_m, ↓rQ_m, wQ_m, ↓lI_m, pI_m, pL_m, pR_m, sI_m, sBy_m, sBo_m, sL_m, sQ_m, fst_m, true_and, and_true, tg_some, ln_some, uI_1, uI_2, uL_1, uL_2, uL_3, uQ_1, uQ_2, uQ_3, rv_i, rv_l, rv_n, rv_b0, rv_b1, RMR, ne_eq, reduceCtorEq, not_false_eq_true, Option.getD_some, if_true, if_false, and_self, false_and, and_false, Nat.add_left_cancel_iff, Nat.add_eq_left, Nat.left_eq_add, Nat.one_ne_zero, Nat.reduceAdd, Nat.reduceLT, Nat.reduceLeDiff, Nat.reduceEqDiff, true_implies, false_implies, implies_true, Option.some.injEq, forall_eq', forall_eq, reduceCtorEq, brT, brF, br_s, i_10, i_01, ib_0_2, ib_1_2, tn_0, tn_1, Int32.le_refl, eq_self, rv_bN, rv_iM, RCX 0, RCG 2, RCT 4, RCT 15, RCT 25, RCS 35, RCS 49, RCH 63, RCP 67, RCB 72, RCR 77, RCM 81, RLY, lit_at hw, hI.1, l1]
      refine s_7 hw hs hI (fun y hy => ?_) hd
      have eby : inB (Int32.ofNat y) 6 = true := on_inB (by omega) (by omega)
      have eny := on_nat (i := y) (by omega)
      simp only [↓rF_I, ↓rF_L, ↓rF_R, ↓rF_N, rO_m, rB_m, ↓rI_m, wI_m, ↓rB2_m, ↓rB3_m, wB2_m, wB3_m, ↓rL_m, wL_m, ↓rQ_m, wQ_m, ↓lI_m, pI_m, pL_m, pR_m, sI_m, sBy_m, sBo_m, sL_m, sQ_m, fst_m, true_and, and_true, tg_some, ln_some, uI_1, uI_2, uL_1, uL_2, uL_3, uQ_1, uQ_2, uQ_3, rv_i, rv_l, rv_n, rv_b0, rv_b1, RMR, ne_eq, reduceCtorEq, not_false_eq_true, Option.getD_some, if_true, if_false, and_self, false_and, and_false, Nat.add_left_cancel_iff, Nat.add_eq_left, Nat.left_eq_add, Nat.one_ne_zero, Nat.reduceAdd, Nat.reduceLT, Nat.reduceLeDiff, Nat.reduceEqDiff, true_implies, false_implies, implies_true, Option.some.injEq, forall_eq', forall_eq, reduceCtorEq, brT, brF, br_s, i_10, i_01, ib_0_2, ib_1_2, tn_0, tn_1, Int32.le_refl, eq_self, rv_bN, rv_iM, RCX 0, RCG 2, RCT 4, RCT 15, RCT 25, RCS 35, RCS 49, RCH 63, RCP 67, RCB 72, RCR 77, RCM 81, RLY, lit_at hw, eby, eny, eb, en, (orb hs hy).1, on_succ]
      exact ih (k + 1) _ _ _ (by omega) (orb hs hy).2 (frW_tr hf (frW_I (by omega))) (blI_fr hI (uI_o (by omega)) (uI_o (by omega))) (Or.inr ⟨_, rfl⟩)
theorem s_6 {w : mT} {σ : mS} {n D : Nat} {K : Hp → Prop} (hw : lit w) (hI : blI σ n) (hK : ∀ σ', frW 72 77 σ σ' → blI σ' n → K (mW w σ')) (hD : 3 ≤ D) : wpV D 6 [.ref 72] (mW w σ) K := by
  refine sV_of (m := 2) (fun d hd Q hQ => ?_) rfl hD
  refine b6_0 ?_
  have ob : True := trivial
  simp only [↓rF_I, ↓rF_L, ↓rF_R, ↓rF_N, rO_m, rB_m, ↓rI_m, wI_m, ↓rB2_m, ↓rB3_m, wB2_m, wB3_m, ↓rL_m, wL_m, ↓rQ_m, wQ_m, ↓lI_m, pI_m, pL_m, pR_m, sI_m, sBy_m, sBo_m, sL_m, sQ_m, fst_m, true_and, and_true, tg_some, ln_some, uI_1, uI_2, uL_1, uL_2, uL_3, uQ_1, uQ_2, uQ_3, rv_i, rv_l, rv_n, rv_b0, rv_b1, RMR, ne_eq, reduceCtorEq, not_false_eq_true, Option.getD_some, if_true, if_false, and_self, false_and, and_false, Nat.add_left_cancel_iff, Nat.add_eq_left, Nat.left_eq_add, Nat.one_ne_zero, Nat.reduceAdd, Nat.reduceLT, Nat.reduceLeDiff, Nat.reduceEqDiff, true_implies, false_implies, implies_true, Option.some.injEq, forall_eq', forall_eq, reduceCtorEq, brT, brF, br_s, i_10, i_01, ib_0_2, ib_1_2, tn_0, tn_1, Int32.le_refl, eq_self, rv_bN, rv_iM, RCX 0, RCG 2, RCT 4, RCT 15, RCT 25, RCS 35, RCS 49, RCH 63, RCP 67, RCB 72, RCR 77, RCM 81, RLY, lit_at hw]
  refine s_3 (s := 0) hw (by omega) hI (fun y hy => ?_) hd
  have eny := on_nat (i := y) (by omega)
  simp only [↓rF_I, ↓rF_L, ↓rF_R, ↓rF_N, rO_m, rB_m, ↓rI_m, wI_m, ↓rB2_m, ↓rB3_m, wB2_m, wB3_m, ↓rL_m, wL_m, ↓rQ_m, wQ_m, ↓lI_m, pI_m, pL_m, pR_m, sI_m, sBy_m, sBo_m, sL_m, sQ_m, fst_m, true_and, and_true, tg_some, ln_some, uI_1, uI_2, uL_1, uL_2, uL_3, uQ_1, uQ_2, uQ_3, rv_i, rv_l, rv_n, rv_b0, rv_b1, RMR, ne_eq, reduceCtorEq, not_false_eq_true, Option.getD_some, if_true, if_false, and_self, false_and, and_false, Nat.add_left_cancel_iff, Nat.add_eq_left, Nat.left_eq_add, Nat.one_ne_zero, Nat.reduceAdd, Nat.reduceLT, Nat.reduceLeDiff, Nat.reduceEqDiff, true_implies, false_implies, implies_true, Option.some.injEq, forall_eq', forall_eq, reduceCtorEq, brT, brF, br_s, i_10, i_01, ib_0_2, ib_1_2, tn_0, tn_1, Int32.le_refl, eq_self, rv_bN, rv_iM, RCX 0, RCG 2, RCT 4, RCT 15, RCT 25, RCS 35, RCS 49, RCH 63, RCP 67, RCB 72, RCR 77, RCM 81, RLY, lit_at hw, ib64 hy, eny]
  exact lp_6 hw (Nat.le_of_succ_le hd) (fun σ' f I => hQ _ (hK σ' f I)) n 0 0 _ jk (by omega) (by omega) (frW_tr (frW_L (by omega)) (frW_L (by omega))) (blI_fr hI rfl rfl) (Or.inl rfl)
theorem lp_2 {w : mT} {σ : mS} {P s n d : Nat} {τ ρ : Rw} {aim : Int32} {Q : Option (Option Value) → Hp → Prop} (hE : loE w σ P τ ρ) (hs : s < 64) (hI : blI σ n) (hQ : ∀ σ', frW 72 77 σ σ' → blI σ' n → Q (some none) (mW w σ')) : ∀ (r i : Nat) (a b : Int64) (x : Value), i + r = n → (x = jk ∨ ∃ u : Int64, x = .long u) → Wp 2 9 [.ref 72, .ref P, .ref 35, .int (Int32.ofNat s), .int aim, .long a, jk, .long b, jk, .int (Int32.ofNat i), x, jk] [] (mW w σ) Q d := by
  obtain ⟨hw, hP, hτ, hv, hρ, hr⟩ := hE
  have hT' := isTP hw hP
  simp only [isT] at hT'
  have n6 := hI.2.1
  have ens := on_nat (i := s) (by omega)
  intro r
  induction r with
  | zero =>
    intro i a b x hi hx
    have hi' : i = n := by omega
    subst hi'
    have fin := fun x y : Int64 => hQ (uL (uL σ 75 s x) 76 s y) (frW_tr (frW_L (by omega)) (frW_L (by omega))) (blI_fr hI rfl rfl)
    rcases hx with rfl | ⟨u, rfl⟩
    · refine b2_9 ?_
      simp only [↓br_pos, ↓br_neg, ↓rF_I, ↓rF_L, ↓rF_R, ↓rF_N, rO_m, rB_m, ↓rI_m, wI_m, ↓rB2_m, ↓rB3_m, wB2_m, wB3_m, ↓rL_m, wL_m, ↓rQ_m, wQ_m, ↓lI_m, pI_m, pL_m, pR_m, sI_m, sBy_m, sBo_m, sL_m, sQ_m, fst_m, true_and, and_true, tg_some, ln_some, uI_1, uI_2, uL_1, uL_2, uL_3, uQ_1, uQ_2, uQ_3, rv_i, rv_l, rv_n, rv_b0, rv_b1, RMR, ne_eq, reduceCtorEq, not_false_eq_true, Option.getD_some, if_true, if_false, and_self, false_and, and_false, Nat.add_left_cancel_iff, Nat.add_eq_left, Nat.left_eq_add, Nat.one_ne_zero, Nat.reduceAdd, Nat.reduceLT, Nat.reduceLeDiff, Nat.reduceEqDiff, true_implies, false_implies, implies_true, Option.some.injEq, forall_eq', forall_eq, reduceCtorEq, brT, brF, br_s, i_10, i_01, ib_0_2, ib_1_2, tn_0, tn_1, Int32.le_refl, eq_self, rv_bN, rv_iM, RCX 0, RCG 2, RCT 4, RCT 15, RCT 25, RCS 35, RCS 49, RCH 63, RCP 67, RCB 72, RCR 77, RCM 81, RLY, lit_at hw, hI.1, Int32.le_refl, ib64 hs, ens]
      exact fin _ _
    · refine b2_9a ?_
      simp only [↓br_pos, ↓br_neg, ↓rF_I, ↓rF_L, ↓rF_R, ↓rF_N, rO_m, rB_m, ↓rI_m, wI_m, ↓rB2_m, ↓rB3_m, wB2_m, wB3_m, ↓rL_m, wL_m, ↓rQ_m, wQ_m, ↓lI_m, pI_m, pL_m, pR_m, sI_m, sBy_m, sBo_m, sL_m, sQ_m, fst_m, true_and, and_true, tg_some, ln_some, uI_1, uI_2, uL_1, uL_2, uL_3, uQ_1, uQ_2, uQ_3, rv_i, rv_l, rv_n, rv_b0, rv_b1, RMR, ne_eq, reduceCtorEq, not_false_eq_true, Option.getD_some, if_true, if_false, and_self, false_and, and_false, Nat.add_left_cancel_iff, Nat.add_eq_left, Nat.left_eq_add, Nat.one_ne_zero, Nat.reduceAdd, Nat.reduceLT, Nat.reduceLeDiff, Nat.reduceEqDiff, true_implies, false_implies, implies_true, Option.some.injEq, forall_eq', forall_eq, reduceCtorEq, brT, brF, br_s, i_10, i_01, ib_0_2, ib_1_2, tn_0, tn_1, Int32.le_refl, eq_self, rv_bN, rv_iM, RCX 0, RCG 2, RCT 4, RCT 15, RCT 25, RCS 35, RCS 49, RCH 63, RCP 67, RCB 72, RCR 77, RCM 81, RLY, lit_at hw, hI.1, Int32.le_refl, ib64 hs, ens]
      exact fin _ _
  | succ r ih =>
    intro i a b x hi hx
    have l1 : (Int32.ofNat n ≤ Int32.ofNat i) ↔ False := iff_false_intro (fun q => absurd ((on_le (by omega) (by omega)).mp q) (by omega))
    have eb : inB (Int32.ofNat i) 6 = true := on_inB (by omega) (by omega)
    have en := on_nat (i := i) (by omega)
    obtain ⟨l, hl, el⟩ := hI.2.2 i (by omega)
    have ebl : inB (Int32.ofNat l) 12 = true := on_inB (by omega) (by omega)
    have enl := on_nat (i := l) (by omega)
    rcases hx with rfl | ⟨u, rfl⟩
    · skip
      refine b2_9 ?_
      simp only [↓rF_I, ↓rF_L, ↓rF_R, ↓rF_N, rO_m, rB_m, ↓rI_m, wI_m, ↓rB2_m, ↓rB3_m, wB2_m, wB3_m, ↓rL_m, wL_m, ↓rQ_m, wQ_m, ↓lI_m, pI_m, pL_m, pR_m, sI_m, sBy_m, sBo_m, sL_m, sQ_m, fst_m, true_and, and_true, tg_some, ln_some, uI_1, uI_2, uL_1, uL_2, uL_3, uQ_1, uQ_2, uQ_3, rv_i, rv_l, rv_n, rv_b0, rv_b1, RMR, ne_eq, reduceCtorEq, not_false_eq_true, Option.getD_some, if_true, if_false, and_self, false_and, and_false, Nat.add_left_cancel_iff, Nat.add_eq_left, Nat.left_eq_add, Nat.one_ne_zero, Nat.reduceAdd, Nat.reduceLT, Nat.reduceLeDiff, Nat.reduceEqDiff, true_implies, false_implies, implies_true, Option.some.injEq, forall_eq', forall_eq, reduceCtorEq, brT, brF, br_s, i_10, i_01, ib_0_2, ib_1_2, tn_0, tn_1, Int32.le_refl, eq_self, rv_bN, rv_iM, RCX 0, RCG 2, RCT 4, RCT 15, RCT 25, RCS 35, RCS 49, RCH 63, RCP 67, RCB 72, RCR 77, RCM 81, RLY, lit_at hw, RCT P, hT', hI.1, l1, eb, en, el, ebl, enl]
      refine br2 (b2_71a ?_) (b2_71 ?_)
      · rw [on_succ]
        exact ih (i + 1) _ _ _ (by omega) (Or.inr ⟨_, rfl⟩)
      · rw [on_succ]
        exact ih (i + 1) _ _ _ (by omega) (Or.inl rfl)
    · skip
      refine b2_9a ?_
      simp only [↓rF_I, ↓rF_L, ↓rF_R, ↓rF_N, rO_m, rB_m, ↓rI_m, wI_m, ↓rB2_m, ↓rB3_m, wB2_m, wB3_m, ↓rL_m, wL_m, ↓rQ_m, wQ_m, ↓lI_m, pI_m, pL_m, pR_m, sI_m, sBy_m, sBo_m, sL_m, sQ_m, fst_m, true_and, and_true, tg_some, ln_some, uI_1, uI_2, uL_1, uL_2, uL_3, uQ_1, uQ_2, uQ_3, rv_i, rv_l, rv_n, rv_b0, rv_b1, RMR, ne_eq, reduceCtorEq, not_false_eq_true, Option.getD_some, if_true, if_false, and_self, false_and, and_false, Nat.add_left_cancel_iff, Nat.add_eq_left, Nat.left_eq_add, Nat.one_ne_zero, Nat.reduceAdd, Nat.reduceLT, Nat.reduceLeDiff, Nat.reduceEqDiff, true_implies, false_implies, implies_true, Option.some.injEq, forall_eq', forall_eq, reduceCtorEq, brT, brF, br_s, i_10, i_01, ib_0_2, ib_1_2, tn_0, tn_1, Int32.le_refl, eq_self, rv_bN, rv_iM, RCX 0, RCG 2, RCT 4, RCT 15, RCT 25, RCS 35, RCS 49, RCH 63, RCP 67, RCB 72, RCR 77, RCM 81, RLY, lit_at hw, RCT P, hT', hI.1, l1, eb, en, el, ebl, enl]
      refine br2 (b2_71a ?_) (b2_71a ?_)
      · rw [on_succ]
        exact ih (i + 1) _ _ _ (by omega) (Or.inr ⟨_, rfl⟩)
      · rw [on_succ]
        exact ih (i + 1) _ _ _ (by omega) (Or.inr ⟨_, rfl⟩)
theorem s_2 {w : mT} {σ : mS} {P s n D : Nat} {τ ρ : Rw} {aim : Int32} {K : Hp → Prop} (hE : loE w σ P τ ρ) (hs : s < 64) (hI : blI σ n) (hK : ∀ σ', frW 72 77 σ σ' → blI σ' n → K (mW w σ')) (hD : 1 ≤ D) : wpV D 2 [.ref 72, .ref P, .ref 35, .int (Int32.ofNat s), .int aim] (mW w σ) K := by
  refine sV_of (m := 0) (fun d hd Q hQ => ?_) rfl hD
  exact b2_0 (lp_2 hE hs hI (fun σ' f I => hQ _ (hK σ' f I)) n 0 0 0 jk (by omega) (Or.inl rfl))
theorem lpB_1 {w : mT} {σ0 : mS} {P n all d : Nat} {τ ρ : Rw} {bits aim a5 : Int32} {Q : Option (Option Value) → Hp → Prop} (hd : 3 ≤ d) (ha : all < 64) (hQ : ∀ σ', frW 72 77 σ0 σ' → blI σ' n → Q (some (some (.int 1))) (mW w σ')) : ∀ (s : Nat) (σ : mS), s < 64 → frW 72 77 σ0 σ → loE w σ P τ ρ → blI σ n → Wp 1 126 [.ref 72, .ref P, .ref 35, .int bits, .int aim, .int a5, .int (Int32.ofNat all), .int (Int32.ofNat s)] [] (mW w σ) Q d := by
  have hd1 : 1 ≤ d := by omega
  have hd2 : 2 ≤ d := by omega
  intro s
  induction s with
  | zero =>
    intro σ hs hf hE hI
    have hw := hE.1
    refine b1_126 ?_
    have c0 : (Int32.ofNat 0 ≤ (0 : Int32)) ↔ True := by decide
    simp only [↓br_pos, ↓br_neg, ↓rF_I, ↓rF_L, ↓rF_R, ↓rF_N, rO_m, rB_m, ↓rI_m, wI_m, ↓rB2_m, ↓rB3_m, wB2_m, wB3_m, ↓rL_m, wL_m, ↓rQ_m, wQ_m, ↓lI_m, pI_m, pL_m, pR_m, sI_m, sBy_m, sBo_m, sL_m, sQ_m, fst_m, true_and, and_true, tg_some, ln_some, uI_1, uI_2, uL_1, uL_2, uL_3, uQ_1, uQ_2, uQ_3, rv_i, rv_l, rv_n, rv_b0, rv_b1, RMR, ne_eq, reduceCtorEq, not_false_eq_true, Option.getD_some, if_true, if_false, and_self, false_and, and_false, Nat.add_left_cancel_iff, Nat.add_eq_left, Nat.left_eq_add, Nat.one_ne_zero, Nat.reduceAdd, Nat.reduceLT, Nat.reduceLeDiff, Nat.reduceEqDiff, true_implies, false_implies, implies_true, Option.some.injEq, forall_eq', forall_eq, reduceCtorEq, brT, brF, br_s, i_10, i_01, ib_0_2, ib_1_2, tn_0, tn_1, Int32.le_refl, eq_self, rv_bN, rv_iM, RCX 0, RCG 2, RCT 4, RCT 15, RCT 25, RCS 35, RCS 49, RCH 63, RCP 67, RCB 72, RCR 77, RCM 81, RLY, lit_at hw, c0]
    exact s_6 hw hI (fun σ' f I => hQ σ' (frW_tr hf f) I) hd
  | succ s ih =>
    intro σ hs hf hE hI
    have hw := hE.1
    have c0 : (Int32.ofNat (s + 1) ≤ (0 : Int32)) ↔ False := iff_false_intro (fun q => absurd ((of_le0 (by omega)).mp q) (by omega))
    have e2 : Int32.ofNat (s + 1) + -1 = Int32.ofNat s := by rw [← on_succ, Int32.add_assoc]; exact Int32.add_zero _
    refine b1_126 ?_
    simp only [↓br_pos, ↓br_neg, ↓rF_I, ↓rF_L, ↓rF_R, ↓rF_N, rO_m, rB_m, ↓rI_m, wI_m, ↓rB2_m, ↓rB3_m, wB2_m, wB3_m, ↓rL_m, wL_m, ↓rQ_m, wQ_m, ↓lI_m, pI_m, pL_m, pR_m, sI_m, sBy_m, sBo_m, sL_m, sQ_m, fst_m, true_and, and_true, tg_some, ln_some, uI_1, uI_2, uL_1, uL_2, uL_3, uQ_1, uQ_2, uQ_3, rv_i, rv_l, rv_n, rv_b0, rv_b1, RMR, ne_eq, reduceCtorEq, not_false_eq_true, Option.getD_some, if_true, if_false, and_self, false_and, and_false, Nat.add_left_cancel_iff, Nat.add_eq_left, Nat.left_eq_add, Nat.one_ne_zero, Nat.reduceAdd, Nat.reduceLT, Nat.reduceLeDiff, Nat.reduceEqDiff, true_implies, false_implies, implies_true, Option.some.injEq, forall_eq', forall_eq, reduceCtorEq, brT, brF, br_s, i_10, i_01, ib_0_2, ib_1_2, tn_0, tn_1, Int32.le_refl, eq_self, rv_bN, rv_iM, RCX 0, RCG 2, RCT 4, RCT 15, RCT 25, RCS 35, RCS 49, RCH 63, RCP 67, RCB 72, RCR 77, RCM 81, RLY, lit_at hw, c0]
    refine s_2 hE hs hI (fun σ1 f1 I1 => ?_) hd1
    simp only [↓rF_I, ↓rF_L, ↓rF_R, ↓rF_N, rO_m, rB_m, ↓rI_m, wI_m, ↓rB2_m, ↓rB3_m, wB2_m, wB3_m, ↓rL_m, wL_m, ↓rQ_m, wQ_m, ↓lI_m, pI_m, pL_m, pR_m, sI_m, sBy_m, sBo_m, sL_m, sQ_m, fst_m, true_and, and_true, tg_some, ln_some, uI_1, uI_2, uL_1, uL_2, uL_3, uQ_1, uQ_2, uQ_3, rv_i, rv_l, rv_n, rv_b0, rv_b1, RMR, ne_eq, reduceCtorEq, not_false_eq_true, Option.getD_some, if_true, if_false, and_self, false_and, and_false, Nat.add_left_cancel_iff, Nat.add_eq_left, Nat.left_eq_add, Nat.one_ne_zero, Nat.reduceAdd, Nat.reduceLT, Nat.reduceLeDiff, Nat.reduceEqDiff, true_implies, false_implies, implies_true, Option.some.injEq, forall_eq', forall_eq, reduceCtorEq, brT, brF, br_s, i_10, i_01, ib_0_2, ib_1_2, tn_0, tn_1, Int32.le_refl, eq_self, rv_bN, rv_iM, RCX 0, RCG 2, RCT 4, RCT 15, RCT 25, RCS 35, RCS 49, RCH 63, RCP 67, RCB 72, RCR 77, RCM 81, RLY, lit_at hw, e2]
    refine br2 (ih σ1 (by omega) (frW_tr hf f1) (loE_W hE f1 (by omega)) I1) ?_
    refine s_3 hw hs I1 (fun y hy => ?_) hd2
    simp only [↓rF_I, ↓rF_L, ↓rF_R, ↓rF_N, rO_m, rB_m, ↓rI_m, wI_m, ↓rB2_m, ↓rB3_m, wB2_m, wB3_m, ↓rL_m, wL_m, ↓rQ_m, wQ_m, ↓lI_m, pI_m, pL_m, pR_m, sI_m, sBy_m, sBo_m, sL_m, sQ_m, fst_m, true_and, and_true, tg_some, ln_some, uI_1, uI_2, uL_1, uL_2, uL_3, uQ_1, uQ_2, uQ_3, rv_i, rv_l, rv_n, rv_b0, rv_b1, RMR, ne_eq, reduceCtorEq, not_false_eq_true, Option.getD_some, if_true, if_false, and_self, false_and, and_false, Nat.add_left_cancel_iff, Nat.add_eq_left, Nat.left_eq_add, Nat.one_ne_zero, Nat.reduceAdd, Nat.reduceLT, Nat.reduceLeDiff, Nat.reduceEqDiff, true_implies, false_implies, implies_true, Option.some.injEq, forall_eq', forall_eq, reduceCtorEq, brT, brF, br_s, i_10, i_01, ib_0_2, ib_1_2, tn_0, tn_1, Int32.le_refl, eq_self, rv_bN, rv_iM, RCX 0, RCG 2, RCT 4, RCT 15, RCT 25, RCS 35, RCS 49, RCH 63, RCP 67, RCB 72, RCR 77, RCM 81, RLY, lit_at hw]
    refine s_5 hw hs hy I1 (fun σ2 f2 I2 => ?_) hd2
    exact ih σ2 (by omega) (frW_tr hf (frW_tr f1 f2)) (loE_W (loE_W hE f1 (by omega)) f2 (by omega)) I2
theorem lpA_1 {w : mT} {σ0 : mS} {P d : Nat} {τ ρ : Rw} {bits aim a5 : Int32} {Q : Option (Option Value) → Hp → Prop} (hd : 3 ≤ d) (hQ0 : ∀ σ' n, frW 72 77 σ0 σ' → blI σ' n → Q (some (some (.int 0))) (mW w σ')) (hQ : ∀ σ' n, frW 72 77 σ0 σ' → blI σ' n → Q (some (some (.int 1))) (mW w σ')) : ∀ (r l n : Nat) (σ : mS), l + r = τ 0 → frW 72 77 σ0 σ → loE w σ P τ ρ → blI σ n → Wp 1 38 [.ref 72, .ref P, .ref 35, .int bits, .int aim, .int a5, .int (Int32.ofNat l), jk] [] (mW w σ) Q d := by
  intro r
  induction r with
  | zero =>
    intro l n σ hl hf hE hI
    have hE' := hE
    obtain ⟨hw, hP, hτ, hv, hρ, hr⟩ := hE
    have hT' := isTP hw hP
    simp only [isT] at hT'
    have hl' : l = τ 0 := by omega
    subst hl'
    have e2 : σ.1 P 2 = Int32.ofNat (τ 0) := hτ.2.1
    have n6 := hI.2.1
    refine b1_38 ?_
    by_cases z : n = 0
    · have c0 : (Int32.ofNat n = (0 : Int32)) ↔ True := iff_true_intro (by rw [z]; rfl)
      simp only [↓br_pos, ↓br_neg, ↓rF_I, ↓rF_L, ↓rF_R, ↓rF_N, rO_m, rB_m, ↓rI_m, wI_m, ↓rB2_m, ↓rB3_m, wB2_m, wB3_m, ↓rL_m, wL_m, ↓rQ_m, wQ_m, ↓lI_m, pI_m, pL_m, pR_m, sI_m, sBy_m, sBo_m, sL_m, sQ_m, fst_m, true_and, and_true, tg_some, ln_some, uI_1, uI_2, uL_1, uL_2, uL_3, uQ_1, uQ_2, uQ_3, rv_i, rv_l, rv_n, rv_b0, rv_b1, RMR, ne_eq, reduceCtorEq, not_false_eq_true, Option.getD_some, if_true, if_false, and_self, false_and, and_false, Nat.add_left_cancel_iff, Nat.add_eq_left, Nat.left_eq_add, Nat.one_ne_zero, Nat.reduceAdd, Nat.reduceLT, Nat.reduceLeDiff, Nat.reduceEqDiff, true_implies, false_implies, implies_true, Option.some.injEq, forall_eq', forall_eq, reduceCtorEq, brT, brF, br_s, i_10, i_01, ib_0_2, ib_1_2, tn_0, tn_1, Int32.le_refl, eq_self, rv_bN, rv_iM, RCX 0, RCG 2, RCT 4, RCT 15, RCT 25, RCS 35, RCS 49, RCH 63, RCP 67, RCB 72, RCR 77, RCM 81, RLY, lit_at hw, RCT P, hT', e2, Int32.le_refl, hI.1, c0]
      exact hQ0 σ n hf hI
    · have c0 : (Int32.ofNat n = (0 : Int32)) ↔ False := iff_false_intro (fun q => z ((of_eq0 (by omega)).mp q))
      obtain ⟨s, hs1, hs, es⟩ := all6 (n := n) (by omega) n6
      simp only [↓br_pos, ↓br_neg, ↓rF_I, ↓rF_L, ↓rF_R, ↓rF_N, rO_m, rB_m, ↓rI_m, wI_m, ↓rB2_m, ↓rB3_m, wB2_m, wB3_m, ↓rL_m, wL_m, ↓rQ_m, wQ_m, ↓lI_m, pI_m, pL_m, pR_m, sI_m, sBy_m, sBo_m, sL_m, sQ_m, fst_m, true_and, and_true, tg_some, ln_some, uI_1, uI_2, uL_1, uL_2, uL_3, uQ_1, uQ_2, uQ_3, rv_i, rv_l, rv_n, rv_b0, rv_b1, RMR, ne_eq, reduceCtorEq, not_false_eq_true, Option.getD_some, if_true, if_false, and_self, false_and, and_false, Nat.add_left_cancel_iff, Nat.add_eq_left, Nat.left_eq_add, Nat.one_ne_zero, Nat.reduceAdd, Nat.reduceLT, Nat.reduceLeDiff, Nat.reduceEqDiff, true_implies, false_implies, implies_true, Option.some.injEq, forall_eq', forall_eq, reduceCtorEq, brT, brF, br_s, i_10, i_01, ib_0_2, ib_1_2, tn_0, tn_1, Int32.le_refl, eq_self, rv_bN, rv_iM, RCX 0, RCG 2, RCT 4, RCT 15, RCT 25, RCS 35, RCS 49, RCH 63, RCP 67, RCB 72, RCR 77, RCM 81, RLY, lit_at hw, RCT P, hT', e2, Int32.le_refl, hI.1, c0, es]
      exact lpB_1 hd hs (fun σ' f I => hQ σ' n f I) s σ hs hf hE' hI
  | succ r ih =>
    intro l n σ hl hf hE hI
    have hE' := hE
    obtain ⟨hw, hP, hτ, hv, hρ, hr⟩ := hE
    have hT' := isTP hw hP
    simp only [isT] at hT'
    have v0 := hv.1
    have e2 : σ.1 P 2 = Int32.ofNat (τ 0) := hτ.2.1
    have n6 := hI.2.1
    have l1 : (Int32.ofNat (τ 0) ≤ Int32.ofNat l) ↔ False := iff_false_intro (fun q => absurd ((on_le (by omega) (by omega)).mp q) (by omega))
    have eb : inB (Int32.ofNat l) 12 = true := on_inB (by omega) (by omega)
    have en := on_nat (i := l) (by omega)
    have nx := ih (l + 1) n σ (by omega) hf hE' hI
    refine b1_38 ?_
    by_cases z : n < 6
    · have c6 : ((6 : Int32) ≤ Int32.ofNat n) ↔ False := iff_false_intro (fun q => absurd ((on_le (i := 6) (by omega) (by omega)).mp q) (by omega))
      have ebn : inB (Int32.ofNat n) 6 = true := on_inB (by omega) (by omega)
      have enn := on_nat (i := n) (by omega)
      have f2 : frW 72 77 σ (uI (uI σ 74 n (Int32.ofNat l)) 72 0 (Int32.ofNat (n + 1))) := frW_tr (frW_I (by omega)) (frW_I (by omega))
      simp only [↓br_pos, ↓br_neg, ↓rF_I, ↓rF_L, ↓rF_R, ↓rF_N, rO_m, rB_m, ↓rI_m, wI_m, ↓rB2_m, ↓rB3_m, wB2_m, wB3_m, ↓rL_m, wL_m, ↓rQ_m, wQ_m, ↓lI_m, pI_m, pL_m, pR_m, sI_m, sBy_m, sBo_m, sL_m, sQ_m, fst_m, true_and, and_true, tg_some, ln_some, uI_1, uI_2, uL_1, uL_2, uL_3, uQ_1, uQ_2, uQ_3, rv_i, rv_l, rv_n, rv_b0, rv_b1, RMR, ne_eq, reduceCtorEq, not_false_eq_true, Option.getD_some, if_true, if_false, and_self, false_and, and_false, Nat.add_left_cancel_iff, Nat.add_eq_left, Nat.left_eq_add, Nat.one_ne_zero, Nat.reduceAdd, Nat.reduceLT, Nat.reduceLeDiff, Nat.reduceEqDiff, true_implies, false_implies, implies_true, Option.some.injEq, forall_eq', forall_eq, reduceCtorEq, brT, brF, br_s, i_10, i_01, ib_0_2, ib_1_2, tn_0, tn_1, Int32.le_refl, eq_self, rv_bN, rv_iM, RCX 0, RCG 2, RCT 4, RCT 15, RCT 25, RCS 35, RCS 49, RCH 63, RCP 67, RCB 72, RCR 77, RCM 81, RLY, lit_at hw, RCT P, hT', e2, l1, eb, en, hI.1, c6, ebn, enn, on_succ]
      refine br2 (br2 nx ?_) nx
      refine ih (l + 1) (n + 1) _ (by omega) (frW_tr hf f2) (loE_W hE' f2 (by omega)) ⟨by rw [uI_1, if_pos ⟨rfl, rfl⟩], by omega, fun i hi => ?_⟩
      rw [uI_1, if_neg (by omega), uI_1]
      by_cases c : i = n
      · rw [if_pos ⟨rfl, c⟩]; exact ⟨l, by omega, rfl⟩
      · rw [if_neg (fun q => c q.2)]; exact hI.2.2 i (by omega)
    · have c6 : ((6 : Int32) ≤ Int32.ofNat n) ↔ True := iff_true_intro ((on_le (i := 6) (by omega) (by omega)).mpr (by omega))
      simp only [↓br_pos, ↓br_neg, ↓rF_I, ↓rF_L, ↓rF_R, ↓rF_N, rO_m, rB_m, ↓rI_m, wI_m, ↓rB2_m, ↓rB3_m, wB2_m, wB3_m, ↓rL_m, wL_m, ↓rQ_m, wQ_m, ↓lI_m, pI_m, pL_m, pR_m, sI_m, sBy_m, sBo_m, sL_m, sQ_m, fst_m, true_and, and_true, tg_some, ln_some, uI_1, uI_2, uL_1, uL_2, uL_3, uQ_1, uQ_2, uQ_3, rv_i, rv_l, rv_n, rv_b0, rv_b1, RMR, ne_eq, reduceCtorEq, not_false_eq_true, Option.getD_some, if_true, if_false, and_self, false_and, and_false, Nat.add_left_cancel_iff, Nat.add_eq_left, Nat.left_eq_add, Nat.one_ne_zero, Nat.reduceAdd, Nat.reduceLT, Nat.reduceLeDiff, Nat.reduceEqDiff, true_implies, false_implies, implies_true, Option.some.injEq, forall_eq', forall_eq, reduceCtorEq, brT, brF, br_s, i_10, i_01, ib_0_2, ib_1_2, tn_0, tn_1, Int32.le_refl, eq_self, rv_bN, rv_iM, RCX 0, RCG 2, RCT 4, RCT 15, RCT 25, RCS 35, RCS 49, RCH 63, RCP 67, RCB 72, RCR 77, RCM 81, RLY, lit_at hw, RCT P, hT', e2, l1, eb, en, hI.1, c6, on_succ]
      exact nx
theorem s_1 {w : mT} {σ : mS} {P D : Nat} {τ ρ : Rw} {bits aim : Int32} {K : Int32 → Hp → Prop} (hE : loE w σ P τ ρ) (hz : ∀ σ', frW 72 77 σ σ' → K 0 (mW w σ')) (hK : ∀ σ' n, frW 72 77 σ σ' → blI σ' n → K 1 (mW w σ')) (hD : 4 ≤ D) : wpI D 1 [.ref 72, .ref P, .ref 35, .int bits, .int aim] (mW w σ) K := by
  refine sI_of (m := 3) (fun d hd Q hQ => ?_) rfl hD
  have hE' := hE
  obtain ⟨hw, hP, hτ, hv, hρ, hr⟩ := hE
  have hT' := isTP hw hP
  simp only [isT] at hT'
  refine b1_0 ?_
  refine s_239 (fun x => ?_) (by omega)
  have fin := hQ _ _ (hz σ frW_rf)
  simp only [↓rF_I, ↓rF_L, ↓rF_R, ↓rF_N, rO_m, rB_m, ↓rI_m, wI_m, ↓rB2_m, ↓rB3_m, wB2_m, wB3_m, ↓rL_m, wL_m, ↓rQ_m, wQ_m, ↓lI_m, pI_m, pL_m, pR_m, sI_m, sBy_m, sBo_m, sL_m, sQ_m, fst_m, true_and, and_true, tg_some, ln_some, uI_1, uI_2, uL_1, uL_2, uL_3, uQ_1, uQ_2, uQ_3, rv_i, rv_l, rv_n, rv_b0, rv_b1, RMR, ne_eq, reduceCtorEq, not_false_eq_true, Option.getD_some, if_true, if_false, and_self, false_and, and_false, Nat.add_left_cancel_iff, Nat.add_eq_left, Nat.left_eq_add, Nat.one_ne_zero, Nat.reduceAdd, Nat.reduceLT, Nat.reduceLeDiff, Nat.reduceEqDiff, true_implies, false_implies, implies_true, Option.some.injEq, forall_eq', forall_eq, reduceCtorEq, brT, brF, br_s, i_10, i_01, ib_0_2, ib_1_2, tn_0, tn_1, Int32.le_refl, eq_self, rv_bN, rv_iM, RCX 0, RCG 2, RCT 4, RCT 15, RCT 25, RCS 35, RCS 49, RCH 63, RCP 67, RCB 72, RCR 77, RCM 81, RLY, lit_at hw, RCT P, hT']
  refine br2 fin (br2 fin (br2 ?_ fin))
  have f1 : frW 72 77 σ (uI σ 72 0 0) := frW_I (by omega)
  exact lpA_1 hd (fun σ' n f I => hQ _ _ (hz σ' (frW_tr f1 f))) (fun σ' n f I => hQ _ _ (hK σ' n (frW_tr f1 f) I)) (τ 0) 0 0 _ (by omega) frW_rf (loE_W hE' f1 (by omega)) ⟨by rw [uI_1, if_pos ⟨rfl, rfl⟩]; rfl, by omega, fun i hi => by omega⟩
theorem s_108 {w : mT} {σ : mS} {tp n : Nat} {t : Nat → Nat} {τ ρ : Rw} {bk : Nat → Rw} {has : Nat → Bool} {im : Nat → Rw} {a b c : Int32} {D : Nat} {K : Int32 → Hp → Prop} (h : cIn w σ tp t τ ρ n bk has im) (hK : ∀ v σ', frM σ σ' → cIn w σ' tp t τ ρ n bk has im → K v (mW w σ')) (hD : 5 ≤ D) : wpI D 108 [.ref 0, .int a, .int b, .int c] (mW w σ) K := by
  have h' := h
  obtain ⟨hw, hS, hH, ⟨P, hP, p3, p4, hτ⟩, hρ, hv, hr, h1, htp, htb, ht⟩ := h
  have hT := isTP hw hP
  have hT' := hT
  simp only [isT] at hT'
  refine sI_of (m := 4) (fun d hd Q hQ => ?_) rfl hD
  have hd1 : 1 ≤ d := by omega
  have fin0 := fun v : Int32 => hQ _ _ (hK v σ frM_rf h')
  refine b108_0 ?_
  by_cases y : grP b
  · have ey : iB (grP b) = 1 := iB_t y
    simp only [↓br_pos, ↓br_neg, ↓rF_I, ↓rF_L, ↓rF_R, ↓rF_N, rO_m, rB_m, ↓rI_m, wI_m, ↓rB2_m, ↓rB3_m, wB2_m, wB3_m, ↓rL_m, wL_m, ↓rQ_m, wQ_m, ↓lI_m, pI_m, pL_m, pR_m, sI_m, sBy_m, sBo_m, sL_m, sQ_m, fst_m, true_and, and_true, tg_some, ln_some, uI_1, uI_2, uL_1, uL_2, uL_3, uQ_1, uQ_2, uQ_3, rv_i, rv_l, rv_n, rv_b0, rv_b1, RMR, ne_eq, reduceCtorEq, not_false_eq_true, Option.getD_some, if_true, if_false, and_self, false_and, and_false, Nat.add_left_cancel_iff, Nat.add_eq_left, Nat.left_eq_add, Nat.one_ne_zero, Nat.reduceAdd, Nat.reduceLT, Nat.reduceLeDiff, Nat.reduceEqDiff, true_implies, false_implies, implies_true, Option.some.injEq, forall_eq', forall_eq, reduceCtorEq, brT, brF, br_s, i_10, i_01, ib_0_2, ib_1_2, tn_0, tn_1, Int32.le_refl, eq_self, rv_bN, rv_iM, RCX 0, RCG 2, RCT 4, RCT 15, RCT 25, RCS 35, RCS 49, RCH 63, RCP 67, RCB 72, RCR 77, RCM 81, RLY, lit_at hw, g_119 hd1, ey, p3]
    refine s_1 ⟨hw, hP, hτ, hv, hρ, hr⟩ (fun σ' f => ?_) (fun σ' m f I => ?_) hd
    · have c0 : ((0 : Int32) = 0) ↔ True := by decide
      simp only [↓br_pos, ↓br_neg, ↓rF_I, ↓rF_L, ↓rF_R, ↓rF_N, rO_m, rB_m, ↓rI_m, wI_m, ↓rB2_m, ↓rB3_m, wB2_m, wB3_m, ↓rL_m, wL_m, ↓rQ_m, wQ_m, ↓lI_m, pI_m, pL_m, pR_m, sI_m, sBy_m, sBo_m, sL_m, sQ_m, fst_m, true_and, and_true, tg_some, ln_some, uI_1, uI_2, uL_1, uL_2, uL_3, uQ_1, uQ_2, uQ_3, rv_i, rv_l, rv_n, rv_b0, rv_b1, RMR, ne_eq, reduceCtorEq, not_false_eq_true, Option.getD_some, if_true, if_false, and_self, false_and, and_false, Nat.add_left_cancel_iff, Nat.add_eq_left, Nat.left_eq_add, Nat.one_ne_zero, Nat.reduceAdd, Nat.reduceLT, Nat.reduceLeDiff, Nat.reduceEqDiff, true_implies, false_implies, implies_true, Option.some.injEq, forall_eq', forall_eq, reduceCtorEq, brT, brF, br_s, i_10, i_01, ib_0_2, ib_1_2, tn_0, tn_1, Int32.le_refl, eq_self, rv_bN, rv_iM, c0]
      exact hQ _ _ (hK _ σ' (frM_W f (by omega)) (cIn_W h' f (by omega)))
    · have fin := fun v : Int32 => hQ _ _ (hK v σ' (frM_W f (by omega)) (cIn_W h' f (by omega)))
      have m6 := I.2.1
      have c0 : ((1 : Int32) = 0) ↔ False := by decide
      by_cases c2 : c < 0
      · simp only [↓br_pos, ↓br_neg, ↓rF_I, ↓rF_L, ↓rF_R, ↓rF_N, rO_m, rB_m, ↓rI_m, wI_m, ↓rB2_m, ↓rB3_m, wB2_m, wB3_m, ↓rL_m, wL_m, ↓rQ_m, wQ_m, ↓lI_m, pI_m, pL_m, pR_m, sI_m, sBy_m, sBo_m, sL_m, sQ_m, fst_m, true_and, and_true, tg_some, ln_some, uI_1, uI_2, uL_1, uL_2, uL_3, uQ_1, uQ_2, uQ_3, rv_i, rv_l, rv_n, rv_b0, rv_b1, RMR, ne_eq, reduceCtorEq, not_false_eq_true, Option.getD_some, if_true, if_false, and_self, false_and, and_false, Nat.add_left_cancel_iff, Nat.add_eq_left, Nat.left_eq_add, Nat.one_ne_zero, Nat.reduceAdd, Nat.reduceLT, Nat.reduceLeDiff, Nat.reduceEqDiff, true_implies, false_implies, implies_true, Option.some.injEq, forall_eq', forall_eq, reduceCtorEq, brT, brF, br_s, i_10, i_01, ib_0_2, ib_1_2, tn_0, tn_1, Int32.le_refl, eq_self, rv_bN, rv_iM, RCX 0, RCG 2, RCT 4, RCT 15, RCT 25, RCS 35, RCS 49, RCH 63, RCP 67, RCB 72, RCR 77, RCM 81, RLY, lit_at hw, c0, c2]
        exact fin _
      · by_cases c3 : c < Int32.ofNat m
        · have b2 : c.toInt < m := by rw [i_lt, on_int (by omega)] at c3; exact c3
          have b1 : 0 ≤ c.toInt := by rw [i_lt, show (0 : Int32).toInt = 0 by decide] at c2; omega
          obtain ⟨k, rfl, hk⟩ := ex_on (a := c) (n := 6) ⟨b1, by omega⟩
          have eb : inB (Int32.ofNat k) 6 = true := on_inB (by omega) (by omega)
          have en := on_nat (i := k) (by omega)
          simp only [↓br_pos, ↓br_neg, ↓rF_I, ↓rF_L, ↓rF_R, ↓rF_N, rO_m, rB_m, ↓rI_m, wI_m, ↓rB2_m, ↓rB3_m, wB2_m, wB3_m, ↓rL_m, wL_m, ↓rQ_m, wQ_m, ↓lI_m, pI_m, pL_m, pR_m, sI_m, sBy_m, sBo_m, sL_m, sQ_m, fst_m, true_and, and_true, tg_some, ln_some, uI_1, uI_2, uL_1, uL_2, uL_3, uQ_1, uQ_2, uQ_3, rv_i, rv_l, rv_n, rv_b0, rv_b1, RMR, ne_eq, reduceCtorEq, not_false_eq_true, Option.getD_some, if_true, if_false, and_self, false_and, and_false, Nat.add_left_cancel_iff, Nat.add_eq_left, Nat.left_eq_add, Nat.one_ne_zero, Nat.reduceAdd, Nat.reduceLT, Nat.reduceLeDiff, Nat.reduceEqDiff, true_implies, false_implies, implies_true, Option.some.injEq, forall_eq', forall_eq, reduceCtorEq, brT, brF, br_s, i_10, i_01, ib_0_2, ib_1_2, tn_0, tn_1, Int32.le_refl, eq_self, rv_bN, rv_iM, RCX 0, RCG 2, RCT 4, RCT 15, RCT 25, RCS 35, RCS 49, RCH 63, RCP 67, RCB 72, RCR 77, RCM 81, RLY, lit_at hw, c0, c2, I.1, c3, eb, en]
          exact fin _
        · simp only [↓br_pos, ↓br_neg, ↓rF_I, ↓rF_L, ↓rF_R, ↓rF_N, rO_m, rB_m, ↓rI_m, wI_m, ↓rB2_m, ↓rB3_m, wB2_m, wB3_m, ↓rL_m, wL_m, ↓rQ_m, wQ_m, ↓lI_m, pI_m, pL_m, pR_m, sI_m, sBy_m, sBo_m, sL_m, sQ_m, fst_m, true_and, and_true, tg_some, ln_some, uI_1, uI_2, uL_1, uL_2, uL_3, uQ_1, uQ_2, uQ_3, rv_i, rv_l, rv_n, rv_b0, rv_b1, RMR, ne_eq, reduceCtorEq, not_false_eq_true, Option.getD_some, if_true, if_false, and_self, false_and, and_false, Nat.add_left_cancel_iff, Nat.add_eq_left, Nat.left_eq_add, Nat.one_ne_zero, Nat.reduceAdd, Nat.reduceLT, Nat.reduceLeDiff, Nat.reduceEqDiff, true_implies, false_implies, implies_true, Option.some.injEq, forall_eq', forall_eq, reduceCtorEq, brT, brF, br_s, i_10, i_01, ib_0_2, ib_1_2, tn_0, tn_1, Int32.le_refl, eq_self, rv_bN, rv_iM, RCX 0, RCG 2, RCT 4, RCT 15, RCT 25, RCS 35, RCS 49, RCH 63, RCP 67, RCB 72, RCR 77, RCM 81, RLY, lit_at hw, c0, c2, I.1, c3]
          exact fin _
  · have ey : iB (grP b) = 0 := iB_f y
    simp only [↓br_pos, ↓br_neg, ↓rF_I, ↓rF_L, ↓rF_R, ↓rF_N, rO_m, rB_m, ↓rI_m, wI_m, ↓rB2_m, ↓rB3_m, wB2_m, wB3_m, ↓rL_m, wL_m, ↓rQ_m, wQ_m, ↓lI_m, pI_m, pL_m, pR_m, sI_m, sBy_m, sBo_m, sL_m, sQ_m, fst_m, true_and, and_true, tg_some, ln_some, uI_1, uI_2, uL_1, uL_2, uL_3, uQ_1, uQ_2, uQ_3, rv_i, rv_l, rv_n, rv_b0, rv_b1, RMR, ne_eq, reduceCtorEq, not_false_eq_true, Option.getD_some, if_true, if_false, and_self, false_and, and_false, Nat.add_left_cancel_iff, Nat.add_eq_left, Nat.left_eq_add, Nat.one_ne_zero, Nat.reduceAdd, Nat.reduceLT, Nat.reduceLeDiff, Nat.reduceEqDiff, true_implies, false_implies, implies_true, Option.some.injEq, forall_eq', forall_eq, reduceCtorEq, brT, brF, br_s, i_10, i_01, ib_0_2, ib_1_2, tn_0, tn_1, Int32.le_refl, eq_self, rv_bN, rv_iM, RCX 0, RCG 2, RCT 4, RCT 15, RCT 25, RCS 35, RCS 49, RCH 63, RCP 67, RCB 72, RCR 77, RCM 81, RLY, lit_at hw, g_119 hd1, ey]
    exact fin0 _
theorem s_109 {w : mT} {σ : mS} {tp n : Nat} {t : Nat → Nat} {τ ρ : Rw} {bk : Nat → Rw} {has : Nat → Bool} {im : Nat → Rw} {a b : Int32} {D : Nat} {K : Int64 → Hp → Prop} (h : cIn w σ tp t τ ρ n bk has im) (hK : ∀ v σ', frM σ σ' → cIn w σ' tp t τ ρ n bk has im → K v (mW w σ')) (hD : 5 ≤ D) : wpL D 109 [.ref 0, .int a, .int b] (mW w σ) K := by
  have h' := h
  obtain ⟨hw, hS, hH, ⟨P, hP, p3, p4, hτ⟩, hρ, hv, hr, h1, htp, htb, ht⟩ := h
  have hT := isTP hw hP
  have hT' := hT
  simp only [isT] at hT'
  refine sL_of (m := 4) (fun d hd Q hQ => ?_) rfl hD
  have hd1 : 1 ≤ d := by omega
  have fin0 := fun v : Int64 => hQ _ _ (hK v σ frM_rf h')
  refine b109_0 ?_
  by_cases y : grP b
  · have ey : iB (grP b) = 1 := iB_t y
    simp only [↓br_pos, ↓br_neg, ↓rF_I, ↓rF_L, ↓rF_R, ↓rF_N, rO_m, rB_m, ↓rI_m, wI_m, ↓rB2_m, ↓rB3_m, wB2_m, wB3_m, ↓rL_m, wL_m, ↓rQ_m, wQ_m, ↓lI_m, pI_m, pL_m, pR_m, sI_m, sBy_m, sBo_m, sL_m, sQ_m, fst_m, true_and, and_true, tg_some, ln_some, uI_1, uI_2, uL_1, uL_2, uL_3, uQ_1, uQ_2, uQ_3, rv_i, rv_l, rv_n, rv_b0, rv_b1, RMR, ne_eq, reduceCtorEq, not_false_eq_true, Option.getD_some, if_true, if_false, and_self, false_and, and_false, Nat.add_left_cancel_iff, Nat.add_eq_left, Nat.left_eq_add, Nat.one_ne_zero, Nat.reduceAdd, Nat.reduceLT, Nat.reduceLeDiff, Nat.reduceEqDiff, true_implies, false_implies, implies_true, Option.some.injEq, forall_eq', forall_eq, reduceCtorEq, brT, brF, br_s, i_10, i_01, ib_0_2, ib_1_2, tn_0, tn_1, Int32.le_refl, eq_self, rv_bN, rv_iM, RCX 0, RCG 2, RCT 4, RCT 15, RCT 25, RCS 35, RCS 49, RCH 63, RCP 67, RCB 72, RCR 77, RCM 81, RLY, lit_at hw, g_119 hd1, ey, p3]
    refine s_1 ⟨hw, hP, hτ, hv, hρ, hr⟩ (fun σ' f => ?_) (fun σ' m f I => ?_) hd
    · have c0 : ((0 : Int32) = 0) ↔ True := by decide
      simp only [↓br_pos, ↓br_neg, ↓rF_I, ↓rF_L, ↓rF_R, ↓rF_N, rO_m, rB_m, ↓rI_m, wI_m, ↓rB2_m, ↓rB3_m, wB2_m, wB3_m, ↓rL_m, wL_m, ↓rQ_m, wQ_m, ↓lI_m, pI_m, pL_m, pR_m, sI_m, sBy_m, sBo_m, sL_m, sQ_m, fst_m, true_and, and_true, tg_some, ln_some, uI_1, uI_2, uL_1, uL_2, uL_3, uQ_1, uQ_2, uQ_3, rv_i, rv_l, rv_n, rv_b0, rv_b1, RMR, ne_eq, reduceCtorEq, not_false_eq_true, Option.getD_some, if_true, if_false, and_self, false_and, and_false, Nat.add_left_cancel_iff, Nat.add_eq_left, Nat.left_eq_add, Nat.one_ne_zero, Nat.reduceAdd, Nat.reduceLT, Nat.reduceLeDiff, Nat.reduceEqDiff, true_implies, false_implies, implies_true, Option.some.injEq, forall_eq', forall_eq, reduceCtorEq, brT, brF, br_s, i_10, i_01, ib_0_2, ib_1_2, tn_0, tn_1, Int32.le_refl, eq_self, rv_bN, rv_iM, c0]
      exact hQ _ _ (hK _ σ' (frM_W f (by omega)) (cIn_W h' f (by omega)))
    · have c0 : ((1 : Int32) = 0) ↔ False := by decide
      simp only [↓br_pos, ↓br_neg, ↓rF_I, ↓rF_L, ↓rF_R, ↓rF_N, rO_m, rB_m, ↓rI_m, wI_m, ↓rB2_m, ↓rB3_m, wB2_m, wB3_m, ↓rL_m, wL_m, ↓rQ_m, wQ_m, ↓lI_m, pI_m, pL_m, pR_m, sI_m, sBy_m, sBo_m, sL_m, sQ_m, fst_m, true_and, and_true, tg_some, ln_some, uI_1, uI_2, uL_1, uL_2, uL_3, uQ_1, uQ_2, uQ_3, rv_i, rv_l, rv_n, rv_b0, rv_b1, RMR, ne_eq, reduceCtorEq, not_false_eq_true, Option.getD_some, if_true, if_false, and_self, false_and, and_false, Nat.add_left_cancel_iff, Nat.add_eq_left, Nat.left_eq_add, Nat.one_ne_zero, Nat.reduceAdd, Nat.reduceLT, Nat.reduceLeDiff, Nat.reduceEqDiff, true_implies, false_implies, implies_true, Option.some.injEq, forall_eq', forall_eq, reduceCtorEq, brT, brF, br_s, i_10, i_01, ib_0_2, ib_1_2, tn_0, tn_1, Int32.le_refl, eq_self, rv_bN, rv_iM, RCX 0, RCG 2, RCT 4, RCT 15, RCT 25, RCS 35, RCS 49, RCH 63, RCP 67, RCB 72, RCR 77, RCM 81, RLY, lit_at hw, c0]
      refine s_127 (fun g hg => ?_) hd1
      simp only [↓br_pos, ↓br_neg, ↓rF_I, ↓rF_L, ↓rF_R, ↓rF_N, rO_m, rB_m, ↓rI_m, wI_m, ↓rB2_m, ↓rB3_m, wB2_m, wB3_m, ↓rL_m, wL_m, ↓rQ_m, wQ_m, ↓lI_m, pI_m, pL_m, pR_m, sI_m, sBy_m, sBo_m, sL_m, sQ_m, fst_m, true_and, and_true, tg_some, ln_some, uI_1, uI_2, uL_1, uL_2, uL_3, uQ_1, uQ_2, uQ_3, rv_i, rv_l, rv_n, rv_b0, rv_b1, RMR, ne_eq, reduceCtorEq, not_false_eq_true, Option.getD_some, if_true, if_false, and_self, false_and, and_false, Nat.add_left_cancel_iff, Nat.add_eq_left, Nat.left_eq_add, Nat.one_ne_zero, Nat.reduceAdd, Nat.reduceLT, Nat.reduceLeDiff, Nat.reduceEqDiff, true_implies, false_implies, implies_true, Option.some.injEq, forall_eq', forall_eq, reduceCtorEq, brT, brF, br_s, i_10, i_01, ib_0_2, ib_1_2, tn_0, tn_1, Int32.le_refl, eq_self, rv_bN, rv_iM, RCX 0, RCG 2, RCT 4, RCT 15, RCT 25, RCS 35, RCS 49, RCH 63, RCP 67, RCB 72, RCR 77, RCM 81, RLY, lit_at hw, hg]
      have C := cIn_W h' f (by omega)
      refine hQ _ _ (hK _ _ (frM_tr (frM_W f (by omega)) (frM_L (by omega))) (cIn_fr C (fun j hj => rfl) (fun a ha => rfl) (fun a ha => rfl)))
  · have ey : iB (grP b) = 0 := iB_f y
    simp only [↓br_pos, ↓br_neg, ↓rF_I, ↓rF_L, ↓rF_R, ↓rF_N, rO_m, rB_m, ↓rI_m, wI_m, ↓rB2_m, ↓rB3_m, wB2_m, wB3_m, ↓rL_m, wL_m, ↓rQ_m, wQ_m, ↓lI_m, pI_m, pL_m, pR_m, sI_m, sBy_m, sBo_m, sL_m, sQ_m, fst_m, true_and, and_true, tg_some, ln_some, uI_1, uI_2, uL_1, uL_2, uL_3, uQ_1, uQ_2, uQ_3, rv_i, rv_l, rv_n, rv_b0, rv_b1, RMR, ne_eq, reduceCtorEq, not_false_eq_true, Option.getD_some, if_true, if_false, and_self, false_and, and_false, Nat.add_left_cancel_iff, Nat.add_eq_left, Nat.left_eq_add, Nat.one_ne_zero, Nat.reduceAdd, Nat.reduceLT, Nat.reduceLeDiff, Nat.reduceEqDiff, true_implies, false_implies, implies_true, Option.some.injEq, forall_eq', forall_eq, reduceCtorEq, brT, brF, br_s, i_10, i_01, ib_0_2, ib_1_2, tn_0, tn_1, Int32.le_refl, eq_self, rv_bN, rv_iM, RCX 0, RCG 2, RCT 4, RCT 15, RCT 25, RCS 35, RCS 49, RCH 63, RCP 67, RCB 72, RCR 77, RCM 81, RLY, lit_at hw, g_119 hd1, ey]
    exact fin0 _
end
