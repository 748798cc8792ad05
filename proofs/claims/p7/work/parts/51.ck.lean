/-! the class's calls: within, next -/
abbrev wnP (τ ρ : Rw) (p a b c : Nat) : Prop := 0 < tOn ρ p c ∧ a * tOn ρ p c ≤ gOn τ ρ p c ∧ gOn τ ρ p c ≤ b * tOn ρ p c
def wiB (τ ρ : Rw) (p a b : Nat) : Nat → Int32
  | 0 => 0
  | c + 1 => if wnP τ ρ p a b c then wiB τ ρ p a b c ||| ((1 : Int32) <<< (Int32.ofNat c &&& 31)) else wiB τ ρ p a b c
theorem g56w {w : mT} {σ : mS} {τ ρ : Rw} (hw : lit w) (hρ : tSt σ 35 τ ρ) (hr : vRow τ ρ) {p c : Nat} (hp : p < 3) (hc : c < 12) {D : Nat} {K : Int32 → Hp → Prop} (hD : 2 ≤ D) : wpI D 56 [.ref 35, .int (Int32.ofNat p), .int (Int32.ofNat c)] (mW w σ) K ↔ K (Int32.ofNat (tOn ρ p c)) (mW w σ) := g_56 (isS35 hw) hρ hr hp hc hD
theorem lp_104 {w : mT} {σ : mS} {P p a b d : Nat} {τ ρ : Rw} {Q : Option (Option Value) → Hp → Prop} (hw : lit w) (hP : P = 15 ∨ P = 25) (p3 : σ.2.2 0 3 = some P) (hτ : tTold σ P τ) (hv : vTold τ) (hρ : tSt σ 35 τ ρ) (hr : vRow τ ρ) (hp : p < τ 1) (ha : a ≤ 999) (hb : b ≤ 999) (hd : 2 ≤ d) (hQ : Q (some (some (.int (wiB τ ρ p a b (τ (28 + p)))))) (mW w σ)) : ∀ (r c : Nat) (x6 x7 : Value), c + r = τ (28 + p) → (x6 = jk ∧ x7 = jk ∧ 0 < r ∨ ∃ u v : Int32, x6 = .int u ∧ x7 = .int v) → Wp 104 38 [.ref 0, .int (Int32.ofNat p), .int (Int32.ofNat a), .int (Int32.ofNat b), .int (wiB τ ρ p a b c), .int (Int32.ofNat c), x6, x7] [] (mW w σ) Q d := by
  have hT := isTP hw hP
  have hT' := hT
  simp only [isT] at hT'
  have v1 := hv.2.1
  have v2 := (hv.2.2.2.2.2.1 p hp).2
  have eb : inB (Int32.ofNat p) 3 = true := on_inB (by omega) (by omega)
  have en := on_nat (i := p) (by omega)
  have e1 := hτ.2.2.2.2.2.1 p hp
  intro r
  induction r with
  | zero =>
    intro c x6 x7 hc hx
    have hc' : c = τ (28 + p) := by omega
    subst hc'
    rcases hx with ⟨_, _, q⟩ | ⟨u, v, rfl, rfl⟩
    · omega
    refine b104_38a ?_
    simp only [↓br_pos, ↓br_neg, ↓rF_I, ↓rF_L, ↓rF_R, ↓rF_N, rO_m, rB_m, ↓rI_m, wI_m, ↓rB2_m, ↓rB3_m, wB2_m, wB3_m, ↓rL_m, wL_m, ↓rQ_m, wQ_m, ↓lI_m, pI_m, pL_m, pR_m, sI_m, sBy_m, sBo_m, sL_m, sQ_m, fst_m, true_and, and_true, tg_some, ln_some, uI_1, uI_2, uL_1, uL_2, uL_3, uQ_1, uQ_2, uQ_3, rv_i, rv_l, rv_n, rv_b0, rv_b1, RMR, ne_eq, reduceCtorEq, not_false_eq_true, Option.getD_some, if_true, if_false, and_self, false_and, and_false, Nat.add_left_cancel_iff, Nat.add_eq_left, Nat.left_eq_add, Nat.one_ne_zero, Nat.reduceAdd, Nat.reduceLT, Nat.reduceLeDiff, Nat.reduceEqDiff, true_implies, false_implies, implies_true, Option.some.injEq, forall_eq', forall_eq, reduceCtorEq, brT, brF, br_s, i_10, i_01, ib_0_2, ib_1_2, tn_0, tn_1, Int32.le_refl, eq_self, rv_bN, rv_iM, RCX 0, RCG 2, RCT 4, RCT 15, RCT 25, RCS 35, RCS 49, RCH 63, RCP 67, RCB 72, RCR 77, RCM 81, RLY, lit_at hw, RCT P, hT', p3, eb, en, e1, Int32.le_refl]
    exact hQ
  | succ r ih =>
    intro c x6 x7 hc hx
    have l1 : (Int32.ofNat (τ (28 + p)) ≤ Int32.ofNat c) ↔ False := iff_false_intro (fun q => absurd ((on_le (by omega) (by omega)).mp q) (by omega))
    have e56 := fun {K : Int32 → Hp → Prop} => g_56 (K := K) (isS35 hw) hρ hr (by omega : p < 3) (by omega : c < 12) hd
    have e57 := fun {K : Int32 → Hp → Prop} => g_57 (K := K) (isS35 hw) hT hρ hτ hv hr (by omega : p < 3) (by omega : c < 12) hd
    have tl := tOn_lt hr (by omega : p < 3) (by omega : c < 12)
    have gl := gOn_le (c := c) hv hr (by omega : p < 3)
    have ma : a * tOn ρ p c ≤ 999 * tOn ρ p c := Nat.mul_le_mul_right _ ha
    have mb : b * tOn ρ p c ≤ 999 * tOn ρ p c := Nat.mul_le_mul_right _ hb
    have c0 := of_le0 (a := tOn ρ p c) (by omega)
    have c1 := on_lt (i := gOn τ ρ p c) (j := a * tOn ρ p c) (by omega) (by omega)
    have c2 := on_lt (i := b * tOn ρ p c) (j := gOn τ ρ p c) (by omega) (by omega)
    have nx := ih (c + 1) (.int (Int32.ofNat (tOn ρ p c))) (.int (Int32.ofNat (gOn τ ρ p c))) (by omega) (Or.inr ⟨_, _, rfl, rfl⟩)
    rcases hx with ⟨rfl, rfl, _⟩ | ⟨u, v, rfl, rfl⟩
    · skip
      refine b104_38 ?_
      by_cases z0 : 0 < tOn ρ p c
      · have c0' := iff_false_intro (fun q => absurd (c0.mp q) (by omega))
        by_cases z1 : a * tOn ρ p c ≤ gOn τ ρ p c
        · have c1' := iff_false_intro (fun q => absurd (c1.mp q) (by omega))
          by_cases z2 : gOn τ ρ p c ≤ b * tOn ρ p c
          · have c2' := iff_false_intro (fun q => absurd (c2.mp q) (by omega))
            have eB : wiB τ ρ p a b (c + 1) = wiB τ ρ p a b c ||| ((1 : Int32) <<< (Int32.ofNat c &&& 31)) := if_pos ⟨z0, z1, z2⟩
            rw [eB] at nx
            simp only [↓br_pos, ↓br_neg, ↓rF_I, ↓rF_L, ↓rF_R, ↓rF_N, rO_m, rB_m, ↓rI_m, wI_m, ↓rB2_m, ↓rB3_m, wB2_m, wB3_m, ↓rL_m, wL_m, ↓rQ_m, wQ_m, ↓lI_m, pI_m, pL_m, pR_m, sI_m, sBy_m, sBo_m, sL_m, sQ_m, fst_m, true_and, and_true, tg_some, ln_some, uI_1, uI_2, uL_1, uL_2, uL_3, uQ_1, uQ_2, uQ_3, rv_i, rv_l, rv_n, rv_b0, rv_b1, RMR, ne_eq, reduceCtorEq, not_false_eq_true, Option.getD_some, if_true, if_false, and_self, false_and, and_false, Nat.add_left_cancel_iff, Nat.add_eq_left, Nat.left_eq_add, Nat.one_ne_zero, Nat.reduceAdd, Nat.reduceLT, Nat.reduceLeDiff, Nat.reduceEqDiff, true_implies, false_implies, implies_true, Option.some.injEq, forall_eq', forall_eq, reduceCtorEq, brT, brF, br_s, i_10, i_01, ib_0_2, ib_1_2, tn_0, tn_1, Int32.le_refl, eq_self, rv_bN, rv_iM, RCX 0, RCG 2, RCT 4, RCT 15, RCT 25, RCS 35, RCS 49, RCH 63, RCP 67, RCB 72, RCR 77, RCM 81, RLY, lit_at hw, RCT P, hT', p3, eb, en, e1, l1, e56, e57, c0', c1', c2', of_mul]
            refine b104_112 (b104_115 ?_)
            rw [on_succ]
            exact nx
          · have c2' := iff_true_intro (c2.mpr (by omega))
            have eB : wiB τ ρ p a b (c + 1) = wiB τ ρ p a b c := if_neg (fun q => z2 q.2.2)
            rw [eB] at nx
            simp only [↓br_pos, ↓br_neg, ↓rF_I, ↓rF_L, ↓rF_R, ↓rF_N, rO_m, rB_m, ↓rI_m, wI_m, ↓rB2_m, ↓rB3_m, wB2_m, wB3_m, ↓rL_m, wL_m, ↓rQ_m, wQ_m, ↓lI_m, pI_m, pL_m, pR_m, sI_m, sBy_m, sBo_m, sL_m, sQ_m, fst_m, true_and, and_true, tg_some, ln_some, uI_1, uI_2, uL_1, uL_2, uL_3, uQ_1, uQ_2, uQ_3, rv_i, rv_l, rv_n, rv_b0, rv_b1, RMR, ne_eq, reduceCtorEq, not_false_eq_true, Option.getD_some, if_true, if_false, and_self, false_and, and_false, Nat.add_left_cancel_iff, Nat.add_eq_left, Nat.left_eq_add, Nat.one_ne_zero, Nat.reduceAdd, Nat.reduceLT, Nat.reduceLeDiff, Nat.reduceEqDiff, true_implies, false_implies, implies_true, Option.some.injEq, forall_eq', forall_eq, reduceCtorEq, brT, brF, br_s, i_10, i_01, ib_0_2, ib_1_2, tn_0, tn_1, Int32.le_refl, eq_self, rv_bN, rv_iM, RCX 0, RCG 2, RCT 4, RCT 15, RCT 25, RCS 35, RCS 49, RCH 63, RCP 67, RCB 72, RCR 77, RCM 81, RLY, lit_at hw, RCT P, hT', p3, eb, en, e1, l1, e56, e57, c0', c1', c2', of_mul]
            refine b104_112 (b104_115 ?_)
            rw [on_succ]
            exact nx
        · have c1' := iff_true_intro (c1.mpr (by omega))
          have eB : wiB τ ρ p a b (c + 1) = wiB τ ρ p a b c := if_neg (fun q => z1 q.2.1)
          rw [eB] at nx
          simp only [↓br_pos, ↓br_neg, ↓rF_I, ↓rF_L, ↓rF_R, ↓rF_N, rO_m, rB_m, ↓rI_m, wI_m, ↓rB2_m, ↓rB3_m, wB2_m, wB3_m, ↓rL_m, wL_m, ↓rQ_m, wQ_m, ↓lI_m, pI_m, pL_m, pR_m, sI_m, sBy_m, sBo_m, sL_m, sQ_m, fst_m, true_and, and_true, tg_some, ln_some, uI_1, uI_2, uL_1, uL_2, uL_3, uQ_1, uQ_2, uQ_3, rv_i, rv_l, rv_n, rv_b0, rv_b1, RMR, ne_eq, reduceCtorEq, not_false_eq_true, Option.getD_some, if_true, if_false, and_self, false_and, and_false, Nat.add_left_cancel_iff, Nat.add_eq_left, Nat.left_eq_add, Nat.one_ne_zero, Nat.reduceAdd, Nat.reduceLT, Nat.reduceLeDiff, Nat.reduceEqDiff, true_implies, false_implies, implies_true, Option.some.injEq, forall_eq', forall_eq, reduceCtorEq, brT, brF, br_s, i_10, i_01, ib_0_2, ib_1_2, tn_0, tn_1, Int32.le_refl, eq_self, rv_bN, rv_iM, RCX 0, RCG 2, RCT 4, RCT 15, RCT 25, RCS 35, RCS 49, RCH 63, RCP 67, RCB 72, RCR 77, RCM 81, RLY, lit_at hw, RCT P, hT', p3, eb, en, e1, l1, e56, e57, c0', c1', of_mul]
          refine b104_112 (b104_115 ?_)
          rw [on_succ]
          exact nx
      · have c0' := iff_true_intro (c0.mpr (by omega))
        have eB : wiB τ ρ p a b (c + 1) = wiB τ ρ p a b c := if_neg (fun q => z0 q.1)
        rw [eB] at nx
        simp only [↓br_pos, ↓br_neg, ↓rF_I, ↓rF_L, ↓rF_R, ↓rF_N, rO_m, rB_m, ↓rI_m, wI_m, ↓rB2_m, ↓rB3_m, wB2_m, wB3_m, ↓rL_m, wL_m, ↓rQ_m, wQ_m, ↓lI_m, pI_m, pL_m, pR_m, sI_m, sBy_m, sBo_m, sL_m, sQ_m, fst_m, true_and, and_true, tg_some, ln_some, uI_1, uI_2, uL_1, uL_2, uL_3, uQ_1, uQ_2, uQ_3, rv_i, rv_l, rv_n, rv_b0, rv_b1, RMR, ne_eq, reduceCtorEq, not_false_eq_true, Option.getD_some, if_true, if_false, and_self, false_and, and_false, Nat.add_left_cancel_iff, Nat.add_eq_left, Nat.left_eq_add, Nat.one_ne_zero, Nat.reduceAdd, Nat.reduceLT, Nat.reduceLeDiff, Nat.reduceEqDiff, true_implies, false_implies, implies_true, Option.some.injEq, forall_eq', forall_eq, reduceCtorEq, brT, brF, br_s, i_10, i_01, ib_0_2, ib_1_2, tn_0, tn_1, Int32.le_refl, eq_self, rv_bN, rv_iM, RCX 0, RCG 2, RCT 4, RCT 15, RCT 25, RCS 35, RCS 49, RCH 63, RCP 67, RCB 72, RCR 77, RCM 81, RLY, lit_at hw, RCT P, hT', p3, eb, en, e1, l1, e56, e57, c0']
        refine b104_112 (b104_115 ?_)
        rw [on_succ]
        exact nx
    · skip
      refine b104_38a ?_
      by_cases z0 : 0 < tOn ρ p c
      · have c0' := iff_false_intro (fun q => absurd (c0.mp q) (by omega))
        by_cases z1 : a * tOn ρ p c ≤ gOn τ ρ p c
        · have c1' := iff_false_intro (fun q => absurd (c1.mp q) (by omega))
          by_cases z2 : gOn τ ρ p c ≤ b * tOn ρ p c
          · have c2' := iff_false_intro (fun q => absurd (c2.mp q) (by omega))
            have eB : wiB τ ρ p a b (c + 1) = wiB τ ρ p a b c ||| ((1 : Int32) <<< (Int32.ofNat c &&& 31)) := if_pos ⟨z0, z1, z2⟩
            rw [eB] at nx
            simp only [↓br_pos, ↓br_neg, ↓rF_I, ↓rF_L, ↓rF_R, ↓rF_N, rO_m, rB_m, ↓rI_m, wI_m, ↓rB2_m, ↓rB3_m, wB2_m, wB3_m, ↓rL_m, wL_m, ↓rQ_m, wQ_m, ↓lI_m, pI_m, pL_m, pR_m, sI_m, sBy_m, sBo_m, sL_m, sQ_m, fst_m, true_and, and_true, tg_some, ln_some, uI_1, uI_2, uL_1, uL_2, uL_3, uQ_1, uQ_2, uQ_3, rv_i, rv_l, rv_n, rv_b0, rv_b1, RMR, ne_eq, reduceCtorEq, not_false_eq_true, Option.getD_some, if_true, if_false, and_self, false_and, and_false, Nat.add_left_cancel_iff, Nat.add_eq_left, Nat.left_eq_add, Nat.one_ne_zero, Nat.reduceAdd, Nat.reduceLT, Nat.reduceLeDiff, Nat.reduceEqDiff, true_implies, false_implies, implies_true, Option.some.injEq, forall_eq', forall_eq, reduceCtorEq, brT, brF, br_s, i_10, i_01, ib_0_2, ib_1_2, tn_0, tn_1, Int32.le_refl, eq_self, rv_bN, rv_iM, RCX 0, RCG 2, RCT 4, RCT 15, RCT 25, RCS 35, RCS 49, RCH 63, RCP 67, RCB 72, RCR 77, RCM 81, RLY, lit_at hw, RCT P, hT', p3, eb, en, e1, l1, e56, e57, c0', c1', c2', of_mul]
            refine b104_112 (b104_115 ?_)
            rw [on_succ]
            exact nx
          · have c2' := iff_true_intro (c2.mpr (by omega))
            have eB : wiB τ ρ p a b (c + 1) = wiB τ ρ p a b c := if_neg (fun q => z2 q.2.2)
            rw [eB] at nx
            simp only [↓br_pos, ↓br_neg, ↓rF_I, ↓rF_L, ↓rF_R, ↓rF_N, rO_m, rB_m, ↓rI_m, wI_m, ↓rB2_m, ↓rB3_m, wB2_m, wB3_m, ↓rL_m, wL_m, ↓rQ_m, wQ_m, ↓lI_m, pI_m, pL_m, pR_m, sI_m, sBy_m, sBo_m, sL_m, sQ_m, fst_m, true_and, and_true, tg_some, ln_some, uI_1, uI_2, uL_1, uL_2, uL_3, uQ_1, uQ_2, uQ_3, rv_i, rv_l, rv_n, rv_b0, rv_b1, RMR, ne_eq, reduceCtorEq, not_false_eq_true, Option.getD_some, if_true, if_false, and_self, false_and, and_false, Nat.add_left_cancel_iff, Nat.add_eq_left, Nat.left_eq_add, Nat.one_ne_zero, Nat.reduceAdd, Nat.reduceLT, Nat.reduceLeDiff, Nat.reduceEqDiff, true_implies, false_implies, implies_true, Option.some.injEq, forall_eq', forall_eq, reduceCtorEq, brT, brF, br_s, i_10, i_01, ib_0_2, ib_1_2, tn_0, tn_1, Int32.le_refl, eq_self, rv_bN, rv_iM, RCX 0, RCG 2, RCT 4, RCT 15, RCT 25, RCS 35, RCS 49, RCH 63, RCP 67, RCB 72, RCR 77, RCM 81, RLY, lit_at hw, RCT P, hT', p3, eb, en, e1, l1, e56, e57, c0', c1', c2', of_mul]
            refine b104_112 (b104_115 ?_)
            rw [on_succ]
            exact nx
        · have c1' := iff_true_intro (c1.mpr (by omega))
          have eB : wiB τ ρ p a b (c + 1) = wiB τ ρ p a b c := if_neg (fun q => z1 q.2.1)
          rw [eB] at nx
          simp only [↓br_pos, ↓br_neg, ↓rF_I, ↓rF_L, ↓rF_R, ↓rF_N, rO_m, rB_m, ↓rI_m, wI_m, ↓rB2_m, ↓rB3_m, wB2_m, wB3_m, ↓rL_m, wL_m, ↓rQ_m, wQ_m, ↓lI_m, pI_m, pL_m, pR_m, sI_m, sBy_m, sBo_m, sL_m, sQ_m, fst_m, true_and, and_true, tg_some, ln_some, uI_1, uI_2, uL_1, uL_2, uL_3, uQ_1, uQ_2, uQ_3, rv_i, rv_l, rv_n, rv_b0, rv_b1, RMR, ne_eq, reduceCtorEq, not_false_eq_true, Option.getD_some, if_true, if_false, and_self, false_and, and_false, Nat.add_left_cancel_iff, Nat.add_eq_left, Nat.left_eq_add, Nat.one_ne_zero, Nat.reduceAdd, Nat.reduceLT, Nat.reduceLeDiff, Nat.reduceEqDiff, true_implies, false_implies, implies_true, Option.some.injEq, forall_eq', forall_eq, reduceCtorEq, brT, brF, br_s, i_10, i_01, ib_0_2, ib_1_2, tn_0, tn_1, Int32.le_refl, eq_self, rv_bN, rv_iM, RCX 0, RCG 2, RCT 4, RCT 15, RCT 25, RCS 35, RCS 49, RCH 63, RCP 67, RCB 72, RCR 77, RCM 81, RLY, lit_at hw, RCT P, hT', p3, eb, en, e1, l1, e56, e57, c0', c1', of_mul]
          refine b104_112 (b104_115 ?_)
          rw [on_succ]
          exact nx
      · have c0' := iff_true_intro (c0.mpr (by omega))
        have eB : wiB τ ρ p a b (c + 1) = wiB τ ρ p a b c := if_neg (fun q => z0 q.1)
        rw [eB] at nx
        simp only [↓br_pos, ↓br_neg, ↓rF_I, ↓rF_L, ↓rF_R, ↓rF_N, rO_m, rB_m, ↓rI_m, wI_m, ↓rB2_m, ↓rB3_m, wB2_m, wB3_m, ↓rL_m, wL_m, ↓rQ_m, wQ_m, ↓lI_m, pI_m, pL_m, pR_m, sI_m, sBy_m, sBo_m, sL_m, sQ_m, fst_m, true_and, and_true, tg_some, ln_some, uI_1, uI_2, uL_1, uL_2, uL_3, uQ_1, uQ_2, uQ_3, rv_i, rv_l, rv_n, rv_b0, rv_b1, RMR, ne_eq, reduceCtorEq, not_false_eq_true, Option.getD_some, if_true, if_false, and_self, false_and, and_false, Nat.add_left_cancel_iff, Nat.add_eq_left, Nat.left_eq_add, Nat.one_ne_zero, Nat.reduceAdd, Nat.reduceLT, Nat.reduceLeDiff, Nat.reduceEqDiff, true_implies, false_implies, implies_true, Option.some.injEq, forall_eq', forall_eq, reduceCtorEq, brT, brF, br_s, i_10, i_01, ib_0_2, ib_1_2, tn_0, tn_1, Int32.le_refl, eq_self, rv_bN, rv_iM, RCX 0, RCG 2, RCT 4, RCT 15, RCT 25, RCS 35, RCS 49, RCH 63, RCP 67, RCB 72, RCR 77, RCM 81, RLY, lit_at hw, RCT P, hT', p3, eb, en, e1, l1, e56, e57, c0']
        refine b104_112 (b104_115 ?_)
        rw [on_succ]
        exact nx

theorem c_104z {w : mT} {σ : mS} {tp n : Nat} {t : Nat → Nat} {τ ρ : Rw} {bk : Nat → Rw} {has : Nat → Bool} {im : Nat → Rw} {p a b : Int32} {D : Nat} {K : Int32 → Hp → Prop} (h : cIn w σ tp t τ ρ n bk has im) (hn : ¬ (bN p (τ 1) = 1 ∧ grP a ∧ grP b ∧ a ≤ b)) (hD : 4 ≤ D) : wpI D 104 [.ref 0, .int p, .int a, .int b] (mW w σ) K ↔ K (-1) (mW w σ) := by
  have h' := h
  obtain ⟨hw, hS, hH, ⟨P, hP, p3, p4, hτ⟩, hρ, hv, hr, h1, htp, htb, ht⟩ := h
  have hT := isTP hw hP
  have hT' := hT
  simp only [isT] at hT'
  refine cI_of (m := 3) (fun d hd Q hQ => ?_) rfl hD
  have hd1 : 1 ≤ d := by omega
  have v1 := hv.2.1
  refine b104_0 ?_
  by_cases z : bN p (τ 1) = 1
  · by_cases y : grP a
    · have ey : iB (grP a) = 1 := iB_t y
      by_cases x : grP b
      · have ex : iB (grP b) = 1 := iB_t x
        have u : (a ≤ b) ↔ False := iff_false_intro (fun q => hn ⟨z, y, x, q⟩)
        simp only [↓br_pos, ↓br_neg, ↓rF_I, ↓rF_L, ↓rF_R, ↓rF_N, rO_m, rB_m, ↓rI_m, wI_m, ↓rB2_m, ↓rB3_m, wB2_m, wB3_m, ↓rL_m, wL_m, ↓rQ_m, wQ_m, ↓lI_m, pI_m, pL_m, pR_m, sI_m, sBy_m, sBo_m, sL_m, sQ_m, fst_m, true_and, and_true, tg_some, ln_some, uI_1, uI_2, uL_1, uL_2, uL_3, uQ_1, uQ_2, uQ_3, rv_i, rv_l, rv_n, rv_b0, rv_b1, RMR, ne_eq, reduceCtorEq, not_false_eq_true, Option.getD_some, if_true, if_false, and_self, false_and, and_false, Nat.add_left_cancel_iff, Nat.add_eq_left, Nat.left_eq_add, Nat.one_ne_zero, Nat.reduceAdd, Nat.reduceLT, Nat.reduceLeDiff, Nat.reduceEqDiff, true_implies, false_implies, implies_true, Option.some.injEq, forall_eq', forall_eq, reduceCtorEq, brT, brF, br_s, i_10, i_01, ib_0_2, ib_1_2, tn_0, tn_1, Int32.le_refl, eq_self, rv_bN, rv_iM, RCX 0, RCG 2, RCT 4, RCT 15, RCT 25, RCS 35, RCS 49, RCH 63, RCP 67, RCB 72, RCR 77, RCM 81, RLY, lit_at hw, RCT P, hT', p3, g_71 hT hτ.2.2.1 (by omega : τ 1 < 2147483648) hd1, z, g_119 hd1, ey, ex, u]
        exact hQ
      · have ex : iB (grP b) = 0 := iB_f x
        simp only [↓br_pos, ↓br_neg, ↓rF_I, ↓rF_L, ↓rF_R, ↓rF_N, rO_m, rB_m, ↓rI_m, wI_m, ↓rB2_m, ↓rB3_m, wB2_m, wB3_m, ↓rL_m, wL_m, ↓rQ_m, wQ_m, ↓lI_m, pI_m, pL_m, pR_m, sI_m, sBy_m, sBo_m, sL_m, sQ_m, fst_m, true_and, and_true, tg_some, ln_some, uI_1, uI_2, uL_1, uL_2, uL_3, uQ_1, uQ_2, uQ_3, rv_i, rv_l, rv_n, rv_b0, rv_b1, RMR, ne_eq, reduceCtorEq, not_false_eq_true, Option.getD_some, if_true, if_false, and_self, false_and, and_false, Nat.add_left_cancel_iff, Nat.add_eq_left, Nat.left_eq_add, Nat.one_ne_zero, Nat.reduceAdd, Nat.reduceLT, Nat.reduceLeDiff, Nat.reduceEqDiff, true_implies, false_implies, implies_true, Option.some.injEq, forall_eq', forall_eq, reduceCtorEq, brT, brF, br_s, i_10, i_01, ib_0_2, ib_1_2, tn_0, tn_1, Int32.le_refl, eq_self, rv_bN, rv_iM, RCX 0, RCG 2, RCT 4, RCT 15, RCT 25, RCS 35, RCS 49, RCH 63, RCP 67, RCB 72, RCR 77, RCM 81, RLY, lit_at hw, RCT P, hT', p3, g_71 hT hτ.2.2.1 (by omega : τ 1 < 2147483648) hd1, z, g_119 hd1, ey, ex]
        exact hQ
    · have ey : iB (grP a) = 0 := iB_f y
      simp only [↓br_pos, ↓br_neg, ↓rF_I, ↓rF_L, ↓rF_R, ↓rF_N, rO_m, rB_m, ↓rI_m, wI_m, ↓rB2_m, ↓rB3_m, wB2_m, wB3_m, ↓rL_m, wL_m, ↓rQ_m, wQ_m, ↓lI_m, pI_m, pL_m, pR_m, sI_m, sBy_m, sBo_m, sL_m, sQ_m, fst_m, true_and, and_true, tg_some, ln_some, uI_1, uI_2, uL_1, uL_2, uL_3, uQ_1, uQ_2, uQ_3, rv_i, rv_l, rv_n, rv_b0, rv_b1, RMR, ne_eq, reduceCtorEq, not_false_eq_true, Option.getD_some, if_true, if_false, and_self, false_and, and_false, Nat.add_left_cancel_iff, Nat.add_eq_left, Nat.left_eq_add, Nat.one_ne_zero, Nat.reduceAdd, Nat.reduceLT, Nat.reduceLeDiff, Nat.reduceEqDiff, true_implies, false_implies, implies_true, Option.some.injEq, forall_eq', forall_eq, reduceCtorEq, brT, brF, br_s, i_10, i_01, ib_0_2, ib_1_2, tn_0, tn_1, Int32.le_refl, eq_self, rv_bN, rv_iM, RCX 0, RCG 2, RCT 4, RCT 15, RCT 25, RCS 35, RCS 49, RCH 63, RCP 67, RCB 72, RCR 77, RCM 81, RLY, lit_at hw, RCT P, hT', p3, g_71 hT hτ.2.2.1 (by omega : τ 1 < 2147483648) hd1, z, g_119 hd1, ey]
      exact hQ
  · have z' : bN p (τ 1) = 0 := bN_01.resolve_right z
    simp only [↓br_pos, ↓br_neg, ↓rF_I, ↓rF_L, ↓rF_R, ↓rF_N, rO_m, rB_m, ↓rI_m, wI_m, ↓rB2_m, ↓rB3_m, wB2_m, wB3_m, ↓rL_m, wL_m, ↓rQ_m, wQ_m, ↓lI_m, pI_m, pL_m, pR_m, sI_m, sBy_m, sBo_m, sL_m, sQ_m, fst_m, true_and, and_true, tg_some, ln_some, uI_1, uI_2, uL_1, uL_2, uL_3, uQ_1, uQ_2, uQ_3, rv_i, rv_l, rv_n, rv_b0, rv_b1, RMR, ne_eq, reduceCtorEq, not_false_eq_true, Option.getD_some, if_true, if_false, and_self, false_and, and_false, Nat.add_left_cancel_iff, Nat.add_eq_left, Nat.left_eq_add, Nat.one_ne_zero, Nat.reduceAdd, Nat.reduceLT, Nat.reduceLeDiff, Nat.reduceEqDiff, true_implies, false_implies, implies_true, Option.some.injEq, forall_eq', forall_eq, reduceCtorEq, brT, brF, br_s, i_10, i_01, ib_0_2, ib_1_2, tn_0, tn_1, Int32.le_refl, eq_self, rv_bN, rv_iM, RCX 0, RCG 2, RCT 4, RCT 15, RCT 25, RCS 35, RCS 49, RCH 63, RCP 67, RCB 72, RCR 77, RCM 81, RLY, lit_at hw, RCT P, hT', p3, g_71 hT hτ.2.2.1 (by omega : τ 1 < 2147483648) hd1, z']
    exact hQ
theorem grP_on {a : Nat} (h : a ≤ 999) : grP (Int32.ofNat a) := by
  show 0 ≤ (Int32.ofNat a).toInt ∧ (Int32.ofNat a).toInt ≤ 999
  rw [on_int (by omega)]
  omega
theorem c_104 {w : mT} {σ : mS} {tp n : Nat} {t : Nat → Nat} {τ ρ : Rw} {bk : Nat → Rw} {has : Nat → Bool} {im : Nat → Rw} {p a b : Nat} {D : Nat} {K : Int32 → Hp → Prop} (h : cIn w σ tp t τ ρ n bk has im) (hp : p < τ 1) (hab : a ≤ b) (hb : b ≤ 999) (hD : 4 ≤ D) : wpI D 104 [.ref 0, .int (Int32.ofNat p), .int (Int32.ofNat a), .int (Int32.ofNat b)] (mW w σ) K ↔ K (wiB τ ρ p a b (τ (28 + p))) (mW w σ) := by
  have h' := h
  obtain ⟨hw, hS, hH, ⟨P, hP, p3, p4, hτ⟩, hρ, hv, hr, h1, htp, htb, ht⟩ := h
  have hT := isTP hw hP
  have hT' := hT
  simp only [isT] at hT'
  refine cI_of (m := 3) (fun d hd Q hQ => ?_) rfl hD
  have hd1 : 1 ≤ d := by omega
  have hd2 : 2 ≤ d := by omega
  have v1 := hv.2.1
  have v2 := (hv.2.2.2.2.2.1 p hp).1
  have z := bN_on hp (by omega : τ 1 < 2147483648)
  have ey : iB (grP (Int32.ofNat a)) = 1 := iB_t (grP_on (by omega))
  have ex : iB (grP (Int32.ofNat b)) = 1 := iB_t (grP_on hb)
  have u := iff_true_intro ((on_le (by omega) (by omega)).mpr hab)
  refine b104_0 ?_
  simp only [↓br_pos, ↓br_neg, ↓rF_I, ↓rF_L, ↓rF_R, ↓rF_N, rO_m, rB_m, ↓rI_m, wI_m, ↓rB2_m, ↓rB3_m, wB2_m, wB3_m, ↓rL_m, wL_m, ↓rQ_m, wQ_m, ↓lI_m, pI_m, pL_m, pR_m, sI_m, sBy_m, sBo_m, sL_m, sQ_m, fst_m, true_and, and_true, tg_some, ln_some, uI_1, uI_2, uL_1, uL_2, uL_3, uQ_1, uQ_2, uQ_3, rv_i, rv_l, rv_n, rv_b0, rv_b1, RMR, ne_eq, reduceCtorEq, not_false_eq_true, Option.getD_some, if_true, if_false, and_self, false_and, and_false, Nat.add_left_cancel_iff, Nat.add_eq_left, Nat.left_eq_add, Nat.one_ne_zero, Nat.reduceAdd, Nat.reduceLT, Nat.reduceLeDiff, Nat.reduceEqDiff, true_implies, false_implies, implies_true, Option.some.injEq, forall_eq', forall_eq, reduceCtorEq, brT, brF, br_s, i_10, i_01, ib_0_2, ib_1_2, tn_0, tn_1, Int32.le_refl, eq_self, rv_bN, rv_iM, RCX 0, RCG 2, RCT 4, RCT 15, RCT 25, RCS 35, RCS 49, RCH 63, RCP 67, RCB 72, RCR 77, RCM 81, RLY, lit_at hw, RCT P, hT', p3, g_71 hT hτ.2.2.1 (by omega : τ 1 < 2147483648) hd1, z, g_119 hd1, ey, ex, u]
  exact lp_104 hw hP p3 hτ hv hρ hr hp (by omega) hb hd2 hQ (τ (28 + p)) 0 jk jk (by omega) (Or.inl ⟨rfl, rfl, by omega⟩)
/-- the lot to lay next: 0, or one more than it, and how far -/
def neF (τ ρ : Rw) (p t aim l : Nat) : Nat := dist (gPi τ ρ p + t * τ (28 + p) * τ (16 + l)) (aim * (tPi τ ρ p + t * τ (28 + p)))
def neB (τ ρ : Rw) (p t aim : Nat) : Nat → Nat × Nat
  | 0 => (0, 0)
  | l + 1 => if t * τ (28 + p) ≤ ρ (12 + l) ∧ ((neB τ ρ p t aim l).1 = 0 ∨ neF τ ρ p t aim l < (neB τ ρ p t aim l).2) then (l + 1, neF τ ρ p t aim l) else neB τ ρ p t aim l
def neI (b : Nat) : Int32 := if b = 0 then -2 else Int32.ofNat (b - 1)
theorem neI_2 {b : Nat} (h : b < 1000) : (neI b = (-2 : Int32)) ↔ b = 0 := by
  unfold neI
  by_cases z : b = 0
  · rw [if_pos z]; exact ⟨fun _ => z, fun _ => rfl⟩
  · rw [if_neg z]
    refine ⟨fun q => ?_, fun q => absurd q z⟩
    have := congrArg Int32.toInt q
    rw [on_int (by omega), show (-2 : Int32).toInt = -2 by decide] at this
    omega
theorem neB_lt {τ ρ : Rw} {p t aim n : Nat} (hF : ∀ l, l < n → neF τ ρ p t aim l < 500000000) : ∀ l, l ≤ n → (neB τ ρ p t aim l).1 ≤ l ∧ (neB τ ρ p t aim l).2 < 500000000 := by
  intro l
  induction l with
  | zero => exact fun _ => ⟨Nat.le_refl _, by show 0 < 500000000; omega⟩
  | succ l ih =>
    intro hl
    obtain ⟨i1, i2⟩ := ih (by omega)
    unfold neB
    split
    · exact ⟨Nat.le_refl _, hF l (by omega)⟩
    · exact ⟨by omega, i2⟩
theorem neF_b {τ ρ : Rw} {p t aim l : Nat} (hv : vTold τ) (hr : vRow τ ρ) (hp : p < τ 1) (ht : t ≤ 99) (ha : aim ≤ 999) (hl : l < τ 0) : gPi τ ρ p + t * τ (28 + p) * τ (16 + l) < 200000000 ∧ aim * (tPi τ ρ p + t * τ (28 + p)) < 200000000 := by
  have v2 := (hv.2.2.2.2.2.1 p hp).2
  have gr := (hv.2.2.2.2.1 l hl).2.2
  have t1 := tPi_lt hv hr hp
  have g1 := gPi_le hv hr hp
  have m1 : t * τ (28 + p) ≤ 99 * 12 := Nat.mul_le_mul ht v2
  have m2 : t * τ (28 + p) * τ (16 + l) ≤ 99 * 12 * 999 := Nat.mul_le_mul m1 gr
  have m3 : aim * (tPi τ ρ p + t * τ (28 + p)) ≤ 999 * (119988 + 99 * 12) := Nat.mul_le_mul ha (by omega)
  omega
theorem lp_111 {w : mT} {σ : mS} {P p t aim d : Nat} {τ ρ : Rw} {Q : Option (Option Value) → Hp → Prop} (hw : lit w) (hP : P = 15 ∨ P = 25) (p3 : σ.2.2 0 3 = some P) (hτ : tTold σ P τ) (hv : vTold τ) (hρ : tSt σ 35 τ ρ) (hr : vRow τ ρ) (hp : p < τ 1) (ht : t ≤ 99) (ha : aim ≤ 999) (hQ : Q (some (some (.int (neI (neB τ ρ p t aim (τ 0)).1)))) (mW w σ)) : ∀ (r l : Nat) (x : Value), l + r = τ 0 → (x = jk ∨ ∃ u : Int32, x = .int u) → Wp 111 82 [.ref 0, .int (Int32.ofNat p), .int (Int32.ofNat t), .int (Int32.ofNat aim), .int (Int32.ofNat (t * τ (28 + p))), .int (Int32.ofNat (tPi τ ρ p)), .int (Int32.ofNat (gPi τ ρ p)), .int (neI (neB τ ρ p t aim l).1), .int (Int32.ofNat (neB τ ρ p t aim l).2), .int (Int32.ofNat l), x] [] (mW w σ) Q d := by
  have hT := isTP hw hP
  have hT' := hT
  simp only [isT] at hT'
  have v0 := hv.1
  have v2 := (hv.2.2.2.2.2.1 p hp).2
  have m1 : t * τ (28 + p) ≤ 99 * 12 := Nat.mul_le_mul ht v2
  have nl := neB_lt (τ := τ) (ρ := ρ) (p := p) (t := t) (aim := aim) (n := τ 0) (fun l hl => by
    have q := neF_b hv hr hp ht ha hl
    unfold neF dist
    omega)
  have e0 : σ.1 P 2 = Int32.ofNat (τ 0) := hτ.2.1
  intro r
  induction r with
  | zero =>
    intro l x hl hx
    have hl' : l = τ 0 := by omega
    subst hl'
    rcases hx with rfl | ⟨u, rfl⟩
    · refine b111_82 ?_
      simp only [↓br_pos, ↓br_neg, ↓rF_I, ↓rF_L, ↓rF_R, ↓rF_N, rO_m, rB_m, ↓rI_m, wI_m, ↓rB2_m, ↓rB3_m, wB2_m, wB3_m, ↓rL_m, wL_m, ↓rQ_m, wQ_m, ↓lI_m, pI_m, pL_m, pR_m, sI_m, sBy_m, sBo_m, sL_m, sQ_m, fst_m, true_and, and_true, tg_some, ln_some, uI_1, uI_2, uL_1, uL_2, uL_3, uQ_1, uQ_2, uQ_3, rv_i, rv_l, rv_n, rv_b0, rv_b1, RMR, ne_eq, reduceCtorEq, not_false_eq_true, Option.getD_some, if_true, if_false, and_self, false_and, and_false, Nat.add_left_cancel_iff, Nat.add_eq_left, Nat.left_eq_add, Nat.one_ne_zero, Nat.reduceAdd, Nat.reduceLT, Nat.reduceLeDiff, Nat.reduceEqDiff, true_implies, false_implies, implies_true, Option.some.injEq, forall_eq', forall_eq, reduceCtorEq, brT, brF, br_s, i_10, i_01, ib_0_2, ib_1_2, tn_0, tn_1, Int32.le_refl, eq_self, rv_bN, rv_iM, RCX 0, RCG 2, RCT 4, RCT 15, RCT 25, RCS 35, RCS 49, RCH 63, RCP 67, RCB 72, RCR 77, RCM 81, RLY, lit_at hw, RCT P, hT', p3, e0, Int32.le_refl]
      exact hQ
    · refine b111_82a ?_
      simp only [↓br_pos, ↓br_neg, ↓rF_I, ↓rF_L, ↓rF_R, ↓rF_N, rO_m, rB_m, ↓rI_m, wI_m, ↓rB2_m, ↓rB3_m, wB2_m, wB3_m, ↓rL_m, wL_m, ↓rQ_m, wQ_m, ↓lI_m, pI_m, pL_m, pR_m, sI_m, sBy_m, sBo_m, sL_m, sQ_m, fst_m, true_and, and_true, tg_some, ln_some, uI_1, uI_2, uL_1, uL_2, uL_3, uQ_1, uQ_2, uQ_3, rv_i, rv_l, rv_n, rv_b0, rv_b1, RMR, ne_eq, reduceCtorEq, not_false_eq_true, Option.getD_some, if_true, if_false, and_self, false_and, and_false, Nat.add_left_cancel_iff, Nat.add_eq_left, Nat.left_eq_add, Nat.one_ne_zero, Nat.reduceAdd, Nat.reduceLT, Nat.reduceLeDiff, Nat.reduceEqDiff, true_implies, false_implies, implies_true, Option.some.injEq, forall_eq', forall_eq, reduceCtorEq, brT, brF, br_s, i_10, i_01, ib_0_2, ib_1_2, tn_0, tn_1, Int32.le_refl, eq_self, rv_bN, rv_iM, RCX 0, RCG 2, RCT 4, RCT 15, RCT 25, RCS 35, RCS 49, RCH 63, RCP 67, RCB 72, RCR 77, RCM 81, RLY, lit_at hw, RCT P, hT', p3, e0, Int32.le_refl]
      exact hQ
  | succ r ih =>
    intro l x hl hx
    have hl' : l < τ 0 := by omega
    have nb := nl l (by omega)
    have eb : inB (Int32.ofNat l) 12 = true := on_inB (by omega) (by omega)
    have en := on_nat (i := l) (by omega)
    have e1 := e0
    have e2 := (hτ.2.2.2.2.1 l hl').2
    have e3 : σ.1 36 l = Int32.ofNat (ρ (12 + l)) := tS_lf hρ (by omega)
    have lf := left_lt hr hl'
    have l1 : (Int32.ofNat (τ 0) ≤ Int32.ofNat l) ↔ False := iff_false_intro (fun q => absurd ((on_le (by omega) (by omega)).mp q) (by omega))
    have fb := neF_b hv hr hp ht ha hl'
    have ab : (if 0 ≤ Int32.ofNat (gPi τ ρ p + t * τ (28 + p) * τ (16 + l)) - Int32.ofNat (aim * (tPi τ ρ p + t * τ (28 + p))) then Int32.ofNat (gPi τ ρ p + t * τ (28 + p) * τ (16 + l)) - Int32.ofNat (aim * (tPi τ ρ p + t * τ (28 + p))) else 0 - (Int32.ofNat (gPi τ ρ p + t * τ (28 + p) * τ (16 + l)) - Int32.ofNat (aim * (tPi τ ρ p + t * τ (28 + p))))) = Int32.ofNat (neF τ ρ p t aim l) := abs_of (by omega) (by omega)
    have fl : neF τ ρ p t aim l < 500000000 := by unfold neF dist; omega
    have c0 := on_lt (i := ρ (12 + l)) (j := t * τ (28 + p)) (by omega) (by omega)
    have c2 := on_le (i := (neB τ ρ p t aim l).2) (j := neF τ ρ p t aim l) (by omega) (by omega)
    have nx := ih (l + 1) (.int (Int32.ofNat (neF τ ρ p t aim l))) (by omega) (Or.inr ⟨_, rfl⟩)
    rcases hx with rfl | ⟨u, rfl⟩
    · skip
      refine b111_82 ?_
      by_cases z0 : t * τ (28 + p) ≤ ρ (12 + l)
      · have c0' := iff_false_intro (fun q => absurd (c0.mp q) (by omega))
        by_cases z1 : (neB τ ρ p t aim l).1 = 0
        · have c1' := iff_true_intro ((neI_2 (by omega)).mpr z1)
          have eB : neB τ ρ p t aim (l + 1) = (l + 1, neF τ ρ p t aim l) := if_pos ⟨z0, Or.inl z1⟩
          rw [eB] at nx
          simp only [↓br_pos, ↓br_neg, ↓rF_I, ↓rF_L, ↓rF_R, ↓rF_N, rO_m, rB_m, ↓rI_m, wI_m, ↓rB2_m, ↓rB3_m, wB2_m, wB3_m, ↓rL_m, wL_m, ↓rQ_m, wQ_m, ↓lI_m, pI_m, pL_m, pR_m, sI_m, sBy_m, sBo_m, sL_m, sQ_m, fst_m, true_and, and_true, tg_some, ln_some, uI_1, uI_2, uL_1, uL_2, uL_3, uQ_1, uQ_2, uQ_3, rv_i, rv_l, rv_n, rv_b0, rv_b1, RMR, ne_eq, reduceCtorEq, not_false_eq_true, Option.getD_some, if_true, if_false, and_self, false_and, and_false, Nat.add_left_cancel_iff, Nat.add_eq_left, Nat.left_eq_add, Nat.one_ne_zero, Nat.reduceAdd, Nat.reduceLT, Nat.reduceLeDiff, Nat.reduceEqDiff, true_implies, false_implies, implies_true, Option.some.injEq, forall_eq', forall_eq, reduceCtorEq, brT, brF, br_s, i_10, i_01, ib_0_2, ib_1_2, tn_0, tn_1, Int32.le_refl, eq_self, rv_bN, rv_iM, RCX 0, RCG 2, RCT 4, RCT 15, RCT 25, RCS 35, RCS 49, RCH 63, RCP 67, RCB 72, RCR 77, RCM 81, RLY, lit_at hw, RCT P, hT', p3, eb, en, e1, e2, e3, l1, c0', c1', of_mul, of_add, ab]
          refine b111_160 ?_
          rw [on_succ]
          exact nx
        · have c1' := iff_false_intro (fun q => z1 ((neI_2 (by omega)).mp q))
          by_cases z2 : neF τ ρ p t aim l < (neB τ ρ p t aim l).2
          · have c2' := iff_false_intro (fun q => absurd (c2.mp q) (by omega))
            have eB : neB τ ρ p t aim (l + 1) = (l + 1, neF τ ρ p t aim l) := if_pos ⟨z0, Or.inr z2⟩
            rw [eB] at nx
            simp only [↓br_pos, ↓br_neg, ↓rF_I, ↓rF_L, ↓rF_R, ↓rF_N, rO_m, rB_m, ↓rI_m, wI_m, ↓rB2_m, ↓rB3_m, wB2_m, wB3_m, ↓rL_m, wL_m, ↓rQ_m, wQ_m, ↓lI_m, pI_m, pL_m, pR_m, sI_m, sBy_m, sBo_m, sL_m, sQ_m, fst_m, true_and, and_true, tg_some, ln_some, uI_1, uI_2, uL_1, uL_2, uL_3, uQ_1, uQ_2, uQ_3, rv_i, rv_l, rv_n, rv_b0, rv_b1, RMR, ne_eq, reduceCtorEq, not_false_eq_true, Option.getD_some, if_true, if_false, and_self, false_and, and_false, Nat.add_left_cancel_iff, Nat.add_eq_left, Nat.left_eq_add, Nat.one_ne_zero, Nat.reduceAdd, Nat.reduceLT, Nat.reduceLeDiff, Nat.reduceEqDiff, true_implies, false_implies, implies_true, Option.some.injEq, forall_eq', forall_eq, reduceCtorEq, brT, brF, br_s, i_10, i_01, ib_0_2, ib_1_2, tn_0, tn_1, Int32.le_refl, eq_self, rv_bN, rv_iM, RCX 0, RCG 2, RCT 4, RCT 15, RCT 25, RCS 35, RCS 49, RCH 63, RCP 67, RCB 72, RCR 77, RCM 81, RLY, lit_at hw, RCT P, hT', p3, eb, en, e1, e2, e3, l1, c0', c1', c2', of_mul, of_add, ab]
            refine b111_160 ?_
            rw [on_succ]
            exact nx
          · have c2' := iff_true_intro (c2.mpr (by omega))
            have eB : neB τ ρ p t aim (l + 1) = neB τ ρ p t aim l := if_neg (fun q => q.2.elim z1 z2)
            rw [eB] at nx
            simp only [↓br_pos, ↓br_neg, ↓rF_I, ↓rF_L, ↓rF_R, ↓rF_N, rO_m, rB_m, ↓rI_m, wI_m, ↓rB2_m, ↓rB3_m, wB2_m, wB3_m, ↓rL_m, wL_m, ↓rQ_m, wQ_m, ↓lI_m, pI_m, pL_m, pR_m, sI_m, sBy_m, sBo_m, sL_m, sQ_m, fst_m, true_and, and_true, tg_some, ln_some, uI_1, uI_2, uL_1, uL_2, uL_3, uQ_1, uQ_2, uQ_3, rv_i, rv_l, rv_n, rv_b0, rv_b1, RMR, ne_eq, reduceCtorEq, not_false_eq_true, Option.getD_some, if_true, if_false, and_self, false_and, and_false, Nat.add_left_cancel_iff, Nat.add_eq_left, Nat.left_eq_add, Nat.one_ne_zero, Nat.reduceAdd, Nat.reduceLT, Nat.reduceLeDiff, Nat.reduceEqDiff, true_implies, false_implies, implies_true, Option.some.injEq, forall_eq', forall_eq, reduceCtorEq, brT, brF, br_s, i_10, i_01, ib_0_2, ib_1_2, tn_0, tn_1, Int32.le_refl, eq_self, rv_bN, rv_iM, RCX 0, RCG 2, RCT 4, RCT 15, RCT 25, RCS 35, RCS 49, RCH 63, RCP 67, RCB 72, RCR 77, RCM 81, RLY, lit_at hw, RCT P, hT', p3, eb, en, e1, e2, e3, l1, c0', c1', c2', of_mul, of_add, ab]
            refine b111_160 ?_
            rw [on_succ]
            exact nx
      · have c0' := iff_true_intro (c0.mpr (by omega))
        have eB : neB τ ρ p t aim (l + 1) = neB τ ρ p t aim l := if_neg (fun q => z0 q.1)
        rw [eB] at nx
        simp only [↓br_pos, ↓br_neg, ↓rF_I, ↓rF_L, ↓rF_R, ↓rF_N, rO_m, rB_m, ↓rI_m, wI_m, ↓rB2_m, ↓rB3_m, wB2_m, wB3_m, ↓rL_m, wL_m, ↓rQ_m, wQ_m, ↓lI_m, pI_m, pL_m, pR_m, sI_m, sBy_m, sBo_m, sL_m, sQ_m, fst_m, true_and, and_true, tg_some, ln_some, uI_1, uI_2, uL_1, uL_2, uL_3, uQ_1, uQ_2, uQ_3, rv_i, rv_l, rv_n, rv_b0, rv_b1, RMR, ne_eq, reduceCtorEq, not_false_eq_true, Option.getD_some, if_true, if_false, and_self, false_and, and_false, Nat.add_left_cancel_iff, Nat.add_eq_left, Nat.left_eq_add, Nat.one_ne_zero, Nat.reduceAdd, Nat.reduceLT, Nat.reduceLeDiff, Nat.reduceEqDiff, true_implies, false_implies, implies_true, Option.some.injEq, forall_eq', forall_eq, reduceCtorEq, brT, brF, br_s, i_10, i_01, ib_0_2, ib_1_2, tn_0, tn_1, Int32.le_refl, eq_self, rv_bN, rv_iM, RCX 0, RCG 2, RCT 4, RCT 15, RCT 25, RCS 35, RCS 49, RCH 63, RCP 67, RCB 72, RCR 77, RCM 81, RLY, lit_at hw, RCT P, hT', p3, eb, en, e1, e2, e3, l1, c0', of_mul, of_add, ab]
        refine b111_160 ?_
        rw [on_succ]
        exact nx
    · skip
      refine b111_82a ?_
      by_cases z0 : t * τ (28 + p) ≤ ρ (12 + l)
      · have c0' := iff_false_intro (fun q => absurd (c0.mp q) (by omega))
        by_cases z1 : (neB τ ρ p t aim l).1 = 0
        · have c1' := iff_true_intro ((neI_2 (by omega)).mpr z1)
          have eB : neB τ ρ p t aim (l + 1) = (l + 1, neF τ ρ p t aim l) := if_pos ⟨z0, Or.inl z1⟩
          rw [eB] at nx
          simp only [↓br_pos, ↓br_neg, ↓rF_I, ↓rF_L, ↓rF_R, ↓rF_N, rO_m, rB_m, ↓rI_m, wI_m, ↓rB2_m, ↓rB3_m, wB2_m, wB3_m, ↓rL_m, wL_m, ↓rQ_m, wQ_m, ↓lI_m, pI_m, pL_m, pR_m, sI_m, sBy_m, sBo_m, sL_m, sQ_m, fst_m, true_and, and_true, tg_some, ln_some, uI_1, uI_2, uL_1, uL_2, uL_3, uQ_1, uQ_2, uQ_3, rv_i, rv_l, rv_n, rv_b0, rv_b1, RMR, ne_eq, reduceCtorEq, not_false_eq_true, Option.getD_some, if_true, if_false, and_self, false_and, and_false, Nat.add_left_cancel_iff, Nat.add_eq_left, Nat.left_eq_add, Nat.one_ne_zero, Nat.reduceAdd, Nat.reduceLT, Nat.reduceLeDiff, Nat.reduceEqDiff, true_implies, false_implies, implies_true, Option.some.injEq, forall_eq', forall_eq, reduceCtorEq, brT, brF, br_s, i_10, i_01, ib_0_2, ib_1_2, tn_0, tn_1, Int32.le_refl, eq_self, rv_bN, rv_iM, RCX 0, RCG 2, RCT 4, RCT 15, RCT 25, RCS 35, RCS 49, RCH 63, RCP 67, RCB 72, RCR 77, RCM 81, RLY, lit_at hw, RCT P, hT', p3, eb, en, e1, e2, e3, l1, c0', c1', of_mul, of_add, ab]
          refine b111_160 ?_
          rw [on_succ]
          exact nx
        · have c1' := iff_false_intro (fun q => z1 ((neI_2 (by omega)).mp q))
          by_cases z2 : neF τ ρ p t aim l < (neB τ ρ p t aim l).2
          · have c2' := iff_false_intro (fun q => absurd (c2.mp q) (by omega))
            have eB : neB τ ρ p t aim (l + 1) = (l + 1, neF τ ρ p t aim l) := if_pos ⟨z0, Or.inr z2⟩
            rw [eB] at nx
            simp only [↓br_pos, ↓br_neg, ↓rF_I, ↓rF_L, ↓rF_R, ↓rF_N, rO_m, rB_m, ↓rI_m, wI_m, ↓rB2_m, ↓rB3_m, wB2_m, wB3_m, ↓rL_m, wL_m, ↓rQ_m, wQ_m, ↓lI_m, pI_m, pL_m, pR_m, sI_m, sBy_m, sBo_m, sL_m, sQ_m, fst_m, true_and, and_true, tg_some, ln_some, uI_1, uI_2, uL_1, uL_2, uL_3, uQ_1, uQ_2, uQ_3, rv_i, rv_l, rv_n, rv_b0, rv_b1, RMR, ne_eq, reduceCtorEq, not_false_eq_true, Option.getD_some, if_true, if_false, and_self, false_and, and_false, Nat.add_left_cancel_iff, Nat.add_eq_left, Nat.left_eq_add, Nat.one_ne_zero, Nat.reduceAdd, Nat.reduceLT, Nat.reduceLeDiff, Nat.reduceEqDiff, true_implies, false_implies, implies_true, Option.some.injEq, forall_eq', forall_eq, reduceCtorEq, brT, brF, br_s, i_10, i_01, ib_0_2, ib_1_2, tn_0, tn_1, Int32.le_refl, eq_self, rv_bN, rv_iM, RCX 0, RCG 2, RCT 4, RCT 15, RCT 25, RCS 35, RCS 49, RCH 63, RCP 67, RCB 72, RCR 77, RCM 81, RLY, lit_at hw, RCT P, hT', p3, eb, en, e1, e2, e3, l1, c0', c1', c2', of_mul, of_add, ab]
            refine b111_160 ?_
            rw [on_succ]
            exact nx
          · have c2' := iff_true_intro (c2.mpr (by omega))
            have eB : neB τ ρ p t aim (l + 1) = neB τ ρ p t aim l := if_neg (fun q => q.2.elim z1 z2)
            rw [eB] at nx
            simp only [↓br_pos, ↓br_neg, ↓rF_I, ↓rF_L, ↓rF_R, ↓rF_N, rO_m, rB_m, ↓rI_m, wI_m, ↓rB2_m, ↓rB3_m, wB2_m, wB3_m, ↓rL_m, wL_m, ↓rQ_m, wQ_m, ↓lI_m, pI_m, pL_m, pR_m, sI_m, sBy_m, sBo_m, sL_m, sQ_m, fst_m, true_and, and_true, tg_some, ln_some, uI_1, uI_2, uL_1, uL_2, uL_3, uQ_1, uQ_2, uQ_3, rv_i, rv_l, rv_n, rv_b0, rv_b1, RMR, ne_eq, reduceCtorEq, not_false_eq_true, Option.getD_some, if_true, if_false, and_self, false_and, and_false, Nat.add_left_cancel_iff, Nat.add_eq_left, Nat.left_eq_add, Nat.one_ne_zero, Nat.reduceAdd, Nat.reduceLT, Nat.reduceLeDiff, Nat.reduceEqDiff, true_implies, false_implies, implies_true, Option.some.injEq, forall_eq', forall_eq, reduceCtorEq, brT, brF, br_s, i_10, i_01, ib_0_2, ib_1_2, tn_0, tn_1, Int32.le_refl, eq_self, rv_bN, rv_iM, RCX 0, RCG 2, RCT 4, RCT 15, RCT 25, RCS 35, RCS 49, RCH 63, RCP 67, RCB 72, RCR 77, RCM 81, RLY, lit_at hw, RCT P, hT', p3, eb, en, e1, e2, e3, l1, c0', c1', c2', of_mul, of_add, ab]
            refine b111_160 ?_
            rw [on_succ]
            exact nx
      · have c0' := iff_true_intro (c0.mpr (by omega))
        have eB : neB τ ρ p t aim (l + 1) = neB τ ρ p t aim l := if_neg (fun q => z0 q.1)
        rw [eB] at nx
        simp only [↓br_pos, ↓br_neg, ↓rF_I, ↓rF_L, ↓rF_R, ↓rF_N, rO_m, rB_m, ↓rI_m, wI_m, ↓rB2_m, ↓rB3_m, wB2_m, wB3_m, ↓rL_m, wL_m, ↓rQ_m, wQ_m, ↓lI_m, pI_m, pL_m, pR_m, sI_m, sBy_m, sBo_m, sL_m, sQ_m, fst_m, true_and, and_true, tg_some, ln_some, uI_1, uI_2, uL_1, uL_2, uL_3, uQ_1, uQ_2, uQ_3, rv_i, rv_l, rv_n, rv_b0, rv_b1, RMR, ne_eq, reduceCtorEq, not_false_eq_true, Option.getD_some, if_true, if_false, and_self, false_and, and_false, Nat.add_left_cancel_iff, Nat.add_eq_left, Nat.left_eq_add, Nat.one_ne_zero, Nat.reduceAdd, Nat.reduceLT, Nat.reduceLeDiff, Nat.reduceEqDiff, true_implies, false_implies, implies_true, Option.some.injEq, forall_eq', forall_eq, reduceCtorEq, brT, brF, br_s, i_10, i_01, ib_0_2, ib_1_2, tn_0, tn_1, Int32.le_refl, eq_self, rv_bN, rv_iM, RCX 0, RCG 2, RCT 4, RCT 15, RCT 25, RCS 35, RCS 49, RCH 63, RCP 67, RCB 72, RCR 77, RCM 81, RLY, lit_at hw, RCT P, hT', p3, eb, en, e1, e2, e3, l1, c0', of_mul, of_add, ab]
        refine b111_160 ?_
        rw [on_succ]
        exact nx

abbrev neP (τ : Rw) (p t aim : Int32) : Prop := bN p (τ 1) = 1 ∧ 1 ≤ t.toInt ∧ t.toInt ≤ 99 ∧ grP aim
theorem c_111z {w : mT} {σ : mS} {tp n : Nat} {t : Nat → Nat} {τ ρ : Rw} {bk : Nat → Rw} {has : Nat → Bool} {im : Nat → Rw} {p y0 aim : Int32} {D : Nat} {K : Int32 → Hp → Prop} (h : cIn w σ tp t τ ρ n bk has im) (hn : ¬ neP τ p y0 aim) (hD : 5 ≤ D) : wpI D 111 [.ref 0, .int p, .int y0, .int aim] (mW w σ) K ↔ K (-1) (mW w σ) := by
  have h' := h
  obtain ⟨hw, hS, hH, ⟨P, hP, p3, p4, hτ⟩, hρ, hv, hr, h1, htp, htb, ht⟩ := h
  have hT := isTP hw hP
  have hT' := hT
  simp only [isT] at hT'
  refine cI_of (m := 4) (fun d hd Q hQ => ?_) rfl hD
  have hd1 : 1 ≤ d := by omega
  have v1 := hv.2.1
  refine b111_0 ?_
  by_cases z : bN p (τ 1) = 1
  · by_cases y : y0 < 1
    · simp only [↓br_pos, ↓br_neg, ↓rF_I, ↓rF_L, ↓rF_R, ↓rF_N, rO_m, rB_m, ↓rI_m, wI_m, ↓rB2_m, ↓rB3_m, wB2_m, wB3_m, ↓rL_m, wL_m, ↓rQ_m, wQ_m, ↓lI_m, pI_m, pL_m, pR_m, sI_m, sBy_m, sBo_m, sL_m, sQ_m, fst_m, true_and, and_true, tg_some, ln_some, uI_1, uI_2, uL_1, uL_2, uL_3, uQ_1, uQ_2, uQ_3, rv_i, rv_l, rv_n, rv_b0, rv_b1, RMR, ne_eq, reduceCtorEq, not_false_eq_true, Option.getD_some, if_true, if_false, and_self, false_and, and_false, Nat.add_left_cancel_iff, Nat.add_eq_left, Nat.left_eq_add, Nat.one_ne_zero, Nat.reduceAdd, Nat.reduceLT, Nat.reduceLeDiff, Nat.reduceEqDiff, true_implies, false_implies, implies_true, Option.some.injEq, forall_eq', forall_eq, reduceCtorEq, brT, brF, br_s, i_10, i_01, ib_0_2, ib_1_2, tn_0, tn_1, Int32.le_refl, eq_self, rv_bN, rv_iM, RCX 0, RCG 2, RCT 4, RCT 15, RCT 25, RCS 35, RCS 49, RCH 63, RCP 67, RCB 72, RCR 77, RCM 81, RLY, lit_at hw, RCT P, hT', p3, g_71 hT hτ.2.2.1 (by omega : τ 1 < 2147483648) hd1, z, y]
      exact hQ
    · by_cases x : (99 : Int32) < y0
      · simp only [↓br_pos, ↓br_neg, ↓rF_I, ↓rF_L, ↓rF_R, ↓rF_N, rO_m, rB_m, ↓rI_m, wI_m, ↓rB2_m, ↓rB3_m, wB2_m, wB3_m, ↓rL_m, wL_m, ↓rQ_m, wQ_m, ↓lI_m, pI_m, pL_m, pR_m, sI_m, sBy_m, sBo_m, sL_m, sQ_m, fst_m, true_and, and_true, tg_some, ln_some, uI_1, uI_2, uL_1, uL_2, uL_3, uQ_1, uQ_2, uQ_3, rv_i, rv_l, rv_n, rv_b0, rv_b1, RMR, ne_eq, reduceCtorEq, not_false_eq_true, Option.getD_some, if_true, if_false, and_self, false_and, and_false, Nat.add_left_cancel_iff, Nat.add_eq_left, Nat.left_eq_add, Nat.one_ne_zero, Nat.reduceAdd, Nat.reduceLT, Nat.reduceLeDiff, Nat.reduceEqDiff, true_implies, false_implies, implies_true, Option.some.injEq, forall_eq', forall_eq, reduceCtorEq, brT, brF, br_s, i_10, i_01, ib_0_2, ib_1_2, tn_0, tn_1, Int32.le_refl, eq_self, rv_bN, rv_iM, RCX 0, RCG 2, RCT 4, RCT 15, RCT 25, RCS 35, RCS 49, RCH 63, RCP 67, RCB 72, RCR 77, RCM 81, RLY, lit_at hw, RCT P, hT', p3, g_71 hT hτ.2.2.1 (by omega : τ 1 < 2147483648) hd1, z, y, x]
        exact hQ
      · have ex : iB (grP aim) = 0 := iB_f (fun q => hn ⟨z, by rw [i_lt, show (1 : Int32).toInt = 1 by decide] at y; omega, by rw [i_lt, show (99 : Int32).toInt = 99 by decide] at x; omega, q⟩)
        simp only [↓br_pos, ↓br_neg, ↓rF_I, ↓rF_L, ↓rF_R, ↓rF_N, rO_m, rB_m, ↓rI_m, wI_m, ↓rB2_m, ↓rB3_m, wB2_m, wB3_m, ↓rL_m, wL_m, ↓rQ_m, wQ_m, ↓lI_m, pI_m, pL_m, pR_m, sI_m, sBy_m, sBo_m, sL_m, sQ_m, fst_m, true_and, and_true, tg_some, ln_some, uI_1, uI_2, uL_1, uL_2, uL_3, uQ_1, uQ_2, uQ_3, rv_i, rv_l, rv_n, rv_b0, rv_b1, RMR, ne_eq, reduceCtorEq, not_false_eq_true, Option.getD_some, if_true, if_false, and_self, false_and, and_false, Nat.add_left_cancel_iff, Nat.add_eq_left, Nat.left_eq_add, Nat.one_ne_zero, Nat.reduceAdd, Nat.reduceLT, Nat.reduceLeDiff, Nat.reduceEqDiff, true_implies, false_implies, implies_true, Option.some.injEq, forall_eq', forall_eq, reduceCtorEq, brT, brF, br_s, i_10, i_01, ib_0_2, ib_1_2, tn_0, tn_1, Int32.le_refl, eq_self, rv_bN, rv_iM, RCX 0, RCG 2, RCT 4, RCT 15, RCT 25, RCS 35, RCS 49, RCH 63, RCP 67, RCB 72, RCR 77, RCM 81, RLY, lit_at hw, RCT P, hT', p3, g_71 hT hτ.2.2.1 (by omega : τ 1 < 2147483648) hd1, z, y, x, g_119 hd1, ex]
        exact hQ
  · have z' : bN p (τ 1) = 0 := bN_01.resolve_right z
    simp only [↓br_pos, ↓br_neg, ↓rF_I, ↓rF_L, ↓rF_R, ↓rF_N, rO_m, rB_m, ↓rI_m, wI_m, ↓rB2_m, ↓rB3_m, wB2_m, wB3_m, ↓rL_m, wL_m, ↓rQ_m, wQ_m, ↓lI_m, pI_m, pL_m, pR_m, sI_m, sBy_m, sBo_m, sL_m, sQ_m, fst_m, true_and, and_true, tg_some, ln_some, uI_1, uI_2, uL_1, uL_2, uL_3, uQ_1, uQ_2, uQ_3, rv_i, rv_l, rv_n, rv_b0, rv_b1, RMR, ne_eq, reduceCtorEq, not_false_eq_true, Option.getD_some, if_true, if_false, and_self, false_and, and_false, Nat.add_left_cancel_iff, Nat.add_eq_left, Nat.left_eq_add, Nat.one_ne_zero, Nat.reduceAdd, Nat.reduceLT, Nat.reduceLeDiff, Nat.reduceEqDiff, true_implies, false_implies, implies_true, Option.some.injEq, forall_eq', forall_eq, reduceCtorEq, brT, brF, br_s, i_10, i_01, ib_0_2, ib_1_2, tn_0, tn_1, Int32.le_refl, eq_self, rv_bN, rv_iM, RCX 0, RCG 2, RCT 4, RCT 15, RCT 25, RCS 35, RCS 49, RCH 63, RCP 67, RCB 72, RCR 77, RCM 81, RLY, lit_at hw, RCT P, hT', p3, g_71 hT hτ.2.2.1 (by omega : τ 1 < 2147483648) hd1, z']
    exact hQ
theorem c_111 {w : mT} {σ : mS} {tp n : Nat} {t : Nat → Nat} {τ ρ : Rw} {bk : Nat → Rw} {has : Nat → Bool} {im : Nat → Rw} {p y0 aim : Nat} {D : Nat} {K : Int32 → Hp → Prop} (h : cIn w σ tp t τ ρ n bk has im) (hp : p < τ 1) (hy : 1 ≤ y0 ∧ y0 ≤ 99) (ha : aim ≤ 999) (hD : 5 ≤ D) : wpI D 111 [.ref 0, .int (Int32.ofNat p), .int (Int32.ofNat y0), .int (Int32.ofNat aim)] (mW w σ) K ↔ K (neI (neB τ ρ p y0 aim (τ 0)).1) (mW w σ) := by
  have h' := h
  obtain ⟨hw, hS, hH, ⟨P, hP, p3, p4, hτ⟩, hρ, hv, hr, h1, htp, htb, ht⟩ := h
  have hT := isTP hw hP
  have hT' := hT
  simp only [isT] at hT'
  refine cI_of (m := 4) (fun d hd Q hQ => ?_) rfl hD
  have hd1 : 1 ≤ d := by omega
  have hd3 : 3 ≤ d := by omega
  have v1 := hv.2.1
  have z := bN_on hp (by omega : τ 1 < 2147483648)
  have ex : iB (grP (Int32.ofNat aim)) = 1 := iB_t (grP_on ha)
  have c1 : (Int32.ofNat y0 < (1 : Int32)) ↔ False := iff_false_intro (fun q => absurd ((on_lt (j := 1) (by omega) (by omega)).mp q) (by omega))
  have c2 : ((99 : Int32) < Int32.ofNat y0) ↔ False := iff_false_intro (fun q => absurd ((on_lt (i := 99) (by omega) (by omega)).mp q) (by omega))
  have eb : inB (Int32.ofNat p) 3 = true := on_inB (by omega) (by omega)
  have en := on_nat (i := p) (by omega)
  have e1 := hτ.2.2.2.2.2.1 p hp
  refine b111_0 ?_
  simp only [↓br_pos, ↓br_neg, ↓rF_I, ↓rF_L, ↓rF_R, ↓rF_N, rO_m, rB_m, ↓rI_m, wI_m, ↓rB2_m, ↓rB3_m, wB2_m, wB3_m, ↓rL_m, wL_m, ↓rQ_m, wQ_m, ↓lI_m, pI_m, pL_m, pR_m, sI_m, sBy_m, sBo_m, sL_m, sQ_m, fst_m, true_and, and_true, tg_some, ln_some, uI_1, uI_2, uL_1, uL_2, uL_3, uQ_1, uQ_2, uQ_3, rv_i, rv_l, rv_n, rv_b0, rv_b1, RMR, ne_eq, reduceCtorEq, not_false_eq_true, Option.getD_some, if_true, if_false, and_self, false_and, and_false, Nat.add_left_cancel_iff, Nat.add_eq_left, Nat.left_eq_add, Nat.one_ne_zero, Nat.reduceAdd, Nat.reduceLT, Nat.reduceLeDiff, Nat.reduceEqDiff, true_implies, false_implies, implies_true, Option.some.injEq, forall_eq', forall_eq, reduceCtorEq, brT, brF, br_s, i_10, i_01, ib_0_2, ib_1_2, tn_0, tn_1, Int32.le_refl, eq_self, rv_bN, rv_iM, RCX 0, RCG 2, RCT 4, RCT 15, RCT 25, RCS 35, RCS 49, RCH 63, RCP 67, RCB 72, RCR 77, RCM 81, RLY, lit_at hw, RCT P, hT', p3, g_71 hT hτ.2.2.1 (by omega : τ 1 < 2147483648) hd1, z, c1, c2, g_119 hd1, ex, eb, en, e1, g_58 (isS35 hw) hT hρ hτ hv hr hp hd3, g_59 (isS35 hw) hT hρ hτ hv hr hp hd3, of_mul]
  exact b111_72 (lp_111 hw hP p3 hτ hv hρ hr hp hy.2 ha hQ (τ 0) 0 jk (by omega) (Or.inl rfl))
