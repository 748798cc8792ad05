/-! one MINUTE of the class -/
theorem tS_o0 {σ : mS} {r : Nat} {τ ρ : Rw} (h : tSt σ r τ ρ) (hn : 0 < ρ 10) : σ.1 (r + 13) 0 = Int32.ofNat (ρ 51) ∧ σ.1 (r + 13) 1 = Int32.ofNat (ρ 52) ∧ σ.1 (r + 13) 2 = Int32.ofNat (ρ 56) ∧ σ.1 (r + 13) 3 = Int32.ofNat (ρ 54) ∧ σ.1 (r + 13) 4 = Int32.ofNat (ρ 55) ∧ σ.1 (r + 13) 5 = Int32.ofNat (ρ 57) - 1 := h.2.2.2.2.2.2.2.2.1 0 hn
theorem tS_o1 {σ : mS} {r : Nat} {τ ρ : Rw} (h : tSt σ r τ ρ) (hn : 0 < ρ 11) : σ.1 (r + 13) 48 = Int32.ofNat (ρ 107) ∧ σ.1 (r + 13) 49 = Int32.ofNat (ρ 109) ∧ σ.1 (r + 13) 50 = Int32.ofNat (ρ 108) := h.2.2.2.2.2.2.2.2.2 0 hn
theorem g_23 {w : mT} {σ : mS} {r t m p c : Nat} {τ ρ : Rw} (hR : isS w r) (hT : isT w t) (hρ : tSt σ r τ ρ) (hτ : tTold σ t τ) (hv : vTold τ) (h : vRow τ ρ) (hm : m < 2) (hp : p < 1000) (hc : c < 1000) : ∃ σ', frR r (r + 14) σ σ' ∧ tSt σ' r τ (sMv τ ρ m p c) ∧ ∀ {D : Nat} {K : Int32 → Hp → Prop}, 3 ≤ D → (wpI D 23 [.ref t, .ref r, .int (Int32.ofNat m), .int (Int32.ofNat p), .int (Int32.ofNat c)] (mW w σ) K ↔ K (iB (frP τ ρ m p c)) (mW w σ')) := by
  have hR' := hR
  simp only [isS] at hR'
  have hs1 := onP_lt hv (vR_on h hm)
  have hs2 := onP_lt hv (vR_on h (by omega : 1 - m < 2))
  by_cases z : frP τ ρ m p c
  · obtain ⟨σ1, f1, t1, e1⟩ := g_54 (w := w) hR hρ (vRow_b hv h) hm hs1 hp hc
    refine ⟨σ1, f1, by unfold sMv; rw [if_pos z]; exact t1, fun hD => cI_of (m := 2) (fun d hd Q hQ => ?_) rfl hD⟩
    have hd1 : 1 ≤ d := by omega
    have hd2 : 2 ≤ d := by omega
    have ez : iB (frP τ ρ m p c) = 1 := iB_t z
    rw [ez] at hQ
    refine b23_0 ?_
    simp only [↓rF_I, ↓rF_L, ↓rF_R, ↓rF_N, rO_m, rB_m, ↓rI_m, wI_m, ↓rB2_m, ↓rB3_m, wB2_m, wB3_m, ↓rL_m, wL_m, ↓rQ_m, wQ_m, ↓lI_m, pI_m, pL_m, pR_m, sI_m, sBy_m, sBo_m, sL_m, sQ_m, fst_m, true_and, and_true, tg_some, ln_some, uI_1, uI_2, uL_1, uL_2, uL_3, uQ_1, uQ_2, uQ_3, rv_i, rv_l, rv_n, rv_b0, rv_b1, RMR, ne_eq, reduceCtorEq, not_false_eq_true, Option.getD_some, if_true, if_false, and_self, false_and, and_false, Nat.add_left_cancel_iff, Nat.add_eq_left, Nat.left_eq_add, Nat.one_ne_zero, Nat.reduceAdd, Nat.reduceLT, Nat.reduceLeDiff, Nat.reduceEqDiff, true_implies, false_implies, implies_true, Option.some.injEq, forall_eq', forall_eq, reduceCtorEq, brT, brF, br_s, i_10, i_01, ib_0_2, ib_1_2, tn_0, tn_1, Int32.le_refl, eq_self, rv_bN, rv_iM, RCS r, hR', g_55 hR hT hρ hτ hv hm hs2 hp hc hd2, ez, e1 hd2]
    exact hQ
  · refine ⟨σ, frR_rf, by unfold sMv; rw [if_neg z]; exact hρ, fun hD => cI_of (m := 2) (fun d hd Q hQ => ?_) rfl hD⟩
    have hd1 : 1 ≤ d := by omega
    have hd2 : 2 ≤ d := by omega
    have ez : iB (frP τ ρ m p c) = 0 := iB_f z
    rw [ez] at hQ
    refine b23_0 ?_
    simp only [↓rF_I, ↓rF_L, ↓rF_R, ↓rF_N, rO_m, rB_m, ↓rI_m, wI_m, ↓rB2_m, ↓rB3_m, wB2_m, wB3_m, ↓rL_m, wL_m, ↓rQ_m, wQ_m, ↓lI_m, pI_m, pL_m, pR_m, sI_m, sBy_m, sBo_m, sL_m, sQ_m, fst_m, true_and, and_true, tg_some, ln_some, uI_1, uI_2, uL_1, uL_2, uL_3, uQ_1, uQ_2, uQ_3, rv_i, rv_l, rv_n, rv_b0, rv_b1, RMR, ne_eq, reduceCtorEq, not_false_eq_true, Option.getD_some, if_true, if_false, and_self, false_and, and_false, Nat.add_left_cancel_iff, Nat.add_eq_left, Nat.left_eq_add, Nat.one_ne_zero, Nat.reduceAdd, Nat.reduceLT, Nat.reduceLeDiff, Nat.reduceEqDiff, true_implies, false_implies, implies_true, Option.some.injEq, forall_eq', forall_eq, reduceCtorEq, brT, brF, br_s, i_10, i_01, ib_0_2, ib_1_2, tn_0, tn_1, Int32.le_refl, eq_self, rv_bN, rv_iM, RCS r, hR', g_55 hR hT hρ hτ hv hm hs2 hp hc hd2, ez]
    exact hQ
theorem i10_lt {a : Nat} (h : a < 2147483648) : (Int32.ofNat a < (10 : Int32)) ↔ a < 10 := on_lt (j := 10) h (by omega)
theorem frP_w {τ ρ : Rw} {m p c : Nat} (hm : m < 2) : frP τ (way1 ρ m) m p c ↔ frP τ ρ m p c := by
  have e : way1 ρ m (2 + (1 - m)) = ρ (2 + (1 - m)) := by
    unfold way1
    split
    · rw [rS_ne (by omega)]
    · rfl
  unfold frP onAtD cellAt
  rw [e]
theorem g_22 {w : mT} {σ : mS} {r t m p g : Nat} {τ ρ : Rw} (hR : isS w r) (hT : isT w t) (hd : t + 10 ≤ r ∨ r + 14 ≤ t) (hρ : tSt σ r τ ρ) (hτ : tTold σ t τ) (hv : vTold τ) (h : vRow τ ρ) (hm : m < 2) (hp : p < τ 1) (hg : g < τ (28 + p)) : ∃ σ', frR r (r + 14) σ σ' ∧ tSt σ' r τ (sTr τ ρ m p g) ∧ ∀ {D : Nat} {K : Int32 → Hp → Prop}, 4 ≤ D → (wpI D 22 [.ref t, .ref r, .int (Int32.ofNat m), .int (Int32.ofNat p), .int (Int32.ofNat g)] (mW w σ) K ↔ K (iB (¬ (¬ ρ (6 + m) < 10 ∧ ¬ frP τ ρ m p g))) (mW w σ')) := by
  have hR' := hR
  simp only [isS] at hR'
  have v1 := hv.2.1
  have v2 := (hv.2.2.2.2.2.1 p hp).2
  have hw := vR_way h hm
  have hb := vRow_b hv h
  have ew := tS_wy hρ hm
  have eb : inB (Int32.ofNat m) 2 = true := on_inB hm (by omega)
  have en := on_nat (i := m) (by omega)
  have hW := vRow_w1 hv h hm
  by_cases a : ρ (6 + m) < 10
  · have w1 : way1 ρ m = rSet ρ (6 + m) (ρ (6 + m) + 1) := if_pos a
    have ts1 : tSt (uI σ (r + 10) m (Int32.ofNat (ρ (6 + m) + 1))) r τ (way1 ρ m) := by
      rw [w1]
      exact tSt_w hρ hb (by unfold in0; omega) (lA_wy hm) (tv_0 (by unfold isSh; omega)).symm (by omega)
    have fr1 : frR r (r + 14) σ (uI σ (r + 10) m (Int32.ofNat (ρ (6 + m) + 1))) := frR_I (by omega)
    have l1 : (Int32.ofNat (ρ (6 + m)) < (10 : Int32)) ↔ True := iff_true_intro ((i10_lt (by omega)).mpr a)
    have ez : iB (¬ (¬ ρ (6 + m) < 10 ∧ ¬ frP τ ρ m p g)) = 1 := iB_t (fun q => q.1 a)
    have ewy : way1 ρ m (6 + m) = ρ (6 + m) + 1 := by rw [w1, rS_eq]
    by_cases b : ρ (6 + m) + 1 < 10
    · have l2 : (Int32.ofNat (ρ (6 + m) + 1) < (10 : Int32)) ↔ True := iff_true_intro ((i10_lt (by omega)).mpr b)
      refine ⟨_, fr1, by unfold sTr; rw [if_neg (fun q => q.1 (by omega))]; exact ts1, fun hD => cI_of (m := 3) (fun d hd Q hQ => ?_) rfl hD⟩
      rw [ez] at hQ
      refine b22_0 ?_
      simp only [↓rF_I, ↓rF_L, ↓rF_R, ↓rF_N, rO_m, rB_m, ↓rI_m, wI_m, ↓rB2_m, ↓rB3_m, wB2_m, wB3_m, ↓rL_m, wL_m, ↓rQ_m, wQ_m, ↓lI_m, pI_m, pL_m, pR_m, sI_m, sBy_m, sBo_m, sL_m, sQ_m, fst_m, true_and, and_true, tg_some, ln_some, uI_1, uI_2, uL_1, uL_2, uL_3, uQ_1, uQ_2, uQ_3, rv_i, rv_l, rv_n, rv_b0, rv_b1, RMR, ne_eq, reduceCtorEq, not_false_eq_true, Option.getD_some, if_true, if_false, and_self, false_and, and_false, Nat.add_left_cancel_iff, Nat.add_eq_left, Nat.left_eq_add, Nat.one_ne_zero, Nat.reduceAdd, Nat.reduceLT, Nat.reduceLeDiff, Nat.reduceEqDiff, true_implies, false_implies, implies_true, Option.some.injEq, forall_eq', forall_eq, reduceCtorEq, brT, brF, br_s, i_10, i_01, ib_0_2, ib_1_2, tn_0, tn_1, Int32.le_refl, eq_self, rv_bN, rv_iM, RCS r, hR', eb, en, ew, l1, on_succ, l2]
      refine b22_65 ?_
      simp only [↓rF_I, ↓rF_L, ↓rF_R, ↓rF_N, rO_m, rB_m, ↓rI_m, wI_m, ↓rB2_m, ↓rB3_m, wB2_m, wB3_m, ↓rL_m, wL_m, ↓rQ_m, wQ_m, ↓lI_m, pI_m, pL_m, pR_m, sI_m, sBy_m, sBo_m, sL_m, sQ_m, fst_m, true_and, and_true, tg_some, ln_some, uI_1, uI_2, uL_1, uL_2, uL_3, uQ_1, uQ_2, uQ_3, rv_i, rv_l, rv_n, rv_b0, rv_b1, RMR, ne_eq, reduceCtorEq, not_false_eq_true, Option.getD_some, if_true, if_false, and_self, false_and, and_false, Nat.add_left_cancel_iff, Nat.add_eq_left, Nat.left_eq_add, Nat.one_ne_zero, Nat.reduceAdd, Nat.reduceLT, Nat.reduceLeDiff, Nat.reduceEqDiff, true_implies, false_implies, implies_true, Option.some.injEq, forall_eq', forall_eq, reduceCtorEq, brT, brF, br_s, i_10, i_01, ib_0_2, ib_1_2, tn_0, tn_1, Int32.le_refl, eq_self, rv_bN, rv_iM]
      exact hQ
    · have l2 : (Int32.ofNat (ρ (6 + m) + 1) < (10 : Int32)) ↔ False := iff_false_intro (fun q => b ((i10_lt (by omega)).mp q))
      obtain ⟨σ2, f2, t2, e2⟩ := g_23 (p := p) (c := g) hR hT ts1 (tTold_R hτ fr1 (by omega)) hv hW hm (by omega) (by omega)
      by_cases z : frP τ ρ m p g
      · have zw := (frP_w (τ := τ) (ρ := ρ) (p := p) (c := g) hm).mpr z
        have ezw : iB (frP τ (way1 ρ m) m p g) = 1 := iB_t zw
        have ar : arrP τ ρ m p g := ⟨by omega, z⟩
        refine ⟨uI σ2 (r + 10) m 0, frR_tr fr1 (frR_tr f2 (frR_I (by omega))), ?_, fun hD => cI_of (m := 3) (fun d hd Q hQ => ?_) rfl hD⟩
        · unfold sTr
          rw [if_pos ar]
          unfold sMv at t2
          rw [if_pos zw] at t2
          exact tSt_w t2 (vRow_b hv (vRow_go hv hW hm hp hg)) (by unfold in0; omega) (lA_wy hm) (tv_0 (by unfold isSh; omega)).symm (by omega)
        · have hd1 : 1 ≤ d := by omega
          have hd2 : 2 ≤ d := by omega
          have hd3 : 3 ≤ d := by omega
          rw [ez] at hQ
          refine b22_0 ?_
          simp only [↓rF_I, ↓rF_L, ↓rF_R, ↓rF_N, rO_m, rB_m, ↓rI_m, wI_m, ↓rB2_m, ↓rB3_m, wB2_m, wB3_m, ↓rL_m, wL_m, ↓rQ_m, wQ_m, ↓lI_m, pI_m, pL_m, pR_m, sI_m, sBy_m, sBo_m, sL_m, sQ_m, fst_m, true_and, and_true, tg_some, ln_some, uI_1, uI_2, uL_1, uL_2, uL_3, uQ_1, uQ_2, uQ_3, rv_i, rv_l, rv_n, rv_b0, rv_b1, RMR, ne_eq, reduceCtorEq, not_false_eq_true, Option.getD_some, if_true, if_false, and_self, false_and, and_false, Nat.add_left_cancel_iff, Nat.add_eq_left, Nat.left_eq_add, Nat.one_ne_zero, Nat.reduceAdd, Nat.reduceLT, Nat.reduceLeDiff, Nat.reduceEqDiff, true_implies, false_implies, implies_true, Option.some.injEq, forall_eq', forall_eq, reduceCtorEq, brT, brF, br_s, i_10, i_01, ib_0_2, ib_1_2, tn_0, tn_1, Int32.le_refl, eq_self, rv_bN, rv_iM, RCS r, hR', eb, en, ew, l1, on_succ, l2, e2 hd3, ezw]
          exact hQ
      · have zw : ¬ frP τ (way1 ρ m) m p g := fun q => z ((frP_w hm).mp q)
        have ezw : iB (frP τ (way1 ρ m) m p g) = 0 := iB_f zw
        refine ⟨σ2, frR_tr fr1 f2, ?_, fun hD => cI_of (m := 3) (fun d hd Q hQ => ?_) rfl hD⟩
        · unfold sTr
          rw [if_neg (fun q => z q.2)]
          unfold sMv at t2
          rw [if_neg zw] at t2
          exact t2
        · have hd1 : 1 ≤ d := by omega
          have hd2 : 2 ≤ d := by omega
          have hd3 : 3 ≤ d := by omega
          rw [ez] at hQ
          refine b22_0 ?_
          simp only [↓rF_I, ↓rF_L, ↓rF_R, ↓rF_N, rO_m, rB_m, ↓rI_m, wI_m, ↓rB2_m, ↓rB3_m, wB2_m, wB3_m, ↓rL_m, wL_m, ↓rQ_m, wQ_m, ↓lI_m, pI_m, pL_m, pR_m, sI_m, sBy_m, sBo_m, sL_m, sQ_m, fst_m, true_and, and_true, tg_some, ln_some, uI_1, uI_2, uL_1, uL_2, uL_3, uQ_1, uQ_2, uQ_3, rv_i, rv_l, rv_n, rv_b0, rv_b1, RMR, ne_eq, reduceCtorEq, not_false_eq_true, Option.getD_some, if_true, if_false, and_self, false_and, and_false, Nat.add_left_cancel_iff, Nat.add_eq_left, Nat.left_eq_add, Nat.one_ne_zero, Nat.reduceAdd, Nat.reduceLT, Nat.reduceLeDiff, Nat.reduceEqDiff, true_implies, false_implies, implies_true, Option.some.injEq, forall_eq', forall_eq, reduceCtorEq, brT, brF, br_s, i_10, i_01, ib_0_2, ib_1_2, tn_0, tn_1, Int32.le_refl, eq_self, rv_bN, rv_iM, RCS r, hR', eb, en, ew, l1, on_succ, l2, e2 hd3, ezw]
          refine b22_65 ?_
          simp only [↓rF_I, ↓rF_L, ↓rF_R, ↓rF_N, rO_m, rB_m, ↓rI_m, wI_m, ↓rB2_m, ↓rB3_m, wB2_m, wB3_m, ↓rL_m, wL_m, ↓rQ_m, wQ_m, ↓lI_m, pI_m, pL_m, pR_m, sI_m, sBy_m, sBo_m, sL_m, sQ_m, fst_m, true_and, and_true, tg_some, ln_some, uI_1, uI_2, uL_1, uL_2, uL_3, uQ_1, uQ_2, uQ_3, rv_i, rv_l, rv_n, rv_b0, rv_b1, RMR, ne_eq, reduceCtorEq, not_false_eq_true, Option.getD_some, if_true, if_false, and_self, false_and, and_false, Nat.add_left_cancel_iff, Nat.add_eq_left, Nat.left_eq_add, Nat.one_ne_zero, Nat.reduceAdd, Nat.reduceLT, Nat.reduceLeDiff, Nat.reduceEqDiff, true_implies, false_implies, implies_true, Option.some.injEq, forall_eq', forall_eq, reduceCtorEq, brT, brF, br_s, i_10, i_01, ib_0_2, ib_1_2, tn_0, tn_1, Int32.le_refl, eq_self, rv_bN, rv_iM]
          exact hQ
  · have w1 : way1 ρ m = ρ := if_neg a
    have l1 : (Int32.ofNat (ρ (6 + m)) < (10 : Int32)) ↔ False := iff_false_intro (fun q => a ((i10_lt (by omega)).mp q))
    obtain ⟨σ2, f2, t2, e2⟩ := g_23 (p := p) (c := g) hR hT hρ hτ hv h hm (by omega) (by omega)
    by_cases z : frP τ ρ m p g
    · have ezw : iB (frP τ ρ m p g) = 1 := iB_t z
      have ar : arrP τ ρ m p g := ⟨by rw [w1]; exact a, z⟩
      have ez : iB (¬ (¬ ρ (6 + m) < 10 ∧ ¬ frP τ ρ m p g)) = 1 := iB_t (fun q => q.2 z)
      refine ⟨uI σ2 (r + 10) m 0, frR_tr f2 (frR_I (by omega)), ?_, fun hD => cI_of (m := 3) (fun d hd Q hQ => ?_) rfl hD⟩
      · unfold sTr
        rw [if_pos ar, w1]
        unfold sMv at t2
        rw [if_pos z] at t2
        exact tSt_w t2 (vRow_b hv (vRow_go hv h hm hp hg)) (by unfold in0; omega) (lA_wy hm) (tv_0 (by unfold isSh; omega)).symm (by omega)
      · have hd1 : 1 ≤ d := by omega
        have hd2 : 2 ≤ d := by omega
        have hd3 : 3 ≤ d := by omega
        rw [ez] at hQ
        refine b22_0 ?_
        simp only [↓rF_I, ↓rF_L, ↓rF_R, ↓rF_N, rO_m, rB_m, ↓rI_m, wI_m, ↓rB2_m, ↓rB3_m, wB2_m, wB3_m, ↓rL_m, wL_m, ↓rQ_m, wQ_m, ↓lI_m, pI_m, pL_m, pR_m, sI_m, sBy_m, sBo_m, sL_m, sQ_m, fst_m, true_and, and_true, tg_some, ln_some, uI_1, uI_2, uL_1, uL_2, uL_3, uQ_1, uQ_2, uQ_3, rv_i, rv_l, rv_n, rv_b0, rv_b1, RMR, ne_eq, reduceCtorEq, not_false_eq_true, Option.getD_some, if_true, if_false, and_self, false_and, and_false, Nat.add_left_cancel_iff, Nat.add_eq_left, Nat.left_eq_add, Nat.one_ne_zero, Nat.reduceAdd, Nat.reduceLT, Nat.reduceLeDiff, Nat.reduceEqDiff, true_implies, false_implies, implies_true, Option.some.injEq, forall_eq', forall_eq, reduceCtorEq, brT, brF, br_s, i_10, i_01, ib_0_2, ib_1_2, tn_0, tn_1, Int32.le_refl, eq_self, rv_bN, rv_iM, RCS r, hR', eb, en, ew, l1, on_succ, e2 hd3, ezw]
        exact hQ
    · have ezw : iB (frP τ ρ m p g) = 0 := iB_f z
      have ez : iB (¬ (¬ ρ (6 + m) < 10 ∧ ¬ frP τ ρ m p g)) = 0 := iB_f (fun q => q ⟨a, z⟩)
      refine ⟨σ2, f2, ?_, fun hD => cI_of (m := 3) (fun d hd Q hQ => ?_) rfl hD⟩
      · unfold sTr
        rw [if_neg (fun q => z q.2), w1]
        unfold sMv at t2
        rw [if_neg z] at t2
        exact t2
      · have hd1 : 1 ≤ d := by omega
        have hd2 : 2 ≤ d := by omega
        have hd3 : 3 ≤ d := by omega
        rw [ez] at hQ
        refine b22_0 ?_
        simp only [↓rF_I, ↓rF_L, ↓rF_R, ↓rF_N, rO_m, rB_m, ↓rI_m, wI_m, ↓rB2_m, ↓rB3_m, wB2_m, wB3_m, ↓rL_m, wL_m, ↓rQ_m, wQ_m, ↓lI_m, pI_m, pL_m, pR_m, sI_m, sBy_m, sBo_m, sL_m, sQ_m, fst_m, true_and, and_true, tg_some, ln_some, uI_1, uI_2, uL_1, uL_2, uL_3, uQ_1, uQ_2, uQ_3, rv_i, rv_l, rv_n, rv_b0, rv_b1, RMR, ne_eq, reduceCtorEq, not_false_eq_true, Option.getD_some, if_true, if_false, and_self, false_and, and_false, Nat.add_left_cancel_iff, Nat.add_eq_left, Nat.left_eq_add, Nat.one_ne_zero, Nat.reduceAdd, Nat.reduceLT, Nat.reduceLeDiff, Nat.reduceEqDiff, true_implies, false_implies, implies_true, Option.some.injEq, forall_eq', forall_eq, reduceCtorEq, brT, brF, br_s, i_10, i_01, ib_0_2, ib_1_2, tn_0, tn_1, Int32.le_refl, eq_self, rv_bN, rv_iM, RCS r, hR', eb, en, ew, l1, on_succ, e2 hd3, ezw]
        refine b22_65 ?_
        simp only [↓rF_I, ↓rF_L, ↓rF_R, ↓rF_N, rO_m, rB_m, ↓rI_m, wI_m, ↓rB2_m, ↓rB3_m, wB2_m, wB3_m, ↓rL_m, wL_m, ↓rQ_m, wQ_m, ↓lI_m, pI_m, pL_m, pR_m, sI_m, sBy_m, sBo_m, sL_m, sQ_m, fst_m, true_and, and_true, tg_some, ln_some, uI_1, uI_2, uL_1, uL_2, uL_3, uQ_1, uQ_2, uQ_3, rv_i, rv_l, rv_n, rv_b0, rv_b1, RMR, ne_eq, reduceCtorEq, not_false_eq_true, Option.getD_some, if_true, if_false, and_self, false_and, and_false, Nat.add_left_cancel_iff, Nat.add_eq_left, Nat.left_eq_add, Nat.one_ne_zero, Nat.reduceAdd, Nat.reduceLT, Nat.reduceLeDiff, Nat.reduceEqDiff, true_implies, false_implies, implies_true, Option.some.injEq, forall_eq', forall_eq, reduceCtorEq, brT, brF, br_s, i_10, i_01, ib_0_2, ib_1_2, tn_0, tn_1, Int32.le_refl, eq_self, rv_bN, rv_iM]
        exact hQ
