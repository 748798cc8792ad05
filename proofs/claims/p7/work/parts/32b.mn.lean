/-- an order ends -/
theorem eo_1 {w : mT} {σ : mS} {r : Nat} {τ ρ : Rw} (hR : isS w r) (hρ : tSt σ r τ ρ) (hb : bRow τ ρ) (hn : 0 < ρ 11) : ∃ σ', frR r (r + 14) σ σ' ∧ tSt σ' r τ (sE1 ρ) ∧ ∀ {D : Nat} {K : Hp → Prop}, 2 ≤ D → (wpV D 67 [.ref r, .int (1 : Int32)] (mW w σ) K ↔ K (mW w σ')) :=
  ⟨_, frR_tr (frR_tr (frR_I (by omega)) (frR_G (by omega))) (frR_I (by omega)), sE1_st hρ hb hn rfl, fun hD => g_67 (m := 1) hR (by omega) (tS_or hρ (by omega : 1 < 2)) ⟨hn, hb.2.2.2.1⟩ hD⟩
theorem eo_0 {w : mT} {σ : mS} {r : Nat} {τ ρ : Rw} (hR : isS w r) (hρ : tSt σ r τ ρ) (hb : bRow τ ρ) (hn : 0 < ρ 10) : ∃ σ', frR r (r + 14) σ σ' ∧ tSt σ' r τ (sE0 ρ) ∧ ∀ {D : Nat} {K : Hp → Prop}, 2 ≤ D → (wpV D 67 [.ref r, .int (0 : Int32)] (mW w σ) K ↔ K (mW w σ')) :=
  ⟨_, frR_tr (frR_tr (frR_I (by omega)) (frR_G (by omega))) (frR_I (by omega)), sE0_st hρ hb hn rfl, fun hD => g_67 (m := 0) hR (by omega) (tS_or hρ (by omega : 0 < 2)) ⟨hn, hb.2.2.1⟩ hD⟩
theorem g_24 {w : mT} {σ : mS} {r t p g : Nat} {τ ρ : Rw} (hR : isS w r) (hT : isT w t) (hρ : tSt σ r τ ρ) (hτ : tTold σ t τ) (hv : vTold τ) (h : vRow τ ρ) (hn : 0 < ρ 11) (hp : p < τ 1) (hg : g < τ (28 + p)) : ∃ σ', frR r (r + 14) σ σ' ∧ tSt σ' r τ (sCut τ ρ p g) ∧ ∀ {D : Nat} {K : Hp → Prop}, 4 ≤ D → (wpV D 24 [.ref t, .ref r, .int (Int32.ofNat p), .int (Int32.ofNat g)] (mW w σ) K ↔ K (mW w σ')) := by
  have hR' := hR
  simp only [isS] at hR'
  have v1 := hv.2.1
  have v2 := (hv.2.2.2.2.2.1 p hp).2
  have v3 := hv.2.2.1
  have hs : ρ 109 < τ 2 := (vR_o1 h 0 hn).2.2
  have o1 := (tS_o1 hρ hn).2.1
  have i49 : (1 : Int32) * 8 * 6 + 1 = Int32.ofNat 49 := by decide
  have eb : inB (Int32.ofNat 49) 96 = true := on_inB (by omega) (by omega)
  have en := on_nat (i := 49) (by omega)
  by_cases z : tkP τ ρ (ρ 109)
  · have ez : iB (tkP τ ρ (ρ 109)) = 1 := iB_t z
    obtain ⟨σ1, f1, t1, e1⟩ := g_63 (c := g) hR hT hρ hτ hv h (by omega : p < 3) (by omega) hs
    have e11 : sMove τ ρ p g (ρ 109) 11 = ρ 11 := sMove_g (by omega) (by omega) (by omega)
    obtain ⟨σ2, f2, t2, e2⟩ := eo_1 hR t1 (vRow_b hv (vRow_move hv h (by omega) (by omega) hs)) (by rw [e11]; exact hn)
    refine ⟨σ2, frR_tr f1 f2, by unfold sCut; rw [if_pos z]; exact t2, fun hD => cV_of (m := 3) (fun d hd Q hQ => ?_) rfl hD⟩
    have hd1 : 1 ≤ d := by omega
    have hd2 : 2 ≤ d := by omega
    have hd3 : 3 ≤ d := by omega
    refine b24_0 ?_
    simp only [↓rF_I, ↓rF_L, ↓rF_R, ↓rF_N, rO_m, rB_m, ↓rI_m, wI_m, ↓rB2_m, ↓rB3_m, wB2_m, wB3_m, ↓rL_m, wL_m, ↓rQ_m, wQ_m, ↓lI_m, pI_m, pL_m, pR_m, sI_m, sBy_m, sBo_m, sL_m, sQ_m, fst_m, true_and, and_true, tg_some, ln_some, uI_1, uI_2, uL_1, uL_2, uL_3, uQ_1, uQ_2, uQ_3, rv_i, rv_l, rv_n, rv_b0, rv_b1, RMR, ne_eq, reduceCtorEq, not_false_eq_true, Option.getD_some, if_true, if_false, and_self, false_and, and_false, Nat.add_left_cancel_iff, Nat.add_eq_left, Nat.left_eq_add, Nat.one_ne_zero, Nat.reduceAdd, Nat.reduceLT, Nat.reduceLeDiff, Nat.reduceEqDiff, true_implies, false_implies, implies_true, Option.some.injEq, forall_eq', forall_eq, reduceCtorEq, brT, brF, br_s, i_10, i_01, ib_0_2, ib_1_2, tn_0, tn_1, Int32.le_refl, eq_self, rv_bN, rv_iM, RCS r, hR', g_65 hd1, i49, eb, en, o1, g_62 hR hT hρ hτ hv h hs hd1, ez, e1 hd3, e2 hd2]
    exact hQ
  · have ez : iB (tkP τ ρ (ρ 109)) = 0 := iB_f z
    obtain ⟨σ2, f2, t2, e2⟩ := eo_1 hR hρ (vRow_b hv h) hn
    refine ⟨σ2, f2, by unfold sCut; rw [if_neg z]; exact t2, fun hD => cV_of (m := 3) (fun d hd Q hQ => ?_) rfl hD⟩
    have hd1 : 1 ≤ d := by omega
    have hd2 : 2 ≤ d := by omega
    have hd3 : 3 ≤ d := by omega
    refine b24_0 ?_
    simp only [↓rF_I, ↓rF_L, ↓rF_R, ↓rF_N, rO_m, rB_m, ↓rI_m, wI_m, ↓rB2_m, ↓rB3_m, wB2_m, wB3_m, ↓rL_m, wL_m, ↓rQ_m, wQ_m, ↓lI_m, pI_m, pL_m, pR_m, sI_m, sBy_m, sBo_m, sL_m, sQ_m, fst_m, true_and, and_true, tg_some, ln_some, uI_1, uI_2, uL_1, uL_2, uL_3, uQ_1, uQ_2, uQ_3, rv_i, rv_l, rv_n, rv_b0, rv_b1, RMR, ne_eq, reduceCtorEq, not_false_eq_true, Option.getD_some, if_true, if_false, and_self, false_and, and_false, Nat.add_left_cancel_iff, Nat.add_eq_left, Nat.left_eq_add, Nat.one_ne_zero, Nat.reduceAdd, Nat.reduceLT, Nat.reduceLeDiff, Nat.reduceEqDiff, true_implies, false_implies, implies_true, Option.some.injEq, forall_eq', forall_eq, reduceCtorEq, brT, brF, br_s, i_10, i_01, ib_0_2, ib_1_2, tn_0, tn_1, Int32.le_refl, eq_self, rv_bN, rv_iM, RCS r, hR', g_65 hd1, i49, eb, en, o1, g_62 hR hT hρ hτ hv h hs hd1, ez, e2 hd2]
    exact hQ
/-- the stacker goes on to the next cell of its order -/
theorem w_153 {w : mT} {σ : mS} {r t p g x : Nat} {τ ρ : Rw} (hR : isS w r) (hT : isT w t) (hd : t + 10 ≤ r ∨ r + 14 ≤ t) (hρ : tSt σ r τ ρ) (hτ : tTold σ t τ) (hv : vTold τ) (h : vRow τ ρ) (hp : p = ρ 51) (hp1 : p < τ 1) (hx : x < τ (28 + p)) : ∃ σ', frR r (r + 14) σ σ' ∧ tSt σ' r τ (sMv τ (rSet ρ 56 x) 0 p x) ∧ ∀ {d : Nat} {l la a7 a8 : Int32} {Q : Option (Option Value) → Hp → Prop}, 3 ≤ d → Q (some none) (mW w σ') → Wp 25 153 [.ref t, .ref r, .int (Int32.ofNat p), .int (Int32.ofNat g), .int ((0 : Int32) * 8 * 6), .int l, .int la, .int a7, .int a8, .int (Int32.ofNat x)] [] (mW w σ) Q d := by
  have hR' := hR
  simp only [isS] at hR'
  have v1 := hv.2.1
  have v2 := (hv.2.2.2.2.2.1 p hp1).2
  have fr1 : frR r (r + 14) σ (uI σ (r + 13) 2 (Int32.ofNat x)) := frR_I (by omega)
  have ts1 : tSt (uI σ (r + 13) 2 (Int32.ofNat x)) r τ (rSet ρ 56 x) := tSt_w hρ (vRow_b hv h) (by unfold in0; omega) (by decide) (tv_0 (by decide)).symm (by omega)
  obtain ⟨σ2, f2, t2, e2⟩ := g_23 (m := 0) (p := p) (c := x) hR hT ts1 (tTold_R hτ fr1 (by omega)) hv (vRow_go0 hv h (by rw [← hp]; exact hx)) (by omega) (by omega) (by omega)
  refine ⟨σ2, frR_tr fr1 f2, t2, fun hd3 hQ => ?_⟩
  have i2 : (0 : Int32) * 8 * 6 + 2 = Int32.ofNat 2 := by decide
  have eb : inB (Int32.ofNat 2) 96 = true := on_inB (by omega) (by omega)
  have en := on_nat (i := 2) (by omega)
  have e2' : ∀ {K : Int32 → Hp → Prop}, wpI _ 23 [.ref t, .ref r, .int (0 : Int32), .int (Int32.ofNat p), .int (Int32.ofNat x)] (mW w (uI σ (r + 13) 2 (Int32.ofNat x))) K ↔ K (iB (frP τ (rSet ρ 56 x) 0 p x)) (mW w σ2) := fun {K} => e2 hd3
  refine b25_153 ?_
  simp only [↓rF_I, ↓rF_L, ↓rF_R, ↓rF_N, rO_m, rB_m, ↓rI_m, wI_m, ↓rB2_m, ↓rB3_m, wB2_m, wB3_m, ↓rL_m, wL_m, ↓rQ_m, wQ_m, ↓lI_m, pI_m, pL_m, pR_m, sI_m, sBy_m, sBo_m, sL_m, sQ_m, fst_m, true_and, and_true, tg_some, ln_some, uI_1, uI_2, uL_1, uL_2, uL_3, uQ_1, uQ_2, uQ_3, rv_i, rv_l, rv_n, rv_b0, rv_b1, RMR, ne_eq, reduceCtorEq, not_false_eq_true, Option.getD_some, if_true, if_false, and_self, false_and, and_false, Nat.add_left_cancel_iff, Nat.add_eq_left, Nat.left_eq_add, Nat.one_ne_zero, Nat.reduceAdd, Nat.reduceLT, Nat.reduceLeDiff, Nat.reduceEqDiff, true_implies, false_implies, implies_true, Option.some.injEq, forall_eq', forall_eq, reduceCtorEq, brT, brF, br_s, i_10, i_01, ib_0_2, ib_1_2, tn_0, tn_1, Int32.le_refl, eq_self, rv_bN, rv_iM, RCS r, hR', i2, eb, en, e2']
  exact hQ
theorem tl_25 {w : mT} {σ : mS} {r t p g : Nat} {τ ρ : Rw} (hR : isS w r) (hT : isT w t) (hd : t + 10 ≤ r ∨ r + 14 ≤ t) (hρ : tSt σ r τ ρ) (hτ : tTold σ t τ) (hv : vTold τ) (h : vRow τ ρ) (hn : 0 < ρ 10) (hp : p = ρ 51) (hg : g < τ (28 + p)) : ∃ σ', frR r (r + 14) σ σ' ∧ tSt σ' r τ (sAft τ ρ p g) ∧
    ((g = ρ 54 ∧ ∀ {D : Nat} {K : Hp → Prop}, 2 ≤ D → (wpV D 67 [.ref r, .int (0 : Int32)] (mW w σ) K ↔ K (mW w σ'))) ∨
     (g < ρ 54 ∧ ∀ {d : Nat} {l la a7 a8 : Int32} {Q : Option (Option Value) → Hp → Prop}, 3 ≤ d → Q (some none) (mW w σ') → Wp 25 153 [.ref t, .ref r, .int (Int32.ofNat p), .int (Int32.ofNat g), .int ((0 : Int32) * 8 * 6), .int l, .int la, .int a7, .int a8, .int (Int32.ofNat (g + 1))] [] (mW w σ) Q d) ∨
     (ρ 54 < g ∧ ∀ {d : Nat} {l la a7 a8 : Int32} {Q : Option (Option Value) → Hp → Prop}, 3 ≤ d → Q (some none) (mW w σ') → Wp 25 153 [.ref t, .ref r, .int (Int32.ofNat p), .int (Int32.ofNat g), .int ((0 : Int32) * 8 * 6), .int l, .int la, .int a7, .int a8, .int (Int32.ofNat (g - 1))] [] (mW w σ) Q d)) := by
  have o := vR_o0 h 0 hn
  have o0 : ρ 51 < τ 1 := o.1
  have o2 : ρ 54 < τ (28 + ρ 51) := o.2.2.1
  rw [← hp] at o0 o2
  by_cases e : g = ρ 54
  · obtain ⟨σ2, f2, t2, e2⟩ := eo_0 hR hρ (vRow_b hv h) hn
    exact ⟨σ2, f2, by unfold sAft; rw [if_pos e]; exact t2, Or.inl ⟨e, e2⟩⟩
  · by_cases l : g < ρ 54
    · have en : nx g (ρ 54) = g + 1 := if_pos l
      obtain ⟨σ2, f2, t2, e2⟩ := w_153 (g := g) (x := g + 1) hR hT hd hρ hτ hv h hp o0 (by omega)
      exact ⟨σ2, f2, by unfold sAft; rw [if_neg e, en]; exact t2, Or.inr (Or.inl ⟨l, e2⟩)⟩
    · have en : nx g (ρ 54) = g - 1 := if_neg l
      obtain ⟨σ2, f2, t2, e2⟩ := w_153 (g := g) (x := g - 1) hR hT hd hρ hτ hv h hp o0 (by omega)
      exact ⟨σ2, f2, by unfold sAft; rw [if_neg e, en]; exact t2, Or.inr (Or.inr ⟨by omega, e2⟩)⟩
theorem min_of {a b : Nat} (ha : a < 2147483648) (hb : b < 2147483648) : (if Int32.ofNat a < Int32.ofNat b then Int32.ofNat a else Int32.ofNat b) = Int32.ofNat (min b a) := by
  by_cases h : a < b
  · rw [if_pos ((on_lt ha hb).mpr h)]; congr 1; omega
  · rw [if_neg (fun q => h ((on_lt ha hb).mp q))]; congr 1; omega
