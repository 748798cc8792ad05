/-! the class's calls: layer, grades -/
def lyB (ρ : Rw) (p k : Nat) : Nat → Int32
  | 0 => 0
  | c + 1 => lyB ρ p k c ||| (if 0 < ρ (li p k c) then (1 : Int32) <<< (Int32.ofNat c &&& 31) else 0)
theorem lies_lt {τ ρ : Rw} {p k c : Nat} (hr : vRow τ ρ) (hp : p < 3) (hk : k < ρ (24 + p)) (hc : c < 12) : ρ (li p k c) ≤ 119988 := by
  have a := tOn_lt hr hp hc
  have b := sm_one (f := fun k => ρ (li p k c)) hk
  unfold tOn at a
  omega
theorem lp_82 {w : mT} {σ : mS} {P p k a d : Nat} {τ ρ : Rw} {Q : Option (Option Value) → Hp → Prop} (hw : lit w) (hP : P = 15 ∨ P = 25) (p3 : σ.2.2 0 3 = some P) (hτ : tTold σ P τ) (hv : vTold τ) (hρ : tSt σ 35 τ ρ) (hr : vRow τ ρ) (hp : p < τ 1) (hk : k < ρ (24 + p)) (hd : 1 ≤ d) (ha : a = 1 ∨ a = 2) (hQ : Q (some (some (.int (if a = 1 then Int32.ofNat (sm (τ (28 + p)) (fun c => ρ (li p k c))) else lyB ρ p k (τ (28 + p)))))) (mW w σ)) : ∀ (r c : Nat) (a7 : Int32), c + r = τ (28 + p) → Wp 82 48 [.ref 0, .int (Int32.ofNat p), .int (Int32.ofNat k), .int (Int32.ofNat a), .int (Int32.ofNat (sm c (fun c => ρ (li p k c)))), .int (lyB ρ p k c), .int (Int32.ofNat c), .int a7] [] (mW w σ) Q d := by
  have hT' := isTP hw hP
  simp only [isT] at hT'
  have v1 := hv.2.1
  have v2 := (hv.2.2.2.2.2.1 p hp).2
  have h60 := vR_la hr p (by omega)
  have eb : inB (Int32.ofNat p) 3 = true := on_inB (by omega) (by omega)
  have en := on_nat (i := p) (by omega)
  have e1 := hτ.2.2.2.2.2.1 p hp
  intro r
  induction r with
  | zero =>
    intro c a7 hc
    have hc' : c = τ (28 + p) := by omega
    subst hc'
    refine b82_48a ?_
    rcases ha with rfl | rfl
    · have c1 : (Int32.ofNat 1 = (1 : Int32)) ↔ True := by decide
      rw [if_pos rfl] at hQ
      simp only [↓br_pos, ↓br_neg, ↓rF_I, ↓rF_L, ↓rF_R, ↓rF_N, rO_m, rB_m, ↓rI_m, wI_m, ↓rB2_m, ↓rB3_m, wB2_m, wB3_m, ↓rL_m, wL_m, ↓rQ_m, wQ_m, ↓lI_m, pI_m, pL_m, pR_m, sI_m, sBy_m, sBo_m, sL_m, sQ_m, fst_m, true_and, and_true, tg_some, ln_some, uI_1, uI_2, uL_1, uL_2, uL_3, uQ_1, uQ_2, uQ_3, rv_i, rv_l, rv_n, rv_b0, rv_b1, RMR, ne_eq, reduceCtorEq, not_false_eq_true, Option.getD_some, if_true, if_false, and_self, false_and, and_false, Nat.add_left_cancel_iff, Nat.add_eq_left, Nat.left_eq_add, Nat.one_ne_zero, Nat.reduceAdd, Nat.reduceLT, Nat.reduceLeDiff, Nat.reduceEqDiff, true_implies, false_implies, implies_true, Option.some.injEq, forall_eq', forall_eq, reduceCtorEq, brT, brF, br_s, i_10, i_01, ib_0_2, ib_1_2, tn_0, tn_1, Int32.le_refl, eq_self, rv_bN, rv_iM, RCX 0, RCG 2, RCT 4, RCT 15, RCT 25, RCS 35, RCS 49, RCH 63, RCP 67, RCB 72, RCR 77, RCM 81, RLY, lit_at hw, RCT P, hT', p3, eb, en, e1, Int32.le_refl, c1]
      exact hQ
    · have c1 : (Int32.ofNat 2 = (1 : Int32)) ↔ False := by decide
      rw [if_neg (by omega)] at hQ
      simp only [↓br_pos, ↓br_neg, ↓rF_I, ↓rF_L, ↓rF_R, ↓rF_N, rO_m, rB_m, ↓rI_m, wI_m, ↓rB2_m, ↓rB3_m, wB2_m, wB3_m, ↓rL_m, wL_m, ↓rQ_m, wQ_m, ↓lI_m, pI_m, pL_m, pR_m, sI_m, sBy_m, sBo_m, sL_m, sQ_m, fst_m, true_and, and_true, tg_some, ln_some, uI_1, uI_2, uL_1, uL_2, uL_3, uQ_1, uQ_2, uQ_3, rv_i, rv_l, rv_n, rv_b0, rv_b1, RMR, ne_eq, reduceCtorEq, not_false_eq_true, Option.getD_some, if_true, if_false, and_self, false_and, and_false, Nat.add_left_cancel_iff, Nat.add_eq_left, Nat.left_eq_add, Nat.one_ne_zero, Nat.reduceAdd, Nat.reduceLT, Nat.reduceLeDiff, Nat.reduceEqDiff, true_implies, false_implies, implies_true, Option.some.injEq, forall_eq', forall_eq, reduceCtorEq, brT, brF, br_s, i_10, i_01, ib_0_2, ib_1_2, tn_0, tn_1, Int32.le_refl, eq_self, rv_bN, rv_iM, RCX 0, RCG 2, RCT 4, RCT 15, RCT 25, RCS 35, RCS 49, RCH 63, RCP 67, RCB 72, RCR 77, RCM 81, RLY, lit_at hw, RCT P, hT', p3, eb, en, e1, Int32.le_refl, c1]
      exact hQ
  | succ r ih =>
    intro c a7 hc
    have l1 : (Int32.ofNat (τ (28 + p)) ≤ Int32.ofNat c) ↔ False := iff_false_intro (fun q => absurd ((on_le (by omega) (by omega)).mp q) (by omega))
    have e2 : σ.1 39 ((p * 60 + k) * 12 + c) = Int32.ofNat (ρ (li p k c)) := tS_li hρ (by omega) hk (by omega)
    have eb2 : inB (Int32.ofNat ((p * 60 + k) * 12 + c)) 2160 = true := on_inB (by omega) (by omega)
    have en2 := on_nat (i := (p * 60 + k) * 12 + c) (by omega)
    have lt := lies_lt hr (by omega : p < 3) hk (by omega : c < 12)
    have c0 := of_le0 (a := ρ (li p k c)) (by omega)
    have es : sm (c + 1) (fun c => ρ (li p k c)) = sm c (fun c => ρ (li p k c)) + ρ (li p k c) := rfl
    have eB : lyB ρ p k (c + 1) = lyB ρ p k c ||| (if 0 < ρ (li p k c) then (1 : Int32) <<< (Int32.ofNat c &&& 31) else 0) := rfl
    have nx := ih (c + 1) (Int32.ofNat (ρ (li p k c))) (by omega)
    rw [es, eB] at nx
    refine b82_48a ?_
    by_cases z : ρ (li p k c) = 0
    · have c0' := iff_true_intro (c0.mpr z)
      rw [if_neg (by omega)] at nx
      simp only [↓br_pos, ↓br_neg, ↓rF_I, ↓rF_L, ↓rF_R, ↓rF_N, rO_m, rB_m, ↓rI_m, wI_m, ↓rB2_m, ↓rB3_m, wB2_m, wB3_m, ↓rL_m, wL_m, ↓rQ_m, wQ_m, ↓lI_m, pI_m, pL_m, pR_m, sI_m, sBy_m, sBo_m, sL_m, sQ_m, fst_m, true_and, and_true, tg_some, ln_some, uI_1, uI_2, uL_1, uL_2, uL_3, uQ_1, uQ_2, uQ_3, rv_i, rv_l, rv_n, rv_b0, rv_b1, RMR, ne_eq, reduceCtorEq, not_false_eq_true, Option.getD_some, if_true, if_false, and_self, false_and, and_false, Nat.add_left_cancel_iff, Nat.add_eq_left, Nat.left_eq_add, Nat.one_ne_zero, Nat.reduceAdd, Nat.reduceLT, Nat.reduceLeDiff, Nat.reduceEqDiff, true_implies, false_implies, implies_true, Option.some.injEq, forall_eq', forall_eq, reduceCtorEq, brT, brF, br_s, i_10, i_01, ib_0_2, ib_1_2, tn_0, tn_1, Int32.le_refl, eq_self, rv_bN, rv_iM, RCX 0, RCG 2, RCT 4, RCT 15, RCT 25, RCS 35, RCS 49, RCH 63, RCP 67, RCB 72, RCR 77, RCM 81, RLY, lit_at hw, RCT P, hT', p3, eb, en, e1, l1, g_51 hd, pl_of, eb2, en2, e2, c0', of_add]
      refine b82_104 ?_
      rw [on_succ]
      exact nx
    · have c0' := iff_false_intro (fun q => z (c0.mp q))
      rw [if_pos (by omega)] at nx
      simp only [↓br_pos, ↓br_neg, ↓rF_I, ↓rF_L, ↓rF_R, ↓rF_N, rO_m, rB_m, ↓rI_m, wI_m, ↓rB2_m, ↓rB3_m, wB2_m, wB3_m, ↓rL_m, wL_m, ↓rQ_m, wQ_m, ↓lI_m, pI_m, pL_m, pR_m, sI_m, sBy_m, sBo_m, sL_m, sQ_m, fst_m, true_and, and_true, tg_some, ln_some, uI_1, uI_2, uL_1, uL_2, uL_3, uQ_1, uQ_2, uQ_3, rv_i, rv_l, rv_n, rv_b0, rv_b1, RMR, ne_eq, reduceCtorEq, not_false_eq_true, Option.getD_some, if_true, if_false, and_self, false_and, and_false, Nat.add_left_cancel_iff, Nat.add_eq_left, Nat.left_eq_add, Nat.one_ne_zero, Nat.reduceAdd, Nat.reduceLT, Nat.reduceLeDiff, Nat.reduceEqDiff, true_implies, false_implies, implies_true, Option.some.injEq, forall_eq', forall_eq, reduceCtorEq, brT, brF, br_s, i_10, i_01, ib_0_2, ib_1_2, tn_0, tn_1, Int32.le_refl, eq_self, rv_bN, rv_iM, RCX 0, RCG 2, RCT 4, RCT 15, RCT 25, RCS 35, RCS 49, RCH 63, RCP 67, RCB 72, RCR 77, RCM 81, RLY, lit_at hw, RCT P, hT', p3, eb, en, e1, l1, g_51 hd, pl_of, eb2, en2, e2, c0', of_add]
      refine b82_104 ?_
      rw [on_succ]
      exact nx
def layerV (τ ρ : Rw) (p k a : Nat) : Int32 := if a = 0 then Int32.ofNat (ρ (lo p k)) else if a = 1 then Int32.ofNat (sm (τ (28 + p)) (fun c => ρ (li p k c))) else lyB ρ p k (τ (28 + p))
theorem c_82z {w : mT} {σ : mS} {tp n : Nat} {t : Nat → Nat} {τ ρ : Rw} {bk : Nat → Rw} {has : Nat → Bool} {im : Nat → Rw} {p k a : Int32} {D : Nat} {K : Int32 → Hp → Prop} (h : cIn w σ tp t τ ρ n bk has im) (hn : ¬ (laP τ ρ p k ∧ 0 ≤ a.toInt ∧ a.toInt ≤ 2)) (hD : 3 ≤ D) : wpI D 82 [.ref 0, .int p, .int k, .int a] (mW w σ) K ↔ K (-2) (mW w σ) := by
  have h' := h
  obtain ⟨hw, hS, hH, ⟨P, hP, p3, p4, hτ⟩, hρ, hv, hr, h1, htp, htb, ht⟩ := h
  have hT := isTP hw hP
  have hT' := hT
  simp only [isT] at hT'
  refine cI_of (m := 2) (fun d hd Q hQ => ?_) rfl hD
  refine b82_0 ?_
  by_cases z : laP τ ρ p k
  · have ez : iB (laP τ ρ p k) = 1 := iB_t z
    by_cases y : a < 0
    · simp only [↓br_pos, ↓br_neg, ↓rF_I, ↓rF_L, ↓rF_R, ↓rF_N, rO_m, rB_m, ↓rI_m, wI_m, ↓rB2_m, ↓rB3_m, wB2_m, wB3_m, ↓rL_m, wL_m, ↓rQ_m, wQ_m, ↓lI_m, pI_m, pL_m, pR_m, sI_m, sBy_m, sBo_m, sL_m, sQ_m, fst_m, true_and, and_true, tg_some, ln_some, uI_1, uI_2, uL_1, uL_2, uL_3, uQ_1, uQ_2, uQ_3, rv_i, rv_l, rv_n, rv_b0, rv_b1, RMR, ne_eq, reduceCtorEq, not_false_eq_true, Option.getD_some, if_true, if_false, and_self, false_and, and_false, Nat.add_left_cancel_iff, Nat.add_eq_left, Nat.left_eq_add, Nat.one_ne_zero, Nat.reduceAdd, Nat.reduceLT, Nat.reduceLeDiff, Nat.reduceEqDiff, true_implies, false_implies, implies_true, Option.some.injEq, forall_eq', forall_eq, reduceCtorEq, brT, brF, br_s, i_10, i_01, ib_0_2, ib_1_2, tn_0, tn_1, Int32.le_refl, eq_self, rv_bN, rv_iM, RCX 0, RCG 2, RCT 4, RCT 15, RCT 25, RCS 35, RCS 49, RCH 63, RCP 67, RCB 72, RCR 77, RCM 81, RLY, lit_at hw, RCT P, hT', p3, g_120 hw hP p3 hτ hv hρ hr hd, ez, y]
      exact hQ
    · have x : ¬ a ≤ 2 := by
        intro q
        rw [i_lt, show (0 : Int32).toInt = 0 by decide] at y
        rw [i_le, show (2 : Int32).toInt = 2 by decide] at q
        exact hn ⟨z, by omega, by omega⟩
      simp only [↓br_pos, ↓br_neg, ↓rF_I, ↓rF_L, ↓rF_R, ↓rF_N, rO_m, rB_m, ↓rI_m, wI_m, ↓rB2_m, ↓rB3_m, wB2_m, wB3_m, ↓rL_m, wL_m, ↓rQ_m, wQ_m, ↓lI_m, pI_m, pL_m, pR_m, sI_m, sBy_m, sBo_m, sL_m, sQ_m, fst_m, true_and, and_true, tg_some, ln_some, uI_1, uI_2, uL_1, uL_2, uL_3, uQ_1, uQ_2, uQ_3, rv_i, rv_l, rv_n, rv_b0, rv_b1, RMR, ne_eq, reduceCtorEq, not_false_eq_true, Option.getD_some, if_true, if_false, and_self, false_and, and_false, Nat.add_left_cancel_iff, Nat.add_eq_left, Nat.left_eq_add, Nat.one_ne_zero, Nat.reduceAdd, Nat.reduceLT, Nat.reduceLeDiff, Nat.reduceEqDiff, true_implies, false_implies, implies_true, Option.some.injEq, forall_eq', forall_eq, reduceCtorEq, brT, brF, br_s, i_10, i_01, ib_0_2, ib_1_2, tn_0, tn_1, Int32.le_refl, eq_self, rv_bN, rv_iM, RCX 0, RCG 2, RCT 4, RCT 15, RCT 25, RCS 35, RCS 49, RCH 63, RCP 67, RCB 72, RCR 77, RCM 81, RLY, lit_at hw, RCT P, hT', p3, g_120 hw hP p3 hτ hv hρ hr hd, ez, y, x]
      exact hQ
  · have ez : iB (laP τ ρ p k) = 0 := iB_f z
    simp only [↓br_pos, ↓br_neg, ↓rF_I, ↓rF_L, ↓rF_R, ↓rF_N, rO_m, rB_m, ↓rI_m, wI_m, ↓rB2_m, ↓rB3_m, wB2_m, wB3_m, ↓rL_m, wL_m, ↓rQ_m, wQ_m, ↓lI_m, pI_m, pL_m, pR_m, sI_m, sBy_m, sBo_m, sL_m, sQ_m, fst_m, true_and, and_true, tg_some, ln_some, uI_1, uI_2, uL_1, uL_2, uL_3, uQ_1, uQ_2, uQ_3, rv_i, rv_l, rv_n, rv_b0, rv_b1, RMR, ne_eq, reduceCtorEq, not_false_eq_true, Option.getD_some, if_true, if_false, and_self, false_and, and_false, Nat.add_left_cancel_iff, Nat.add_eq_left, Nat.left_eq_add, Nat.one_ne_zero, Nat.reduceAdd, Nat.reduceLT, Nat.reduceLeDiff, Nat.reduceEqDiff, true_implies, false_implies, implies_true, Option.some.injEq, forall_eq', forall_eq, reduceCtorEq, brT, brF, br_s, i_10, i_01, ib_0_2, ib_1_2, tn_0, tn_1, Int32.le_refl, eq_self, rv_bN, rv_iM, RCX 0, RCG 2, RCT 4, RCT 15, RCT 25, RCS 35, RCS 49, RCH 63, RCP 67, RCB 72, RCR 77, RCM 81, RLY, lit_at hw, RCT P, hT', p3, g_120 hw hP p3 hτ hv hρ hr hd, ez]
    exact hQ
theorem c_82 {w : mT} {σ : mS} {tp n : Nat} {t : Nat → Nat} {τ ρ : Rw} {bk : Nat → Rw} {has : Nat → Bool} {im : Nat → Rw} {p k a : Nat} {D : Nat} {K : Int32 → Hp → Prop} (h : cIn w σ tp t τ ρ n bk has im) (hp : p < τ 1) (hk : k < ρ (24 + p)) (ha : a ≤ 2) (hD : 3 ≤ D) : wpI D 82 [.ref 0, .int (Int32.ofNat p), .int (Int32.ofNat k), .int (Int32.ofNat a)] (mW w σ) K ↔ K (layerV τ ρ p k a) (mW w σ) := by
  have h' := h
  obtain ⟨hw, hS, hH, ⟨P, hP, p3, p4, hτ⟩, hρ, hv, hr, h1, htp, htb, ht⟩ := h
  have hT := isTP hw hP
  have hT' := hT
  simp only [isT] at hT'
  refine cI_of (m := 2) (fun d hd Q hQ => ?_) rfl hD
  have hd1 : 1 ≤ d := by omega
  have v1 := hv.2.1
  have v2 := (hv.2.2.2.2.2.1 p hp).2
  have h60 := vR_la hr p (by omega)
  have ez : iB (laP τ ρ (Int32.ofNat p) (Int32.ofNat k)) = 1 := iB_t (laP_of hv hr hp hk)
  have e3 : σ.1 38 (p * 60 + k) = Int32.ofNat (ρ (lo p k)) := tS_lo hρ (by omega) hk
  have eb3 : inB (Int32.ofNat (p * 60 + k)) 180 = true := on_inB (by omega) (by omega)
  have en3 := on_nat (i := p * 60 + k) (by omega)
  have a0 := of_lt0 (a := a) (by omega)
  have a2 : (Int32.ofNat a ≤ (2 : Int32)) ↔ True := iff_true_intro ((on_le (j := 2) (by omega) (by omega)).mpr ha)
  refine b82_0 ?_
  by_cases c : a = 0
  · subst c
    have c0 : (Int32.ofNat 0 = (0 : Int32)) ↔ True := by decide
    simp only [↓br_pos, ↓br_neg, ↓rF_I, ↓rF_L, ↓rF_R, ↓rF_N, rO_m, rB_m, ↓rI_m, wI_m, ↓rB2_m, ↓rB3_m, wB2_m, wB3_m, ↓rL_m, wL_m, ↓rQ_m, wQ_m, ↓lI_m, pI_m, pL_m, pR_m, sI_m, sBy_m, sBo_m, sL_m, sQ_m, fst_m, true_and, and_true, tg_some, ln_some, uI_1, uI_2, uL_1, uL_2, uL_3, uQ_1, uQ_2, uQ_3, rv_i, rv_l, rv_n, rv_b0, rv_b1, RMR, ne_eq, reduceCtorEq, not_false_eq_true, Option.getD_some, if_true, if_false, and_self, false_and, and_false, Nat.add_left_cancel_iff, Nat.add_eq_left, Nat.left_eq_add, Nat.one_ne_zero, Nat.reduceAdd, Nat.reduceLT, Nat.reduceLeDiff, Nat.reduceEqDiff, true_implies, false_implies, implies_true, Option.some.injEq, forall_eq', forall_eq, reduceCtorEq, brT, brF, br_s, i_10, i_01, ib_0_2, ib_1_2, tn_0, tn_1, Int32.le_refl, eq_self, rv_bN, rv_iM, RCX 0, RCG 2, RCT 4, RCT 15, RCT 25, RCS 35, RCS 49, RCH 63, RCP 67, RCB 72, RCR 77, RCM 81, RLY, lit_at hw, RCT P, hT', p3, g_120 hw hP p3 hτ hv hρ hr hd, ez, a0, a2, c0, g_50 hd1, ro_of, eb3, en3, e3]
    exact hQ
  · have c0 : (Int32.ofNat a = (0 : Int32)) ↔ False := iff_false_intro (fun q => c ((of_eq0 (by omega)).mp q))
    have ev : layerV τ ρ p k a = if a = 1 then Int32.ofNat (sm (τ (28 + p)) (fun c => ρ (li p k c))) else lyB ρ p k (τ (28 + p)) := if_neg c
    rw [ev] at hQ
    simp only [↓br_pos, ↓br_neg, ↓rF_I, ↓rF_L, ↓rF_R, ↓rF_N, rO_m, rB_m, ↓rI_m, wI_m, ↓rB2_m, ↓rB3_m, wB2_m, wB3_m, ↓rL_m, wL_m, ↓rQ_m, wQ_m, ↓lI_m, pI_m, pL_m, pR_m, sI_m, sBy_m, sBo_m, sL_m, sQ_m, fst_m, true_and, and_true, tg_some, ln_some, uI_1, uI_2, uL_1, uL_2, uL_3, uQ_1, uQ_2, uQ_3, rv_i, rv_l, rv_n, rv_b0, rv_b1, RMR, ne_eq, reduceCtorEq, not_false_eq_true, Option.getD_some, if_true, if_false, and_self, false_and, and_false, Nat.add_left_cancel_iff, Nat.add_eq_left, Nat.left_eq_add, Nat.one_ne_zero, Nat.reduceAdd, Nat.reduceLT, Nat.reduceLeDiff, Nat.reduceEqDiff, true_implies, false_implies, implies_true, Option.some.injEq, forall_eq', forall_eq, reduceCtorEq, brT, brF, br_s, i_10, i_01, ib_0_2, ib_1_2, tn_0, tn_1, Int32.le_refl, eq_self, rv_bN, rv_iM, RCX 0, RCG 2, RCT 4, RCT 15, RCT 25, RCS 35, RCS 49, RCH 63, RCP 67, RCB 72, RCR 77, RCM 81, RLY, lit_at hw, RCT P, hT', p3, g_120 hw hP p3 hτ hv hρ hr hd, ez, a0, a2, c0]
    have L := lp_82 (d := d) hw hP p3 hτ hv hρ hr hp hk hd1 (by omega : a = 1 ∨ a = 2) hQ
    -- the first turn has no row of the loop's own yet
    have eb : inB (Int32.ofNat p) 3 = true := on_inB (by omega) (by omega)
    have en := on_nat (i := p) (by omega)
    have e1 := hτ.2.2.2.2.2.1 p hp
    have c2 := (hv.2.2.2.2.2.1 p hp).1
    have l1 : (Int32.ofNat (τ (28 + p)) ≤ (0 : Int32)) ↔ False := iff_false_intro (fun q => absurd ((of_le0 (by omega)).mp q) (by omega))
    have e2 : σ.1 39 ((p * 60 + k) * 12 + 0) = Int32.ofNat (ρ (li p k 0)) := tS_li hρ (by omega) hk (by omega)
    have eb2 : inB (Int32.ofNat ((p * 60 + k) * 12 + 0)) 2160 = true := on_inB (by omega) (by omega)
    have en2 := on_nat (i := (p * 60 + k) * 12 + 0) (by omega)
    have pl0 : (Int32.ofNat p * 60 + Int32.ofNat k) * 12 + 0 = Int32.ofNat ((p * 60 + k) * 12 + 0) := pl_of (c := 0)
    have lt := lies_lt hr (by omega : p < 3) hk (by omega : 0 < 12)
    have cc := of_le0 (a := ρ (li p k 0)) (by omega)
    have nx := L (τ (28 + p) - 1) 1 (Int32.ofNat (ρ (li p k 0))) (by omega)
    have es : sm 1 (fun c => ρ (li p k c)) = 0 + ρ (li p k 0) := rfl
    have eB : lyB ρ p k 1 = 0 ||| (if 0 < ρ (li p k 0) then (1 : Int32) <<< (Int32.ofNat 0 &&& 31) else 0) := rfl
    rw [es, eB] at nx
    have z0 : (0 : Int32) + Int32.ofNat (ρ (li p k 0)) = Int32.ofNat (0 + ρ (li p k 0)) := of_add (a := 0)
    refine b82_48 ?_
    by_cases z : ρ (li p k 0) = 0
    · have c0' := iff_true_intro (cc.mpr z)
      rw [if_neg (by omega)] at nx
      simp only [↓br_pos, ↓br_neg, ↓rF_I, ↓rF_L, ↓rF_R, ↓rF_N, rO_m, rB_m, ↓rI_m, wI_m, ↓rB2_m, ↓rB3_m, wB2_m, wB3_m, ↓rL_m, wL_m, ↓rQ_m, wQ_m, ↓lI_m, pI_m, pL_m, pR_m, sI_m, sBy_m, sBo_m, sL_m, sQ_m, fst_m, true_and, and_true, tg_some, ln_some, uI_1, uI_2, uL_1, uL_2, uL_3, uQ_1, uQ_2, uQ_3, rv_i, rv_l, rv_n, rv_b0, rv_b1, RMR, ne_eq, reduceCtorEq, not_false_eq_true, Option.getD_some, if_true, if_false, and_self, false_and, and_false, Nat.add_left_cancel_iff, Nat.add_eq_left, Nat.left_eq_add, Nat.one_ne_zero, Nat.reduceAdd, Nat.reduceLT, Nat.reduceLeDiff, Nat.reduceEqDiff, true_implies, false_implies, implies_true, Option.some.injEq, forall_eq', forall_eq, reduceCtorEq, brT, brF, br_s, i_10, i_01, ib_0_2, ib_1_2, tn_0, tn_1, Int32.le_refl, eq_self, rv_bN, rv_iM, RCX 0, RCG 2, RCT 4, RCT 15, RCT 25, RCS 35, RCS 49, RCH 63, RCP 67, RCB 72, RCR 77, RCM 81, RLY, lit_at hw, RCT P, hT', p3, eb, en, e1, l1, g_51 hd1, pl0, eb2, en2, e2, c0', z0]
      exact b82_104 nx
    · have c0' := iff_false_intro (fun q => z (cc.mp q))
      rw [if_pos (by omega)] at nx
      simp only [↓br_pos, ↓br_neg, ↓rF_I, ↓rF_L, ↓rF_R, ↓rF_N, rO_m, rB_m, ↓rI_m, wI_m, ↓rB2_m, ↓rB3_m, wB2_m, wB3_m, ↓rL_m, wL_m, ↓rQ_m, wQ_m, ↓lI_m, pI_m, pL_m, pR_m, sI_m, sBy_m, sBo_m, sL_m, sQ_m, fst_m, true_and, and_true, tg_some, ln_some, uI_1, uI_2, uL_1, uL_2, uL_3, uQ_1, uQ_2, uQ_3, rv_i, rv_l, rv_n, rv_b0, rv_b1, RMR, ne_eq, reduceCtorEq, not_false_eq_true, Option.getD_some, if_true, if_false, and_self, false_and, and_false, Nat.add_left_cancel_iff, Nat.add_eq_left, Nat.left_eq_add, Nat.one_ne_zero, Nat.reduceAdd, Nat.reduceLT, Nat.reduceLeDiff, Nat.reduceEqDiff, true_implies, false_implies, implies_true, Option.some.injEq, forall_eq', forall_eq, reduceCtorEq, brT, brF, br_s, i_10, i_01, ib_0_2, ib_1_2, tn_0, tn_1, Int32.le_refl, eq_self, rv_bN, rv_iM, RCX 0, RCG 2, RCT 4, RCT 15, RCT 25, RCS 35, RCS 49, RCH 63, RCP 67, RCB 72, RCR 77, RCM 81, RLY, lit_at hw, RCT P, hT', p3, eb, en, e1, l1, g_51 hd1, pl0, eb2, en2, e2, c0', z0]
      exact b82_104 nx
/-- grades -/
def grV (T O : Nat) : Int32 := if T = 0 then -2 else Int32.ofNat (O / gc1 O T)
def gU (σ : mS) (T O : Nat) : mS := if T = 0 then σ else uI σ 0 11 (Int32.ofNat (T / gc1 O T))
theorem g_126' {w : mT} {σ : mS} {T O D : Nat} {K : Int32 → Hp → Prop} (hw : lit w) (hT2 : T < 2147483648) (hO : O < 2147483648) (hD : 2 ≤ D) : wpI D 126 [.ref 0, .int (Int32.ofNat T), .int (Int32.ofNat O)] (mW w σ) K ↔ K (grV T O) (mW w (gU σ T O)) := by
  by_cases z : T = 0
  · have e1 : grV T O = -2 := if_pos z
    have e2 : gU σ T O = σ := if_pos z
    rw [e1, e2, z]
    exact g_126z hD
  · have e1 : grV T O = Int32.ofNat (O / gc1 O T) := if_neg z
    have e2 : gU σ T O = uI σ 0 11 (Int32.ofNat (T / gc1 O T)) := if_neg z
    rw [e1, e2]
    exact g_126 hw z hT2 hO hD
theorem cIn_gU {w : mT} {σ : mS} {tp n : Nat} {t : Nat → Nat} {τ ρ : Rw} {bk : Nat → Rw} {has : Nat → Bool} {im : Nat → Rw} {T O : Nat} (h : cIn w σ tp t τ ρ n bk has im) : cIn w (gU σ T O) tp t τ ρ n bk has im ∧ frM σ (gU σ T O) := by
  unfold gU
  split
  · exact ⟨h, frM_rf⟩
  · refine ⟨cIn_fr h (fun j hj => by rw [uI_1, if_neg (fun q => hj q.2)]) (fun a ha => (uI_ne (by omega)).1) (fun a ha => rfl), frM_I (by omega)⟩
theorem tPi_lt {τ ρ : Rw} {p : Nat} (hv : vTold τ) (hr : vRow τ ρ) (hp : p < τ 1) : tPi τ ρ p ≤ 119988 := by
  have v1 := hv.2.1
  have v2 := (hv.2.2.2.2.2.1 p hp).2
  have a := vR_all hr
  have b := sm_one (f := fun p => sm 12 (fun c => tOn ρ p c)) (by omega : p < 3)
  have c := sm_mono (f := tOn ρ p) v2
  unfold allT at a
  unfold tPi
  have e : sm 12 (tOn ρ p) = sm 12 (fun c => tOn ρ p c) := rfl
  omega
theorem gPi_le {τ ρ : Rw} {p : Nat} (hv : vTold τ) (hr : vRow τ ρ) (hp : p < τ 1) : gPi τ ρ p ≤ 999 * tPi τ ρ p := by
  have v1 := hv.2.1
  unfold gPi tPi
  rw [← sm_mul]
  exact sm_le (fun c _ => gOn_le hv hr (by omega))
theorem c_100z {w : mT} {σ : mS} {tp n : Nat} {t : Nat → Nat} {τ ρ : Rw} {bk : Nat → Rw} {has : Nat → Bool} {im : Nat → Rw} {p c : Int32} {D : Nat} {K : Int32 → Hp → Prop} (h : cIn w σ tp t τ ρ n bk has im) (hn : bC τ p c ≠ 1) (hD : 4 ≤ D) : wpI D 100 [.ref 0, .int p, .int c] (mW w σ) K ↔ K (-1) (mW w σ) := by
  have h' := h
  obtain ⟨hw, hS, hH, ⟨P, hP, p3, p4, hτ⟩, hρ, hv, hr, h1, htp, htb, ht⟩ := h
  have hT := isTP hw hP
  have hT' := hT
  simp only [isT] at hT'
  refine cI_of (m := 3) (fun d hd Q hQ => ?_) rfl hD
  have hd2 : 2 ≤ d := by omega
  have z' : bC τ p c = 0 := bC_01.resolve_right hn
  refine b100_0 ?_
  simp only [↓br_pos, ↓br_neg, ↓rF_I, ↓rF_L, ↓rF_R, ↓rF_N, rO_m, rB_m, ↓rI_m, wI_m, ↓rB2_m, ↓rB3_m, wB2_m, wB3_m, ↓rL_m, wL_m, ↓rQ_m, wQ_m, ↓lI_m, pI_m, pL_m, pR_m, sI_m, sBy_m, sBo_m, sL_m, sQ_m, fst_m, true_and, and_true, tg_some, ln_some, uI_1, uI_2, uL_1, uL_2, uL_3, uQ_1, uQ_2, uQ_3, rv_i, rv_l, rv_n, rv_b0, rv_b1, RMR, ne_eq, reduceCtorEq, not_false_eq_true, Option.getD_some, if_true, if_false, and_self, false_and, and_false, Nat.add_left_cancel_iff, Nat.add_eq_left, Nat.left_eq_add, Nat.one_ne_zero, Nat.reduceAdd, Nat.reduceLT, Nat.reduceLeDiff, Nat.reduceEqDiff, true_implies, false_implies, implies_true, Option.some.injEq, forall_eq', forall_eq, reduceCtorEq, brT, brF, br_s, i_10, i_01, ib_0_2, ib_1_2, tn_0, tn_1, Int32.le_refl, eq_self, rv_bN, rv_iM, RCX 0, RCG 2, RCT 4, RCT 15, RCT 25, RCS 35, RCS 49, RCH 63, RCP 67, RCB 72, RCR 77, RCM 81, RLY, lit_at hw, RCT P, hT', p3, g_72 hT hτ hv hd2, z']
  exact hQ
theorem c_100 {w : mT} {σ : mS} {tp n : Nat} {t : Nat → Nat} {τ ρ : Rw} {bk : Nat → Rw} {has : Nat → Bool} {im : Nat → Rw} {p c : Nat} {D : Nat} {K : Int32 → Hp → Prop} (h : cIn w σ tp t τ ρ n bk has im) (hp : p < τ 1) (hc : c < τ (28 + p)) (hD : 4 ≤ D) : wpI D 100 [.ref 0, .int (Int32.ofNat p), .int (Int32.ofNat c)] (mW w σ) K ↔ K (grV (tOn ρ p c) (gOn τ ρ p c)) (mW w (gU σ (tOn ρ p c) (gOn τ ρ p c))) := by
  have h' := h
  obtain ⟨hw, hS, hH, ⟨P, hP, p3, p4, hτ⟩, hρ, hv, hr, h1, htp, htb, ht⟩ := h
  have hT := isTP hw hP
  have hT' := hT
  simp only [isT] at hT'
  refine cI_of (m := 3) (fun d hd Q hQ => ?_) rfl hD
  have hd2 : 2 ≤ d := by omega
  have v1 := hv.2.1
  have v2 := (hv.2.2.2.2.2.1 p hp).2
  have z := bC_t hp hv hc
  have tl := tOn_lt hr (by omega : p < 3) (by omega : c < 12)
  have gl := gOn_le (c := c) hv hr (by omega : p < 3)
  refine b100_0 ?_
  simp only [↓br_pos, ↓br_neg, ↓rF_I, ↓rF_L, ↓rF_R, ↓rF_N, rO_m, rB_m, ↓rI_m, wI_m, ↓rB2_m, ↓rB3_m, wB2_m, wB3_m, ↓rL_m, wL_m, ↓rQ_m, wQ_m, ↓lI_m, pI_m, pL_m, pR_m, sI_m, sBy_m, sBo_m, sL_m, sQ_m, fst_m, true_and, and_true, tg_some, ln_some, uI_1, uI_2, uL_1, uL_2, uL_3, uQ_1, uQ_2, uQ_3, rv_i, rv_l, rv_n, rv_b0, rv_b1, RMR, ne_eq, reduceCtorEq, not_false_eq_true, Option.getD_some, if_true, if_false, and_self, false_and, and_false, Nat.add_left_cancel_iff, Nat.add_eq_left, Nat.left_eq_add, Nat.one_ne_zero, Nat.reduceAdd, Nat.reduceLT, Nat.reduceLeDiff, Nat.reduceEqDiff, true_implies, false_implies, implies_true, Option.some.injEq, forall_eq', forall_eq, reduceCtorEq, brT, brF, br_s, i_10, i_01, ib_0_2, ib_1_2, tn_0, tn_1, Int32.le_refl, eq_self, rv_bN, rv_iM, RCX 0, RCG 2, RCT 4, RCT 15, RCT 25, RCS 35, RCS 49, RCH 63, RCP 67, RCB 72, RCR 77, RCM 81, RLY, lit_at hw, RCT P, hT', p3, g_72 hT hτ hv hd2, z, g_56 (isS35 hw) hρ hr (by omega : p < 3) (by omega : c < 12) hd2, g_57 (isS35 hw) hT hρ hτ hv hr (by omega : p < 3) (by omega : c < 12) hd2, g_126' (w := w) (σ := σ) hw (by omega : tOn ρ p c < 2147483648) (by omega : gOn τ ρ p c < 2147483648) hd2]
  exact hQ
theorem c_101z {w : mT} {σ : mS} {tp n : Nat} {t : Nat → Nat} {τ ρ : Rw} {bk : Nat → Rw} {has : Nat → Bool} {im : Nat → Rw} {p : Int32} {D : Nat} {K : Int32 → Hp → Prop} (h : cIn w σ tp t τ ρ n bk has im) (hn : bN p (τ 1) ≠ 1) (hD : 4 ≤ D) : wpI D 101 [.ref 0, .int p] (mW w σ) K ↔ K (-1) (mW w σ) := by
  have h' := h
  obtain ⟨hw, hS, hH, ⟨P, hP, p3, p4, hτ⟩, hρ, hv, hr, h1, htp, htb, ht⟩ := h
  have hT := isTP hw hP
  have hT' := hT
  simp only [isT] at hT'
  refine cI_of (m := 3) (fun d hd Q hQ => ?_) rfl hD
  have hd1 : 1 ≤ d := by omega
  have v1 := hv.2.1
  have z' : bN p (τ 1) = 0 := bN_01.resolve_right hn
  refine b101_0 ?_
  simp only [↓br_pos, ↓br_neg, ↓rF_I, ↓rF_L, ↓rF_R, ↓rF_N, rO_m, rB_m, ↓rI_m, wI_m, ↓rB2_m, ↓rB3_m, wB2_m, wB3_m, ↓rL_m, wL_m, ↓rQ_m, wQ_m, ↓lI_m, pI_m, pL_m, pR_m, sI_m, sBy_m, sBo_m, sL_m, sQ_m, fst_m, true_and, and_true, tg_some, ln_some, uI_1, uI_2, uL_1, uL_2, uL_3, uQ_1, uQ_2, uQ_3, rv_i, rv_l, rv_n, rv_b0, rv_b1, RMR, ne_eq, reduceCtorEq, not_false_eq_true, Option.getD_some, if_true, if_false, and_self, false_and, and_false, Nat.add_left_cancel_iff, Nat.add_eq_left, Nat.left_eq_add, Nat.one_ne_zero, Nat.reduceAdd, Nat.reduceLT, Nat.reduceLeDiff, Nat.reduceEqDiff, true_implies, false_implies, implies_true, Option.some.injEq, forall_eq', forall_eq, reduceCtorEq, brT, brF, br_s, i_10, i_01, ib_0_2, ib_1_2, tn_0, tn_1, Int32.le_refl, eq_self, rv_bN, rv_iM, RCX 0, RCG 2, RCT 4, RCT 15, RCT 25, RCS 35, RCS 49, RCH 63, RCP 67, RCB 72, RCR 77, RCM 81, RLY, lit_at hw, RCT P, hT', p3, g_71 hT hτ.2.2.1 (by omega : τ 1 < 2147483648) hd1, z']
  exact hQ
theorem c_101 {w : mT} {σ : mS} {tp n : Nat} {t : Nat → Nat} {τ ρ : Rw} {bk : Nat → Rw} {has : Nat → Bool} {im : Nat → Rw} {p : Nat} {D : Nat} {K : Int32 → Hp → Prop} (h : cIn w σ tp t τ ρ n bk has im) (hp : p < τ 1) (hD : 4 ≤ D) : wpI D 101 [.ref 0, .int (Int32.ofNat p)] (mW w σ) K ↔ K (grV (tPi τ ρ p) (gPi τ ρ p)) (mW w (gU σ (tPi τ ρ p) (gPi τ ρ p))) := by
  have h' := h
  obtain ⟨hw, hS, hH, ⟨P, hP, p3, p4, hτ⟩, hρ, hv, hr, h1, htp, htb, ht⟩ := h
  have hT := isTP hw hP
  have hT' := hT
  simp only [isT] at hT'
  refine cI_of (m := 3) (fun d hd Q hQ => ?_) rfl hD
  have hd1 : 1 ≤ d := by omega
  have hd2 : 2 ≤ d := by omega
  have v1 := hv.2.1
  have z := bN_on hp (by omega : τ 1 < 2147483648)
  have tl := tPi_lt hv hr hp
  have gl := gPi_le hv hr hp
  refine b101_0 ?_
  simp only [↓br_pos, ↓br_neg, ↓rF_I, ↓rF_L, ↓rF_R, ↓rF_N, rO_m, rB_m, ↓rI_m, wI_m, ↓rB2_m, ↓rB3_m, wB2_m, wB3_m, ↓rL_m, wL_m, ↓rQ_m, wQ_m, ↓lI_m, pI_m, pL_m, pR_m, sI_m, sBy_m, sBo_m, sL_m, sQ_m, fst_m, true_and, and_true, tg_some, ln_some, uI_1, uI_2, uL_1, uL_2, uL_3, uQ_1, uQ_2, uQ_3, rv_i, rv_l, rv_n, rv_b0, rv_b1, RMR, ne_eq, reduceCtorEq, not_false_eq_true, Option.getD_some, if_true, if_false, and_self, false_and, and_false, Nat.add_left_cancel_iff, Nat.add_eq_left, Nat.left_eq_add, Nat.one_ne_zero, Nat.reduceAdd, Nat.reduceLT, Nat.reduceLeDiff, Nat.reduceEqDiff, true_implies, false_implies, implies_true, Option.some.injEq, forall_eq', forall_eq, reduceCtorEq, brT, brF, br_s, i_10, i_01, ib_0_2, ib_1_2, tn_0, tn_1, Int32.le_refl, eq_self, rv_bN, rv_iM, RCX 0, RCG 2, RCT 4, RCT 15, RCT 25, RCS 35, RCS 49, RCH 63, RCP 67, RCB 72, RCR 77, RCM 81, RLY, lit_at hw, RCT P, hT', p3, g_71 hT hτ.2.2.1 (by omega : τ 1 < 2147483648) hd1, z, g_58 (isS35 hw) hT hρ hτ hv hr hp hd, g_59 (isS35 hw) hT hρ hτ hv hr hp hd, g_126' (w := w) (σ := σ) hw (by omega : tPi τ ρ p < 2147483648) (by omega : gPi τ ρ p < 2147483648) hd2]
  exact hQ
theorem c_102z {w : mT} {σ : mS} {tp n : Nat} {t : Nat → Nat} {τ ρ : Rw} {bk : Nat → Rw} {has : Nat → Bool} {im : Nat → Rw} {s : Int32} {D : Nat} {K : Int32 → Hp → Prop} (h : cIn w σ tp t τ ρ n bk has im) (hn : bN s (τ 2) ≠ 1) (hD : 3 ≤ D) : wpI D 102 [.ref 0, .int s] (mW w σ) K ↔ K (-1) (mW w σ) := by
  have h' := h
  obtain ⟨hw, hS, hH, ⟨P, hP, p3, p4, hτ⟩, hρ, hv, hr, h1, htp, htb, ht⟩ := h
  have hT := isTP hw hP
  have hT' := hT
  simp only [isT] at hT'
  refine cI_of (m := 2) (fun d hd Q hQ => ?_) rfl hD
  have hd1 : 1 ≤ d := by omega
  have v1 := hv.2.2.1
  have z' : bN s (τ 2) = 0 := bN_01.resolve_right hn
  refine b102_0 ?_
  simp only [↓br_pos, ↓br_neg, ↓rF_I, ↓rF_L, ↓rF_R, ↓rF_N, rO_m, rB_m, ↓rI_m, wI_m, ↓rB2_m, ↓rB3_m, wB2_m, wB3_m, ↓rL_m, wL_m, ↓rQ_m, wQ_m, ↓lI_m, pI_m, pL_m, pR_m, sI_m, sBy_m, sBo_m, sL_m, sQ_m, fst_m, true_and, and_true, tg_some, ln_some, uI_1, uI_2, uL_1, uL_2, uL_3, uQ_1, uQ_2, uQ_3, rv_i, rv_l, rv_n, rv_b0, rv_b1, RMR, ne_eq, reduceCtorEq, not_false_eq_true, Option.getD_some, if_true, if_false, and_self, false_and, and_false, Nat.add_left_cancel_iff, Nat.add_eq_left, Nat.left_eq_add, Nat.one_ne_zero, Nat.reduceAdd, Nat.reduceLT, Nat.reduceLeDiff, Nat.reduceEqDiff, true_implies, false_implies, implies_true, Option.some.injEq, forall_eq', forall_eq, reduceCtorEq, brT, brF, br_s, i_10, i_01, ib_0_2, ib_1_2, tn_0, tn_1, Int32.le_refl, eq_self, rv_bN, rv_iM, RCX 0, RCG 2, RCT 4, RCT 15, RCT 25, RCS 35, RCS 49, RCH 63, RCP 67, RCB 72, RCR 77, RCM 81, RLY, lit_at hw, RCT P, hT', p3, g_73 hT hτ.2.2.2.1 (by omega : τ 2 < 2147483648) hd1, z']
  exact hQ
theorem c_102 {w : mT} {σ : mS} {tp n : Nat} {t : Nat → Nat} {τ ρ : Rw} {bk : Nat → Rw} {has : Nat → Bool} {im : Nat → Rw} {s : Nat} {D : Nat} {K : Int32 → Hp → Prop} (h : cIn w σ tp t τ ρ n bk has im) (hs : s < τ 2) (hD : 3 ≤ D) : wpI D 102 [.ref 0, .int (Int32.ofNat s)] (mW w σ) K ↔ K (grV (ρ (27 + s)) (ρ (35 + s))) (mW w (gU σ (ρ (27 + s)) (ρ (35 + s)))) := by
  have h' := h
  obtain ⟨hw, hS, hH, ⟨P, hP, p3, p4, hτ⟩, hρ, hv, hr, h1, htp, htb, ht⟩ := h
  have hT := isTP hw hP
  have hT' := hT
  simp only [isT] at hT'
  refine cI_of (m := 2) (fun d hd Q hQ => ?_) rfl hD
  have hd1 : 1 ≤ d := by omega
  have v1 := hv.2.2.1
  have z := bN_on hs (by omega : τ 2 < 2147483648)
  have tl := hold_lt hr hs
  have gl := vR_ore hr s hs
  have eb : inB (Int32.ofNat s) 8 = true := on_inB (by omega) (by omega)
  have en := on_nat (i := s) (by omega)
  have e5 : σ.1 40 s = Int32.ofNat (ρ (27 + s)) := tS_hT hρ hs
  have e6 : σ.1 41 s = Int32.ofNat (ρ (35 + s)) := tS_hO hρ hs
  refine b102_0 ?_
  simp only [↓br_pos, ↓br_neg, ↓rF_I, ↓rF_L, ↓rF_R, ↓rF_N, rO_m, rB_m, ↓rI_m, wI_m, ↓rB2_m, ↓rB3_m, wB2_m, wB3_m, ↓rL_m, wL_m, ↓rQ_m, wQ_m, ↓lI_m, pI_m, pL_m, pR_m, sI_m, sBy_m, sBo_m, sL_m, sQ_m, fst_m, true_and, and_true, tg_some, ln_some, uI_1, uI_2, uL_1, uL_2, uL_3, uQ_1, uQ_2, uQ_3, rv_i, rv_l, rv_n, rv_b0, rv_b1, RMR, ne_eq, reduceCtorEq, not_false_eq_true, Option.getD_some, if_true, if_false, and_self, false_and, and_false, Nat.add_left_cancel_iff, Nat.add_eq_left, Nat.left_eq_add, Nat.one_ne_zero, Nat.reduceAdd, Nat.reduceLT, Nat.reduceLeDiff, Nat.reduceEqDiff, true_implies, false_implies, implies_true, Option.some.injEq, forall_eq', forall_eq, reduceCtorEq, brT, brF, br_s, i_10, i_01, ib_0_2, ib_1_2, tn_0, tn_1, Int32.le_refl, eq_self, rv_bN, rv_iM, RCX 0, RCG 2, RCT 4, RCT 15, RCT 25, RCS 35, RCS 49, RCH 63, RCP 67, RCB 72, RCR 77, RCM 81, RLY, lit_at hw, RCT P, hT', p3, g_73 hT hτ.2.2.2.1 (by omega : τ 2 < 2147483648) hd1, z, eb, en, e5, e6, g_126' (w := w) (σ := σ) hw (by omega : ρ (27 + s) < 2147483648) (by omega : ρ (35 + s) < 2147483648) hd]
  exact hQ
theorem c_107z {w : mT} {σ : mS} {tp n : Nat} {t : Nat → Nat} {τ ρ : Rw} {bk : Nat → Rw} {has : Nat → Bool} {im : Nat → Rw} {p l a b c q : Int32} {D : Nat} {K : Int32 → Hp → Prop} (h : cIn w σ tp t τ ρ n bk has im) (hn : ¬ (bC τ p q = 1 ∧ cbP τ p l a b c)) (hD : 5 ≤ D) : wpI D 107 [.ref 0, .int p, .int l, .int a, .int b, .int c, .int q] (mW w σ) K ↔ K (-1) (mW w σ) := by
  have h' := h
  obtain ⟨hw, hS, hH, ⟨P, hP, p3, p4, hτ⟩, hρ, hv, hr, h1, htp, htb, ht⟩ := h
  have hT := isTP hw hP
  have hT' := hT
  simp only [isT] at hT'
  refine cI_of (m := 4) (fun d hd Q hQ => ?_) rfl hD
  have hd2 : 2 ≤ d := by omega
  refine b107_0 ?_
  by_cases z : bC τ p q = 1
  · have hc : ¬ cbP τ p l a b c := fun y => hn ⟨z, y⟩
    simp only [↓br_pos, ↓br_neg, ↓rF_I, ↓rF_L, ↓rF_R, ↓rF_N, rO_m, rB_m, ↓rI_m, wI_m, ↓rB2_m, ↓rB3_m, wB2_m, wB3_m, ↓rL_m, wL_m, ↓rQ_m, wQ_m, ↓lI_m, pI_m, pL_m, pR_m, sI_m, sBy_m, sBo_m, sL_m, sQ_m, fst_m, true_and, and_true, tg_some, ln_some, uI_1, uI_2, uL_1, uL_2, uL_3, uQ_1, uQ_2, uQ_3, rv_i, rv_l, rv_n, rv_b0, rv_b1, RMR, ne_eq, reduceCtorEq, not_false_eq_true, Option.getD_some, if_true, if_false, and_self, false_and, and_false, Nat.add_left_cancel_iff, Nat.add_eq_left, Nat.left_eq_add, Nat.one_ne_zero, Nat.reduceAdd, Nat.reduceLT, Nat.reduceLeDiff, Nat.reduceEqDiff, true_implies, false_implies, implies_true, Option.some.injEq, forall_eq', forall_eq, reduceCtorEq, brT, brF, br_s, i_10, i_01, ib_0_2, ib_1_2, tn_0, tn_1, Int32.le_refl, eq_self, rv_bN, rv_iM, RCX 0, RCG 2, RCT 4, RCT 15, RCT 25, RCS 35, RCS 49, RCH 63, RCP 67, RCB 72, RCR 77, RCM 81, RLY, lit_at hw, RCT P, hT', p3, g_72 hT hτ hv hd2, z, g_86z hw hP p3 hτ hv hc hd]
    exact hQ
  · have z' : bC τ p q = 0 := bC_01.resolve_right z
    simp only [↓br_pos, ↓br_neg, ↓rF_I, ↓rF_L, ↓rF_R, ↓rF_N, rO_m, rB_m, ↓rI_m, wI_m, ↓rB2_m, ↓rB3_m, wB2_m, wB3_m, ↓rL_m, wL_m, ↓rQ_m, wQ_m, ↓lI_m, pI_m, pL_m, pR_m, sI_m, sBy_m, sBo_m, sL_m, sQ_m, fst_m, true_and, and_true, tg_some, ln_some, uI_1, uI_2, uL_1, uL_2, uL_3, uQ_1, uQ_2, uQ_3, rv_i, rv_l, rv_n, rv_b0, rv_b1, RMR, ne_eq, reduceCtorEq, not_false_eq_true, Option.getD_some, if_true, if_false, and_self, false_and, and_false, Nat.add_left_cancel_iff, Nat.add_eq_left, Nat.left_eq_add, Nat.one_ne_zero, Nat.reduceAdd, Nat.reduceLT, Nat.reduceLeDiff, Nat.reduceEqDiff, true_implies, false_implies, implies_true, Option.some.injEq, forall_eq', forall_eq, reduceCtorEq, brT, brF, br_s, i_10, i_01, ib_0_2, ib_1_2, tn_0, tn_1, Int32.le_refl, eq_self, rv_bN, rv_iM, RCX 0, RCG 2, RCT 4, RCT 15, RCT 25, RCS 35, RCS 49, RCH 63, RCP 67, RCB 72, RCR 77, RCM 81, RLY, lit_at hw, RCT P, hT', p3, g_72 hT hτ hv hd2, z']
    exact hQ
theorem c_107n {w : mT} {σ : mS} {tp n : Nat} {t : Nat → Nat} {τ ρ : Rw} {bk : Nat → Rw} {has : Nat → Bool} {im : Nat → Rw} {p l a b c q : Nat} {D : Nat} {K : Int32 → Hp → Prop} (h : cIn w σ tp t τ ρ n bk has im) (hp : p < τ 1) (hl : l < τ 0) (ha : a < τ (28 + p)) (hb : b < τ (28 + p)) (hc : 1 ≤ c ∧ c ≤ 99) (hq : q < τ (28 + p)) (hn : wlN τ ρ p l a b c ≠ 0) (hD : 5 ≤ D) : wpI D 107 [.ref 0, .int (Int32.ofNat p), .int (Int32.ofNat l), .int (Int32.ofNat a), .int (Int32.ofNat b), .int (Int32.ofNat c), .int (Int32.ofNat q)] (mW w σ) K ↔ K (-1) (mW w σ) := by
  have h' := h
  obtain ⟨hw, hS, hH, ⟨P, hP, p3, p4, hτ⟩, hρ, hv, hr, h1, htp, htb, ht⟩ := h
  have hT := isTP hw hP
  have hT' := hT
  simp only [isT] at hT'
  refine cI_of (m := 4) (fun d hd Q hQ => ?_) rfl hD
  have hd2 : 2 ≤ d := by omega
  have z := bC_t hp hv hq
  have lt := wl_lt (τ := τ) (ρ := ρ) (p := p) (l := l) (a := a) (b := b) (t := c)
  have e0 : (Int32.ofNat (wlN τ ρ p l a b c) = 0) ↔ False := iff_false_intro (fun q => hn ((of_eq0 (by omega)).mp q))
  refine b107_0 ?_
  simp only [↓br_pos, ↓br_neg, ↓rF_I, ↓rF_L, ↓rF_R, ↓rF_N, rO_m, rB_m, ↓rI_m, wI_m, ↓rB2_m, ↓rB3_m, wB2_m, wB3_m, ↓rL_m, wL_m, ↓rQ_m, wQ_m, ↓lI_m, pI_m, pL_m, pR_m, sI_m, sBy_m, sBo_m, sL_m, sQ_m, fst_m, true_and, and_true, tg_some, ln_some, uI_1, uI_2, uL_1, uL_2, uL_3, uQ_1, uQ_2, uQ_3, rv_i, rv_l, rv_n, rv_b0, rv_b1, RMR, ne_eq, reduceCtorEq, not_false_eq_true, Option.getD_some, if_true, if_false, and_self, false_and, and_false, Nat.add_left_cancel_iff, Nat.add_eq_left, Nat.left_eq_add, Nat.one_ne_zero, Nat.reduceAdd, Nat.reduceLT, Nat.reduceLeDiff, Nat.reduceEqDiff, true_implies, false_implies, implies_true, Option.some.injEq, forall_eq', forall_eq, reduceCtorEq, brT, brF, br_s, i_10, i_01, ib_0_2, ib_1_2, tn_0, tn_1, Int32.le_refl, eq_self, rv_bN, rv_iM, RCX 0, RCG 2, RCT 4, RCT 15, RCT 25, RCS 35, RCS 49, RCH 63, RCP 67, RCB 72, RCR 77, RCM 81, RLY, lit_at hw, RCT P, hT', p3, g_72 hT hτ hv hd2, z, g_86 hw hP p3 hτ hv hρ hr hp hl ha hb hc hd, e0]
  exact hQ
abbrev rcP (a b q : Nat) : Prop := min a b ≤ q ∧ q ≤ max a b
def ilT (ρ : Rw) (p a b c q : Nat) : Nat := tOn ρ p q + (if rcP a b q then c else 0)
def ilG (τ ρ : Rw) (p l a b c q : Nat) : Nat := gOn τ ρ p q + (if rcP a b q then c else 0) * τ (16 + l)
theorem c_107 {w : mT} {σ : mS} {tp n : Nat} {t : Nat → Nat} {τ ρ : Rw} {bk : Nat → Rw} {has : Nat → Bool} {im : Nat → Rw} {p l a b c q : Nat} {D : Nat} {K : Int32 → Hp → Prop} (h : cIn w σ tp t τ ρ n bk has im) (hp : p < τ 1) (hl : l < τ 0) (ha : a < τ (28 + p)) (hb : b < τ (28 + p)) (hc : 1 ≤ c ∧ c ≤ 99) (hq : q < τ (28 + p)) (hn : wlN τ ρ p l a b c = 0) (hD : 5 ≤ D) : wpI D 107 [.ref 0, .int (Int32.ofNat p), .int (Int32.ofNat l), .int (Int32.ofNat a), .int (Int32.ofNat b), .int (Int32.ofNat c), .int (Int32.ofNat q)] (mW w σ) K ↔ K (grV (ilT ρ p a b c q) (ilG τ ρ p l a b c q)) (mW w (gU σ (ilT ρ p a b c q) (ilG τ ρ p l a b c q))) := by
  have h' := h
  obtain ⟨hw, hS, hH, ⟨P, hP, p3, p4, hτ⟩, hρ, hv, hr, h1, htp, htb, ht⟩ := h
  have hT := isTP hw hP
  have hT' := hT
  simp only [isT] at hT'
  refine cI_of (m := 4) (fun d hd Q hQ => ?_) rfl hD
  have hd2 : 2 ≤ d := by omega
  have v0 := hv.1
  have v1 := hv.2.1
  have v2 := (hv.2.2.2.2.2.1 p hp).2
  have z := bC_t hp hv hq
  have e0 : (Int32.ofNat (wlN τ ρ p l a b c) = 0) ↔ True := iff_true_intro (by rw [hn]; rfl)
  have mn := min_of (a := b) (b := a) (by omega) (by omega)
  have mx := max_2 (a := a) (b := b) (by omega) (by omega)
  have c1 := on_lt (i := q) (j := min a b) (by omega) (by omega)
  have c2 := on_lt (i := max a b) (j := q) (by omega) (by omega)
  have tl := tOn_lt hr (by omega : p < 3) (by omega : q < 12)
  have gl := gOn_le (c := q) hv hr (by omega : p < 3)
  have gr := (hv.2.2.2.2.1 l hl).2.2
  have eb : inB (Int32.ofNat l) 12 = true := on_inB (by omega) (by omega)
  have en := on_nat (i := l) (by omega)
  have eg := (hτ.2.2.2.2.1 l hl).2
  have e56 := fun {K : Int32 → Hp → Prop} => g_56 (K := K) (isS35 hw) hρ hr (by omega : p < 3) (by omega : q < 12) hd2
  have e57 := fun {K : Int32 → Hp → Prop} => g_57 (K := K) (isS35 hw) hT hρ hτ hv hr (by omega : p < 3) (by omega : q < 12) hd2
  have hcg : c * τ (16 + l) ≤ 99 * 999 := Nat.mul_le_mul hc.2 gr
  refine b107_0 ?_
  by_cases y : rcP a b q
  · have c1' := iff_false_intro (fun x => absurd (c1.mp x) (by omega))
    have c2' := iff_false_intro (fun x => absurd (c2.mp x) (by omega))
    have eT : ilT ρ p a b c q = tOn ρ p q + c := by unfold ilT; rw [if_pos y]
    have eG : ilG τ ρ p l a b c q = gOn τ ρ p q + c * τ (16 + l) := by unfold ilG; rw [if_pos y]
    rw [eT, eG] at hQ
    simp only [↓br_pos, ↓br_neg, ↓rF_I, ↓rF_L, ↓rF_R, ↓rF_N, rO_m, rB_m, ↓rI_m, wI_m, ↓rB2_m, ↓rB3_m, wB2_m, wB3_m, ↓rL_m, wL_m, ↓rQ_m, wQ_m, ↓lI_m, pI_m, pL_m, pR_m, sI_m, sBy_m, sBo_m, sL_m, sQ_m, fst_m, true_and, and_true, tg_some, ln_some, uI_1, uI_2, uL_1, uL_2, uL_3, uQ_1, uQ_2, uQ_3, rv_i, rv_l, rv_n, rv_b0, rv_b1, RMR, ne_eq, reduceCtorEq, not_false_eq_true, Option.getD_some, if_true, if_false, and_self, false_and, and_false, Nat.add_left_cancel_iff, Nat.add_eq_left, Nat.left_eq_add, Nat.one_ne_zero, Nat.reduceAdd, Nat.reduceLT, Nat.reduceLeDiff, Nat.reduceEqDiff, true_implies, false_implies, implies_true, Option.some.injEq, forall_eq', forall_eq, reduceCtorEq, brT, brF, br_s, i_10, i_01, ib_0_2, ib_1_2, tn_0, tn_1, Int32.le_refl, eq_self, rv_bN, rv_iM, RCX 0, RCG 2, RCT 4, RCT 15, RCT 25, RCS 35, RCS 49, RCH 63, RCP 67, RCB 72, RCR 77, RCM 81, RLY, lit_at hw, RCT P, hT', p3, g_72 hT hτ hv hd2, z, g_86 hw hP p3 hτ hv hρ hr hp hl ha hb hc hd, e0, mn, mx, c1', c2']
    refine b107_56 ?_
    simp only [↓br_pos, ↓br_neg, ↓rF_I, ↓rF_L, ↓rF_R, ↓rF_N, rO_m, rB_m, ↓rI_m, wI_m, ↓rB2_m, ↓rB3_m, wB2_m, wB3_m, ↓rL_m, wL_m, ↓rQ_m, wQ_m, ↓lI_m, pI_m, pL_m, pR_m, sI_m, sBy_m, sBo_m, sL_m, sQ_m, fst_m, true_and, and_true, tg_some, ln_some, uI_1, uI_2, uL_1, uL_2, uL_3, uQ_1, uQ_2, uQ_3, rv_i, rv_l, rv_n, rv_b0, rv_b1, RMR, ne_eq, reduceCtorEq, not_false_eq_true, Option.getD_some, if_true, if_false, and_self, false_and, and_false, Nat.add_left_cancel_iff, Nat.add_eq_left, Nat.left_eq_add, Nat.one_ne_zero, Nat.reduceAdd, Nat.reduceLT, Nat.reduceLeDiff, Nat.reduceEqDiff, true_implies, false_implies, implies_true, Option.some.injEq, forall_eq', forall_eq, reduceCtorEq, brT, brF, br_s, i_10, i_01, ib_0_2, ib_1_2, tn_0, tn_1, Int32.le_refl, eq_self, rv_bN, rv_iM, RCX 0, RCG 2, RCT 4, RCT 15, RCT 25, RCS 35, RCS 49, RCH 63, RCP 67, RCB 72, RCR 77, RCM 81, RLY, lit_at hw, RCT P, hT', p3, e56, e57, eb, en, eg, of_mul, of_add, g_126' (w := w) (σ := σ) hw (by omega : tOn ρ p q + c < 2147483648) (by omega : gOn τ ρ p q + c * τ (16 + l) < 2147483648) hd2]
    exact hQ
  · have eT : ilT ρ p a b c q = tOn ρ p q + 0 := by unfold ilT; rw [if_neg y]
    have eG : ilG τ ρ p l a b c q = gOn τ ρ p q + 0 * τ (16 + l) := by unfold ilG; rw [if_neg y]
    rw [eT, eG] at hQ
    have m0 : (0 : Int32) * Int32.ofNat (τ (16 + l)) = Int32.ofNat (0 * τ (16 + l)) := of_mul (a := 0)
    have a0 : Int32.ofNat (tOn ρ p q) + 0 = Int32.ofNat (tOn ρ p q + 0) := of_add (b := 0)
    have fin : Wp 107 56 [.ref 0, .int (Int32.ofNat p), .int (Int32.ofNat l), .int (Int32.ofNat a), .int (Int32.ofNat b), .int (Int32.ofNat c), .int (Int32.ofNat q), jk, jk] [.int (0 : Int32)] (mW w σ) Q d := by
      refine b107_56 ?_
      simp only [↓br_pos, ↓br_neg, ↓rF_I, ↓rF_L, ↓rF_R, ↓rF_N, rO_m, rB_m, ↓rI_m, wI_m, ↓rB2_m, ↓rB3_m, wB2_m, wB3_m, ↓rL_m, wL_m, ↓rQ_m, wQ_m, ↓lI_m, pI_m, pL_m, pR_m, sI_m, sBy_m, sBo_m, sL_m, sQ_m, fst_m, true_and, and_true, tg_some, ln_some, uI_1, uI_2, uL_1, uL_2, uL_3, uQ_1, uQ_2, uQ_3, rv_i, rv_l, rv_n, rv_b0, rv_b1, RMR, ne_eq, reduceCtorEq, not_false_eq_true, Option.getD_some, if_true, if_false, and_self, false_and, and_false, Nat.add_left_cancel_iff, Nat.add_eq_left, Nat.left_eq_add, Nat.one_ne_zero, Nat.reduceAdd, Nat.reduceLT, Nat.reduceLeDiff, Nat.reduceEqDiff, true_implies, false_implies, implies_true, Option.some.injEq, forall_eq', forall_eq, reduceCtorEq, brT, brF, br_s, i_10, i_01, ib_0_2, ib_1_2, tn_0, tn_1, Int32.le_refl, eq_self, rv_bN, rv_iM, RCX 0, RCG 2, RCT 4, RCT 15, RCT 25, RCS 35, RCS 49, RCH 63, RCP 67, RCB 72, RCR 77, RCM 81, RLY, lit_at hw, RCT P, hT', p3, e56, e57, eb, en, eg, m0, a0, of_add, g_126' (w := w) (σ := σ) hw (by omega : tOn ρ p q + 0 < 2147483648) (by omega : gOn τ ρ p q + 0 * τ (16 + l) < 2147483648) hd2]
      exact hQ
    by_cases x : q < min a b
    · have c1' := iff_true_intro (c1.mpr x)
      simp only [↓br_pos, ↓br_neg, ↓rF_I, ↓rF_L, ↓rF_R, ↓rF_N, rO_m, rB_m, ↓rI_m, wI_m, ↓rB2_m, ↓rB3_m, wB2_m, wB3_m, ↓rL_m, wL_m, ↓rQ_m, wQ_m, ↓lI_m, pI_m, pL_m, pR_m, sI_m, sBy_m, sBo_m, sL_m, sQ_m, fst_m, true_and, and_true, tg_some, ln_some, uI_1, uI_2, uL_1, uL_2, uL_3, uQ_1, uQ_2, uQ_3, rv_i, rv_l, rv_n, rv_b0, rv_b1, RMR, ne_eq, reduceCtorEq, not_false_eq_true, Option.getD_some, if_true, if_false, and_self, false_and, and_false, Nat.add_left_cancel_iff, Nat.add_eq_left, Nat.left_eq_add, Nat.one_ne_zero, Nat.reduceAdd, Nat.reduceLT, Nat.reduceLeDiff, Nat.reduceEqDiff, true_implies, false_implies, implies_true, Option.some.injEq, forall_eq', forall_eq, reduceCtorEq, brT, brF, br_s, i_10, i_01, ib_0_2, ib_1_2, tn_0, tn_1, Int32.le_refl, eq_self, rv_bN, rv_iM, RCX 0, RCG 2, RCT 4, RCT 15, RCT 25, RCS 35, RCS 49, RCH 63, RCP 67, RCB 72, RCR 77, RCM 81, RLY, lit_at hw, RCT P, hT', p3, g_72 hT hτ hv hd2, z, g_86 hw hP p3 hτ hv hρ hr hp hl ha hb hc hd, e0, mn, mx, c1']
      exact fin
    · have c1' := iff_false_intro (fun r => x (c1.mp r))
      have c2' := iff_true_intro (c2.mpr (by omega))
      simp only [↓br_pos, ↓br_neg, ↓rF_I, ↓rF_L, ↓rF_R, ↓rF_N, rO_m, rB_m, ↓rI_m, wI_m, ↓rB2_m, ↓rB3_m, wB2_m, wB3_m, ↓rL_m, wL_m, ↓rQ_m, wQ_m, ↓lI_m, pI_m, pL_m, pR_m, sI_m, sBy_m, sBo_m, sL_m, sQ_m, fst_m, true_and, and_true, tg_some, ln_some, uI_1, uI_2, uL_1, uL_2, uL_3, uQ_1, uQ_2, uQ_3, rv_i, rv_l, rv_n, rv_b0, rv_b1, RMR, ne_eq, reduceCtorEq, not_false_eq_true, Option.getD_some, if_true, if_false, and_self, false_and, and_false, Nat.add_left_cancel_iff, Nat.add_eq_left, Nat.left_eq_add, Nat.one_ne_zero, Nat.reduceAdd, Nat.reduceLT, Nat.reduceLeDiff, Nat.reduceEqDiff, true_implies, false_implies, implies_true, Option.some.injEq, forall_eq', forall_eq, reduceCtorEq, brT, brF, br_s, i_10, i_01, ib_0_2, ib_1_2, tn_0, tn_1, Int32.le_refl, eq_self, rv_bN, rv_iM, RCX 0, RCG 2, RCT 4, RCT 15, RCT 25, RCS 35, RCS 49, RCH 63, RCP 67, RCB 72, RCR 77, RCM 81, RLY, lit_at hw, RCT P, hT', p3, g_72 hT hτ hv hd2, z, g_86 hw hP p3 hτ hv hρ hr hp hl ha hb hc hd, e0, mn, mx, c1', c2']
      exact fin
