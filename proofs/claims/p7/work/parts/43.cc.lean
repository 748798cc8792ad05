/-! the class itself: what it holds -/
def cIn (w : mT) (σ : mS) (tp : Nat) (t : Nat → Nat) (τ ρ : Rw) (n : Nat) (bk : Nat → Rw) (has : Nat → Bool) (im : Nat → Rw) : Prop :=
  lit w ∧ hiS w σ ∧ (∃ o, hiT σ τ n o bk has im) ∧ (∃ P, (P = 15 ∨ P = 25) ∧ σ.2.2 0 3 = some P ∧ σ.2.2 0 4 = some (40 - P) ∧ tTold σ P τ) ∧ tSt σ 35 τ ρ ∧ vTold τ ∧ vRow τ ρ ∧ σ.1 0 1 = Int32.ofNat tp ∧ tp ≤ 600 ∧ (∀ i, i < 600 → σ.1 1 i = Int32.ofNat (t i)) ∧ ∀ i, t i < 256
theorem isTP {w : mT} {P : Nat} (hw : lit w) (hP : P = 15 ∨ P = 25) : isT w P := by
  rcases hP with rfl | rfl
  · exact isT15 hw
  · exact isT25 hw
/-- a change that none of it sees -/
theorem cIn_fr {w : mT} {σ σ' : mS} {tp : Nat} {t : Nat → Nat} {τ ρ : Rw} {n : Nat} {bk : Nat → Rw} {has : Nat → Bool} {im : Nat → Rw} (h : cIn w σ tp t τ ρ n bk has im) (h0 : ∀ j, j ≠ 11 → σ'.1 0 j = σ.1 0 j) (h1 : ∀ a, a = 1 ∨ (15 ≤ a ∧ a < 49) ∨ (63 ≤ a ∧ a < 67) ∨ 99 ≤ a → σ'.1 a = σ.1 a) (h2 : ∀ a, a = 0 ∨ a = 64 ∨ a = 65 → σ'.2.2 a = σ.2.2 a) : cIn w σ' tp t τ ρ n bk has im := by
  obtain ⟨a1, a2, ⟨o, a3⟩, ⟨P, b1, b2, b3, b4⟩, a5, a6, a7, a8, a9, a10, a11⟩ := h
  have rs : ∀ a, sl σ' a = sl σ a := fun a => sl_c (h2 64 (by omega)) (h2 65 (by omega))
  obtain ⟨c1, c2, c3, c4, c5, c6⟩ := a3
  refine ⟨a1, hiS_c a2 (fun a _ => rs a), ⟨o, ?_, c2, ?_, c4, fun i hi => ?_, fun k hk => ?_⟩, ⟨P, b1, by rw [h2 0 (by omega)]; exact b2, by rw [h2 0 (by omega)]; exact b3, tTold_fr b4 (fun a x1 x2 => h1 a (by omega))⟩, tSt_fr a5 (fun a x1 x2 => h1 a (by omega)), a6, a7, by rw [h0 1 (by omega)]; exact a8, a9, fun i hi => by rw [h1 1 (by omega)]; exact a10 i hi, a11⟩
  · rw [h1 63 (by omega)]; exact c1
  · rw [h1 63 (by omega)]; exact c3
  · obtain ⟨x0, q, x1, x2⟩ := c5 i hi
    obtain ⟨y1, y2, y3⟩ := a2.1 _ q (by omega) x1
    exact ⟨x0, q, by rw [rs]; exact x1, tSt_fr x2 (fun b hb1 hb2 => h1 b (by omega))⟩
  · obtain ⟨x1, x2⟩ := c6 k hk
    refine ⟨by rw [h1 66 (by omega)]; exact x1, fun hh => ?_⟩
    obtain ⟨z0, q, z1, z2⟩ := x2 hh
    obtain ⟨y1, y2, y3⟩ := a2.1 _ q (by omega) z1
    exact ⟨z0, q, by rw [rs]; exact z1, tSt_fr z2 (fun b hb1 hb2 => h1 b (by omega))⟩
/-! what its calls share -/
theorem g_118 {w : mT} {σ : mS} {a : Int32} {D : Nat} {K : Int32 → Hp → Prop} (hD : 1 ≤ D) : wpI D 118 [.int a] (mW w σ) K ↔ K (bN a 2) (mW w σ) := by
  refine cI_of (m := 0) (fun d hd Q hQ => ?_) rfl hD
  refine b118_0 ?_
  have e := br_bN (a := a) (n := 2) (A := Q (some (some (.int 0))) (mW w σ)) (B := Q (some (some (.int 1))) (mW w σ)) (by omega)
  simp only [↓rF_I, ↓rF_L, ↓rF_R, ↓rF_N, rO_m, rB_m, ↓rI_m, wI_m, ↓rB2_m, ↓rB3_m, wB2_m, wB3_m, ↓rL_m, wL_m, ↓rQ_m, wQ_m, ↓lI_m, pI_m, pL_m, pR_m, sI_m, sBy_m, sBo_m, sL_m, sQ_m, fst_m, true_and, and_true, tg_some, ln_some, uI_1, uI_2, uL_1, uL_2, uL_3, uQ_1, uQ_2, uQ_3, rv_i, rv_l, rv_n, rv_b0, rv_b1, RMR, ne_eq, reduceCtorEq, not_false_eq_true, Option.getD_some, if_true, if_false, and_self, false_and, and_false, Nat.add_left_cancel_iff, Nat.add_eq_left, Nat.left_eq_add, Nat.one_ne_zero, Nat.reduceAdd, Nat.reduceLT, Nat.reduceLeDiff, Nat.reduceEqDiff, true_implies, false_implies, implies_true, Option.some.injEq, forall_eq', forall_eq, reduceCtorEq, brT, brF, br_s, i_10, i_01, ib_0_2, ib_1_2, tn_0, tn_1, Int32.le_refl, eq_self, rv_bN, rv_iM]
  exact e.mpr (brQ_b.mpr hQ)
abbrev grP (a : Int32) : Prop := 0 ≤ a.toInt ∧ a.toInt ≤ 999
theorem g_119 {w : mT} {σ : mS} {a : Int32} {D : Nat} {K : Int32 → Hp → Prop} (hD : 1 ≤ D) : wpI D 119 [.int a] (mW w σ) K ↔ K (iB (grP a)) (mW w σ) := by
  refine cI_of (m := 0) (fun d hd Q hQ => ?_) rfl hD
  refine b119_0 ?_
  by_cases h : a < 0
  · rw [iB_f (fun q => by rw [i_lt, show (0 : Int32).toInt = 0 by decide] at h; have := q.1; omega)] at hQ
    simp only [↓br_pos, ↓br_neg, ↓rF_I, ↓rF_L, ↓rF_R, ↓rF_N, rO_m, rB_m, ↓rI_m, wI_m, ↓rB2_m, ↓rB3_m, wB2_m, wB3_m, ↓rL_m, wL_m, ↓rQ_m, wQ_m, ↓lI_m, pI_m, pL_m, pR_m, sI_m, sBy_m, sBo_m, sL_m, sQ_m, fst_m, true_and, and_true, tg_some, ln_some, uI_1, uI_2, uL_1, uL_2, uL_3, uQ_1, uQ_2, uQ_3, rv_i, rv_l, rv_n, rv_b0, rv_b1, RMR, ne_eq, reduceCtorEq, not_false_eq_true, Option.getD_some, if_true, if_false, and_self, false_and, and_false, Nat.add_left_cancel_iff, Nat.add_eq_left, Nat.left_eq_add, Nat.one_ne_zero, Nat.reduceAdd, Nat.reduceLT, Nat.reduceLeDiff, Nat.reduceEqDiff, true_implies, false_implies, implies_true, Option.some.injEq, forall_eq', forall_eq, reduceCtorEq, brT, brF, br_s, i_10, i_01, ib_0_2, ib_1_2, tn_0, tn_1, Int32.le_refl, eq_self, rv_bN, rv_iM, h]
    exact hQ
  · by_cases h2 : (999 : Int32) < a
    · rw [iB_f (fun q => by rw [i_lt, show (999 : Int32).toInt = 999 by decide] at h2; have := q.2; omega)] at hQ
      simp only [↓br_pos, ↓br_neg, ↓rF_I, ↓rF_L, ↓rF_R, ↓rF_N, rO_m, rB_m, ↓rI_m, wI_m, ↓rB2_m, ↓rB3_m, wB2_m, wB3_m, ↓rL_m, wL_m, ↓rQ_m, wQ_m, ↓lI_m, pI_m, pL_m, pR_m, sI_m, sBy_m, sBo_m, sL_m, sQ_m, fst_m, true_and, and_true, tg_some, ln_some, uI_1, uI_2, uL_1, uL_2, uL_3, uQ_1, uQ_2, uQ_3, rv_i, rv_l, rv_n, rv_b0, rv_b1, RMR, ne_eq, reduceCtorEq, not_false_eq_true, Option.getD_some, if_true, if_false, and_self, false_and, and_false, Nat.add_left_cancel_iff, Nat.add_eq_left, Nat.left_eq_add, Nat.one_ne_zero, Nat.reduceAdd, Nat.reduceLT, Nat.reduceLeDiff, Nat.reduceEqDiff, true_implies, false_implies, implies_true, Option.some.injEq, forall_eq', forall_eq, reduceCtorEq, brT, brF, br_s, i_10, i_01, ib_0_2, ib_1_2, tn_0, tn_1, Int32.le_refl, eq_self, rv_bN, rv_iM, h, h2]
      exact hQ
    · rw [iB_t (by rw [i_lt, show (0 : Int32).toInt = 0 by decide] at h; rw [i_lt, show (999 : Int32).toInt = 999 by decide] at h2; exact ⟨by omega, by omega⟩)] at hQ
      simp only [↓br_pos, ↓br_neg, ↓rF_I, ↓rF_L, ↓rF_R, ↓rF_N, rO_m, rB_m, ↓rI_m, wI_m, ↓rB2_m, ↓rB3_m, wB2_m, wB3_m, ↓rL_m, wL_m, ↓rQ_m, wQ_m, ↓lI_m, pI_m, pL_m, pR_m, sI_m, sBy_m, sBo_m, sL_m, sQ_m, fst_m, true_and, and_true, tg_some, ln_some, uI_1, uI_2, uL_1, uL_2, uL_3, uQ_1, uQ_2, uQ_3, rv_i, rv_l, rv_n, rv_b0, rv_b1, RMR, ne_eq, reduceCtorEq, not_false_eq_true, Option.getD_some, if_true, if_false, and_self, false_and, and_false, Nat.add_left_cancel_iff, Nat.add_eq_left, Nat.left_eq_add, Nat.one_ne_zero, Nat.reduceAdd, Nat.reduceLT, Nat.reduceLeDiff, Nat.reduceEqDiff, true_implies, false_implies, implies_true, Option.some.injEq, forall_eq', forall_eq, reduceCtorEq, brT, brF, br_s, i_10, i_01, ib_0_2, ib_1_2, tn_0, tn_1, Int32.le_refl, eq_self, rv_bN, rv_iM, h, h2]
      exact hQ
/-- a layer that is there -/
abbrev laP (τ ρ : Rw) (p k : Int32) : Prop := bN p (τ 1) = 1 ∧ 0 ≤ k.toInt ∧ k.toInt < (ρ (24 + p.toNatClampNeg) : Nat)
theorem g_120 {w : mT} {σ : mS} {P D : Nat} {τ ρ : Rw} {a1 a2 : Int32} {K : Int32 → Hp → Prop} (hw : lit w) (hP : P = 15 ∨ P = 25) (hp : σ.2.2 0 3 = some P) (hτ : tTold σ P τ) (hv : vTold τ) (hρ : tSt σ 35 τ ρ) (h : vRow τ ρ) (hD : 2 ≤ D) : wpI D 120 [.ref 0, .int a1, .int a2] (mW w σ) K ↔ K (iB (laP τ ρ a1 a2)) (mW w σ) := by
  have hT := isTP hw hP
  have hT' := hT
  simp only [isT] at hT'
  refine cI_of (m := 1) (fun d hd Q hQ => ?_) rfl hD
  have hd1 : 1 ≤ d := by omega
  refine b120_0 ?_
  have v1 := hv.2.1
  by_cases a : bN a1 (τ 1) = 1
  · obtain ⟨p, rfl, hp1⟩ := bN_ex a
    have eb : inB (Int32.ofNat p) 3 = true := on_inB (by omega) (by omega)
    have en := on_nat (i := p) (by omega)
    have ela := tS_la hρ (by omega : p < 3)
    have h60 := vR_la h p (by omega)
    have e1 : iB (laP τ ρ (Int32.ofNat p) a2) = bN a2 (ρ (24 + p)) := by
      by_cases z : 0 ≤ a2.toInt ∧ a2.toInt < (ρ (24 + p) : Nat)
      · rw [bN_t z, iB_t (p := laP τ ρ (Int32.ofNat p) a2) ⟨a, z.1, by rw [en]; exact z.2⟩]
      · rw [bN_f z, iB_f (p := laP τ ρ (Int32.ofNat p) a2) (fun q => z ⟨q.2.1, by have := q.2.2; rw [en] at this; exact this⟩)]
    rw [e1] at hQ
    have e := br_bN (a := a2) (n := ρ (24 + p)) (A := Q (some (some (.int 0))) (mW w σ)) (B := Q (some (some (.int 1))) (mW w σ)) (by omega)
    have el : σ.1 37 p = Int32.ofNat (ρ (24 + p)) := ela
    simp only [↓rF_I, ↓rF_L, ↓rF_R, ↓rF_N, rO_m, rB_m, ↓rI_m, wI_m, ↓rB2_m, ↓rB3_m, wB2_m, wB3_m, ↓rL_m, wL_m, ↓rQ_m, wQ_m, ↓lI_m, pI_m, pL_m, pR_m, sI_m, sBy_m, sBo_m, sL_m, sQ_m, fst_m, true_and, and_true, tg_some, ln_some, uI_1, uI_2, uL_1, uL_2, uL_3, uQ_1, uQ_2, uQ_3, rv_i, rv_l, rv_n, rv_b0, rv_b1, RMR, ne_eq, reduceCtorEq, not_false_eq_true, Option.getD_some, if_true, if_false, and_self, false_and, and_false, Nat.add_left_cancel_iff, Nat.add_eq_left, Nat.left_eq_add, Nat.one_ne_zero, Nat.reduceAdd, Nat.reduceLT, Nat.reduceLeDiff, Nat.reduceEqDiff, true_implies, false_implies, implies_true, Option.some.injEq, forall_eq', forall_eq, reduceCtorEq, brT, brF, br_s, i_10, i_01, ib_0_2, ib_1_2, tn_0, tn_1, Int32.le_refl, eq_self, rv_bN, rv_iM, RCX 0, RCG 2, RCT 4, RCT 15, RCT 25, RCS 35, RCS 49, RCH 63, RCP 67, RCB 72, RCR 77, RCM 81, RLY, lit_at hw, RCT P, hT', hp, g_71 hT hτ.2.2.1 (by omega : τ 1 < 2147483648) hd1, a, eb, en, el]
    exact e.mpr (brQ_b.mpr hQ)
  · have a0 : bN a1 (τ 1) = 0 := bN_01.resolve_right a
    rw [iB_f (fun q => a q.1)] at hQ
    simp only [↓br_pos, ↓br_neg, ↓rF_I, ↓rF_L, ↓rF_R, ↓rF_N, rO_m, rB_m, ↓rI_m, wI_m, ↓rB2_m, ↓rB3_m, wB2_m, wB3_m, ↓rL_m, wL_m, ↓rQ_m, wQ_m, ↓lI_m, pI_m, pL_m, pR_m, sI_m, sBy_m, sBo_m, sL_m, sQ_m, fst_m, true_and, and_true, tg_some, ln_some, uI_1, uI_2, uL_1, uL_2, uL_3, uQ_1, uQ_2, uQ_3, rv_i, rv_l, rv_n, rv_b0, rv_b1, RMR, ne_eq, reduceCtorEq, not_false_eq_true, Option.getD_some, if_true, if_false, and_self, false_and, and_false, Nat.add_left_cancel_iff, Nat.add_eq_left, Nat.left_eq_add, Nat.one_ne_zero, Nat.reduceAdd, Nat.reduceLT, Nat.reduceLeDiff, Nat.reduceEqDiff, true_implies, false_implies, implies_true, Option.some.injEq, forall_eq', forall_eq, reduceCtorEq, brT, brF, br_s, i_10, i_01, ib_0_2, ib_1_2, tn_0, tn_1, Int32.le_refl, eq_self, rv_bN, rv_iM, RCX 0, RCG 2, RCT 4, RCT 15, RCT 25, RCS 35, RCS 49, RCH 63, RCP 67, RCB 72, RCR 77, RCM 81, RLY, lit_at hw, RCT P, hT', hp, g_71 hT hτ.2.2.1 (by omega : τ 1 < 2147483648) hd1, a0]
    exact hQ
/-- can so much be laid so -/
abbrev cbP (τ : Rw) (p l a b t : Int32) : Prop := bN l (τ 0) = 1 ∧ bC τ p a = 1 ∧ bC τ p b = 1 ∧ 1 ≤ t.toInt ∧ t.toInt ≤ 99
theorem cbP_ex {τ : Rw} {p l a b t : Int32} (hv : vTold τ) (h : cbP τ p l a b t) : ∃ p' l' a' b' t' : Nat, p = Int32.ofNat p' ∧ l = Int32.ofNat l' ∧ a = Int32.ofNat a' ∧ b = Int32.ofNat b' ∧ t = Int32.ofNat t' ∧ p' < τ 1 ∧ l' < τ 0 ∧ a' < τ (28 + p') ∧ b' < τ (28 + p') ∧ 1 ≤ t' ∧ t' ≤ 99 := by
  obtain ⟨h1, h2, h3, h4, h5⟩ := h
  obtain ⟨l', rfl, hl⟩ := bN_ex h1
  obtain ⟨p', a', rfl, rfl, hp, ha⟩ := bC_ex hv h2
  obtain ⟨p2, b', e, rfl, hp2, hb⟩ := bC_ex hv h3
  have v1 := hv.2.1
  have e2 : p' = p2 := (of_inj (by omega) (by omega)).mp e
  subst e2
  obtain ⟨t', rfl, ht⟩ := ex_on (a := t) (n := 100) ⟨by omega, by omega⟩
  rw [on_int (by omega)] at h4
  exact ⟨p', l', a', b', t', rfl, rfl, rfl, rfl, rfl, hp, hl, ha, hb, by omega, by omega⟩
theorem g_121 {w : mT} {σ : mS} {P D : Nat} {τ : Rw} {p l a b t : Int32} {K : Int32 → Hp → Prop} (hw : lit w) (hP : P = 15 ∨ P = 25) (hp : σ.2.2 0 3 = some P) (hτ : tTold σ P τ) (hv : vTold τ) (hD : 3 ≤ D) : wpI D 121 [.ref 0, .int p, .int l, .int a, .int b, .int t] (mW w σ) K ↔ K (iB (cbP τ p l a b t)) (mW w σ) := by
  have hT := isTP hw hP
  have hT' := hT
  simp only [isT] at hT'
  refine cI_of (m := 2) (fun d hd Q hQ => ?_) rfl hD
  have hd1 : 1 ≤ d := by omega
  have hd2 : 2 ≤ d := by omega
  refine b121_0 ?_
  have v0 := hv.1
  have base := g_70 (w := w) (a1 := l) (K := fun _ _ => True) hT hτ.2.1 (by omega : τ 0 < 2147483648) hd1
  by_cases h1 : bN l (τ 0) = 1
  · by_cases h2 : bC τ p a = 1
    · by_cases h3 : bC τ p b = 1
      · by_cases h4 : t < 1
        · rw [iB_f (fun q => by rw [i_lt, show (1 : Int32).toInt = 1 by decide] at h4; have := q.2.2.2.1; omega)] at hQ
          simp only [↓br_pos, ↓br_neg, ↓rF_I, ↓rF_L, ↓rF_R, ↓rF_N, rO_m, rB_m, ↓rI_m, wI_m, ↓rB2_m, ↓rB3_m, wB2_m, wB3_m, ↓rL_m, wL_m, ↓rQ_m, wQ_m, ↓lI_m, pI_m, pL_m, pR_m, sI_m, sBy_m, sBo_m, sL_m, sQ_m, fst_m, true_and, and_true, tg_some, ln_some, uI_1, uI_2, uL_1, uL_2, uL_3, uQ_1, uQ_2, uQ_3, rv_i, rv_l, rv_n, rv_b0, rv_b1, RMR, ne_eq, reduceCtorEq, not_false_eq_true, Option.getD_some, if_true, if_false, and_self, false_and, and_false, Nat.add_left_cancel_iff, Nat.add_eq_left, Nat.left_eq_add, Nat.one_ne_zero, Nat.reduceAdd, Nat.reduceLT, Nat.reduceLeDiff, Nat.reduceEqDiff, true_implies, false_implies, implies_true, Option.some.injEq, forall_eq', forall_eq, reduceCtorEq, brT, brF, br_s, i_10, i_01, ib_0_2, ib_1_2, tn_0, tn_1, Int32.le_refl, eq_self, rv_bN, rv_iM, RCX 0, RCG 2, RCT 4, RCT 15, RCT 25, RCS 35, RCS 49, RCH 63, RCP 67, RCB 72, RCR 77, RCM 81, RLY, lit_at hw, RCT P, hT', hp, g_70 hT hτ.2.1 (by omega : τ 0 < 2147483648) hd1, g_72 hT hτ hv hd2, h1, h2, h3, h4]
          exact hQ
        · by_cases h5 : (99 : Int32) < t
          · rw [iB_f (fun q => by rw [i_lt, show (99 : Int32).toInt = 99 by decide] at h5; have := q.2.2.2.2; omega)] at hQ
            simp only [↓br_pos, ↓br_neg, ↓rF_I, ↓rF_L, ↓rF_R, ↓rF_N, rO_m, rB_m, ↓rI_m, wI_m, ↓rB2_m, ↓rB3_m, wB2_m, wB3_m, ↓rL_m, wL_m, ↓rQ_m, wQ_m, ↓lI_m, pI_m, pL_m, pR_m, sI_m, sBy_m, sBo_m, sL_m, sQ_m, fst_m, true_and, and_true, tg_some, ln_some, uI_1, uI_2, uL_1, uL_2, uL_3, uQ_1, uQ_2, uQ_3, rv_i, rv_l, rv_n, rv_b0, rv_b1, RMR, ne_eq, reduceCtorEq, not_false_eq_true, Option.getD_some, if_true, if_false, and_self, false_and, and_false, Nat.add_left_cancel_iff, Nat.add_eq_left, Nat.left_eq_add, Nat.one_ne_zero, Nat.reduceAdd, Nat.reduceLT, Nat.reduceLeDiff, Nat.reduceEqDiff, true_implies, false_implies, implies_true, Option.some.injEq, forall_eq', forall_eq, reduceCtorEq, brT, brF, br_s, i_10, i_01, ib_0_2, ib_1_2, tn_0, tn_1, Int32.le_refl, eq_self, rv_bN, rv_iM, RCX 0, RCG 2, RCT 4, RCT 15, RCT 25, RCS 35, RCS 49, RCH 63, RCP 67, RCB 72, RCR 77, RCM 81, RLY, lit_at hw, RCT P, hT', hp, g_70 hT hτ.2.1 (by omega : τ 0 < 2147483648) hd1, g_72 hT hτ hv hd2, h1, h2, h3, h4, h5]
            exact hQ
          · rw [iB_t ⟨h1, h2, h3, by rw [i_lt, show (1 : Int32).toInt = 1 by decide] at h4; omega, by rw [i_lt, show (99 : Int32).toInt = 99 by decide] at h5; omega⟩] at hQ
            simp only [↓br_pos, ↓br_neg, ↓rF_I, ↓rF_L, ↓rF_R, ↓rF_N, rO_m, rB_m, ↓rI_m, wI_m, ↓rB2_m, ↓rB3_m, wB2_m, wB3_m, ↓rL_m, wL_m, ↓rQ_m, wQ_m, ↓lI_m, pI_m, pL_m, pR_m, sI_m, sBy_m, sBo_m, sL_m, sQ_m, fst_m, true_and, and_true, tg_some, ln_some, uI_1, uI_2, uL_1, uL_2, uL_3, uQ_1, uQ_2, uQ_3, rv_i, rv_l, rv_n, rv_b0, rv_b1, RMR, ne_eq, reduceCtorEq, not_false_eq_true, Option.getD_some, if_true, if_false, and_self, false_and, and_false, Nat.add_left_cancel_iff, Nat.add_eq_left, Nat.left_eq_add, Nat.one_ne_zero, Nat.reduceAdd, Nat.reduceLT, Nat.reduceLeDiff, Nat.reduceEqDiff, true_implies, false_implies, implies_true, Option.some.injEq, forall_eq', forall_eq, reduceCtorEq, brT, brF, br_s, i_10, i_01, ib_0_2, ib_1_2, tn_0, tn_1, Int32.le_refl, eq_self, rv_bN, rv_iM, RCX 0, RCG 2, RCT 4, RCT 15, RCT 25, RCS 35, RCS 49, RCH 63, RCP 67, RCB 72, RCR 77, RCM 81, RLY, lit_at hw, RCT P, hT', hp, g_70 hT hτ.2.1 (by omega : τ 0 < 2147483648) hd1, g_72 hT hτ hv hd2, h1, h2, h3, h4, h5]
            exact hQ
      · have h3' : bC τ p b = 0 := bC_01.resolve_right h3
        rw [iB_f (fun q => h3 q.2.2.1)] at hQ
        simp only [↓br_pos, ↓br_neg, ↓rF_I, ↓rF_L, ↓rF_R, ↓rF_N, rO_m, rB_m, ↓rI_m, wI_m, ↓rB2_m, ↓rB3_m, wB2_m, wB3_m, ↓rL_m, wL_m, ↓rQ_m, wQ_m, ↓lI_m, pI_m, pL_m, pR_m, sI_m, sBy_m, sBo_m, sL_m, sQ_m, fst_m, true_and, and_true, tg_some, ln_some, uI_1, uI_2, uL_1, uL_2, uL_3, uQ_1, uQ_2, uQ_3, rv_i, rv_l, rv_n, rv_b0, rv_b1, RMR, ne_eq, reduceCtorEq, not_false_eq_true, Option.getD_some, if_true, if_false, and_self, false_and, and_false, Nat.add_left_cancel_iff, Nat.add_eq_left, Nat.left_eq_add, Nat.one_ne_zero, Nat.reduceAdd, Nat.reduceLT, Nat.reduceLeDiff, Nat.reduceEqDiff, true_implies, false_implies, implies_true, Option.some.injEq, forall_eq', forall_eq, reduceCtorEq, brT, brF, br_s, i_10, i_01, ib_0_2, ib_1_2, tn_0, tn_1, Int32.le_refl, eq_self, rv_bN, rv_iM, RCX 0, RCG 2, RCT 4, RCT 15, RCT 25, RCS 35, RCS 49, RCH 63, RCP 67, RCB 72, RCR 77, RCM 81, RLY, lit_at hw, RCT P, hT', hp, g_70 hT hτ.2.1 (by omega : τ 0 < 2147483648) hd1, g_72 hT hτ hv hd2, h1, h2, h3']
        exact hQ
    · have h2' : bC τ p a = 0 := bC_01.resolve_right h2
      rw [iB_f (fun q => h2 q.2.1)] at hQ
      simp only [↓br_pos, ↓br_neg, ↓rF_I, ↓rF_L, ↓rF_R, ↓rF_N, rO_m, rB_m, ↓rI_m, wI_m, ↓rB2_m, ↓rB3_m, wB2_m, wB3_m, ↓rL_m, wL_m, ↓rQ_m, wQ_m, ↓lI_m, pI_m, pL_m, pR_m, sI_m, sBy_m, sBo_m, sL_m, sQ_m, fst_m, true_and, and_true, tg_some, ln_some, uI_1, uI_2, uL_1, uL_2, uL_3, uQ_1, uQ_2, uQ_3, rv_i, rv_l, rv_n, rv_b0, rv_b1, RMR, ne_eq, reduceCtorEq, not_false_eq_true, Option.getD_some, if_true, if_false, and_self, false_and, and_false, Nat.add_left_cancel_iff, Nat.add_eq_left, Nat.left_eq_add, Nat.one_ne_zero, Nat.reduceAdd, Nat.reduceLT, Nat.reduceLeDiff, Nat.reduceEqDiff, true_implies, false_implies, implies_true, Option.some.injEq, forall_eq', forall_eq, reduceCtorEq, brT, brF, br_s, i_10, i_01, ib_0_2, ib_1_2, tn_0, tn_1, Int32.le_refl, eq_self, rv_bN, rv_iM, RCX 0, RCG 2, RCT 4, RCT 15, RCT 25, RCS 35, RCS 49, RCH 63, RCP 67, RCB 72, RCR 77, RCM 81, RLY, lit_at hw, RCT P, hT', hp, g_70 hT hτ.2.1 (by omega : τ 0 < 2147483648) hd1, g_72 hT hτ hv hd2, h1, h2']
      exact hQ
  · have h1' : bN l (τ 0) = 0 := bN_01.resolve_right h1
    rw [iB_f (fun q => h1 q.1)] at hQ
    simp only [↓br_pos, ↓br_neg, ↓rF_I, ↓rF_L, ↓rF_R, ↓rF_N, rO_m, rB_m, ↓rI_m, wI_m, ↓rB2_m, ↓rB3_m, wB2_m, wB3_m, ↓rL_m, wL_m, ↓rQ_m, wQ_m, ↓lI_m, pI_m, pL_m, pR_m, sI_m, sBy_m, sBo_m, sL_m, sQ_m, fst_m, true_and, and_true, tg_some, ln_some, uI_1, uI_2, uL_1, uL_2, uL_3, uQ_1, uQ_2, uQ_3, rv_i, rv_l, rv_n, rv_b0, rv_b1, RMR, ne_eq, reduceCtorEq, not_false_eq_true, Option.getD_some, if_true, if_false, and_self, false_and, and_false, Nat.add_left_cancel_iff, Nat.add_eq_left, Nat.left_eq_add, Nat.one_ne_zero, Nat.reduceAdd, Nat.reduceLT, Nat.reduceLeDiff, Nat.reduceEqDiff, true_implies, false_implies, implies_true, Option.some.injEq, forall_eq', forall_eq, reduceCtorEq, brT, brF, br_s, i_10, i_01, ib_0_2, ib_1_2, tn_0, tn_1, Int32.le_refl, eq_self, rv_bN, rv_iM, RCX 0, RCG 2, RCT 4, RCT 15, RCT 25, RCS 35, RCS 49, RCH 63, RCP 67, RCB 72, RCR 77, RCM 81, RLY, lit_at hw, RCT P, hT', hp, g_70 hT hτ.2.1 (by omega : τ 0 < 2147483648) hd1, h1']
    exact hQ
/-- days late -/
def lateD (τ ρ : Rw) (s : Nat) : Nat := (if ρ (43 + s) = 0 then ρ 0 else ρ (43 + s) - 1) - τ (31 + 6 * s + 3)
theorem max_of {a b : Nat} (ha : a < 2147483648) (hb : b < 2147483648) : (if (0 : Int32) < Int32.ofNat a - Int32.ofNat b then Int32.ofNat a - Int32.ofNat b else 0) = Int32.ofNat (a - b) := by
  by_cases h : b < a
  · rw [of_sub (by omega), if_pos ((of_pos (by omega)).mpr (by omega))]
  · have e : Int32.ofNat a - Int32.ofNat b = - Int32.ofNat (b - a) := by rw [← of_sub (by omega : a ≤ b), Int32.neg_sub]
    rw [e]
    have n : ¬ (0 : Int32) < - Int32.ofNat (b - a) := by
      rw [i_lt, Int32.toInt_neg, on_int (by omega), show (0 : Int32).toInt = 0 by decide, Int.bmod_eq_of_le (by omega) (by omega)]
      omega
    rw [if_neg n, show a - b = 0 by omega]; rfl
theorem g_125 {w : mT} {σ : mS} {P s D : Nat} {τ ρ : Rw} {K : Int32 → Hp → Prop} (hw : lit w) (hP : P = 15 ∨ P = 25) (hp : σ.2.2 0 3 = some P) (hτ : tTold σ P τ) (hv : vTold τ) (hρ : tSt σ 35 τ ρ) (h : vRow τ ρ) (hs : s < τ 2) (hD : 1 ≤ D) : wpI D 125 [.ref 0, .int (Int32.ofNat s)] (mW w σ) K ↔ K (Int32.ofNat (lateD τ ρ s)) (mW w σ) := by
  have hT' := isTP hw hP
  simp only [isT] at hT'
  refine cI_of (m := 0) (fun d hd Q hQ => ?_) rfl hD
  refine b125_0 ?_
  have v2 := hv.2.2.1
  have eb : inB (Int32.ofNat s) 8 = true := on_inB (by omega) (by omega)
  have en := on_nat (i := s) (by omega)
  have e1 : σ.1 42 s = Int32.ofNat (ρ (43 + s)) - 1 := tS_sa hρ hs
  have e2 : σ.1 35 0 = Int32.ofNat (ρ 0) := tS_d hρ
  have e3 := (hτ.2.2.2.2.2.2 s hs).2.2.2.1
  have b1 := vR_sa h s hs
  have b2 := vR_day h
  have b3 := (hv.2.2.2.2.2.2 s hs).2.2.2.1
  by_cases a : ρ (43 + s) = 0
  · have e1' : σ.1 42 s = -1 := by rw [e1, a]; decide
    have ev : lateD τ ρ s = ρ 0 - τ (31 + 6 * s + 3) := by unfold lateD; rw [if_pos a]
    have em := max_of (a := ρ 0) (b := τ (31 + 6 * s + 3)) (by omega) (by omega)
    rw [ev, ← em] at hQ
    simp only [↓br_pos, ↓br_neg, ↓rF_I, ↓rF_L, ↓rF_R, ↓rF_N, rO_m, rB_m, ↓rI_m, wI_m, ↓rB2_m, ↓rB3_m, wB2_m, wB3_m, ↓rL_m, wL_m, ↓rQ_m, wQ_m, ↓lI_m, pI_m, pL_m, pR_m, sI_m, sBy_m, sBo_m, sL_m, sQ_m, fst_m, true_and, and_true, tg_some, ln_some, uI_1, uI_2, uL_1, uL_2, uL_3, uQ_1, uQ_2, uQ_3, rv_i, rv_l, rv_n, rv_b0, rv_b1, RMR, ne_eq, reduceCtorEq, not_false_eq_true, Option.getD_some, if_true, if_false, and_self, false_and, and_false, Nat.add_left_cancel_iff, Nat.add_eq_left, Nat.left_eq_add, Nat.one_ne_zero, Nat.reduceAdd, Nat.reduceLT, Nat.reduceLeDiff, Nat.reduceEqDiff, true_implies, false_implies, implies_true, Option.some.injEq, forall_eq', forall_eq, reduceCtorEq, brT, brF, br_s, i_10, i_01, ib_0_2, ib_1_2, tn_0, tn_1, Int32.le_refl, eq_self, rv_bN, rv_iM, RCX 0, RCG 2, RCT 4, RCT 15, RCT 25, RCS 35, RCS 49, RCH 63, RCP 67, RCB 72, RCR 77, RCM 81, RLY, lit_at hw, RCT P, hT', hp, eb, en, e1', e2, e3]
    exact hQ
  · have e1' : σ.1 42 s = Int32.ofNat (ρ (43 + s) - 1) := by rw [e1, st_m1 a]
    have n1 := on_m1 (a := ρ (43 + s) - 1) (by omega)
    have ev : lateD τ ρ s = ρ (43 + s) - 1 - τ (31 + 6 * s + 3) := by unfold lateD; rw [if_neg a]
    have em := max_of (a := ρ (43 + s) - 1) (b := τ (31 + 6 * s + 3)) (by omega) (by omega)
    rw [ev, ← em] at hQ
    simp only [↓br_pos, ↓br_neg, ↓rF_I, ↓rF_L, ↓rF_R, ↓rF_N, rO_m, rB_m, ↓rI_m, wI_m, ↓rB2_m, ↓rB3_m, wB2_m, wB3_m, ↓rL_m, wL_m, ↓rQ_m, wQ_m, ↓lI_m, pI_m, pL_m, pR_m, sI_m, sBy_m, sBo_m, sL_m, sQ_m, fst_m, true_and, and_true, tg_some, ln_some, uI_1, uI_2, uL_1, uL_2, uL_3, uQ_1, uQ_2, uQ_3, rv_i, rv_l, rv_n, rv_b0, rv_b1, RMR, ne_eq, reduceCtorEq, not_false_eq_true, Option.getD_some, if_true, if_false, and_self, false_and, and_false, Nat.add_left_cancel_iff, Nat.add_eq_left, Nat.left_eq_add, Nat.one_ne_zero, Nat.reduceAdd, Nat.reduceLT, Nat.reduceLeDiff, Nat.reduceEqDiff, true_implies, false_implies, implies_true, Option.some.injEq, forall_eq', forall_eq, reduceCtorEq, brT, brF, br_s, i_10, i_01, ib_0_2, ib_1_2, tn_0, tn_1, Int32.le_refl, eq_self, rv_bN, rv_iM, RCX 0, RCG 2, RCT 4, RCT 15, RCT 25, RCS 35, RCS 49, RCH 63, RCP 67, RCB 72, RCR 77, RCM 81, RLY, lit_at hw, RCT P, hT', hp, eb, en, e1', n1, e3]
    exact hQ
theorem late_lt {τ ρ : Rw} {s : Nat} (h : vRow τ ρ) (hs : s < τ 2) : lateD τ ρ s ≤ 999 := by
  have b1 := vR_sa h s hs
  have b2 := vR_day h
  unfold lateD; split <;> omega
/-- how many sailed, how many are late -/
def sailN (τ ρ : Rw) : Nat := sm (τ 2) (fun s => if ρ (43 + s) = 0 then 0 else 1)
def lateN (τ ρ : Rw) : Nat := sm (τ 2) (fun s => if lateD τ ρ s = 0 then 0 else 1)
theorem lp_123 {w : mT} {σ : mS} {P d : Nat} {τ ρ : Rw} {Q : Option (Option Value) → Hp → Prop} (hw : lit w) (hP : P = 15 ∨ P = 25) (hp : σ.2.2 0 3 = some P) (hτ : tTold σ P τ) (hv : vTold τ) (hρ : tSt σ 35 τ ρ) (h : vRow τ ρ) (hQ : Q (some (some (.int (Int32.ofNat (sailN τ ρ))))) (mW w σ)) : ∀ k i : Nat, i + k = τ 2 → Wp 123 4 [.ref 0, .int (Int32.ofNat (sm i (fun s => if ρ (43 + s) = 0 then 0 else 1))), .int (Int32.ofNat i)] [] (mW w σ) Q d := by
  have hT' := isTP hw hP
  simp only [isT] at hT'
  have v2 := hv.2.2.1
  have e4 := hτ.2.2.2.1
  intro k
  induction k with
  | zero =>
    intro i hi
    have hi' : i = τ 2 := by omega
    subst hi'
    refine b123_4 ?_
    simp only [↓br_pos, ↓br_neg, ↓rF_I, ↓rF_L, ↓rF_R, ↓rF_N, rO_m, rB_m, ↓rI_m, wI_m, ↓rB2_m, ↓rB3_m, wB2_m, wB3_m, ↓rL_m, wL_m, ↓rQ_m, wQ_m, ↓lI_m, pI_m, pL_m, pR_m, sI_m, sBy_m, sBo_m, sL_m, sQ_m, fst_m, true_and, and_true, tg_some, ln_some, uI_1, uI_2, uL_1, uL_2, uL_3, uQ_1, uQ_2, uQ_3, rv_i, rv_l, rv_n, rv_b0, rv_b1, RMR, ne_eq, reduceCtorEq, not_false_eq_true, Option.getD_some, if_true, if_false, and_self, false_and, and_false, Nat.add_left_cancel_iff, Nat.add_eq_left, Nat.left_eq_add, Nat.one_ne_zero, Nat.reduceAdd, Nat.reduceLT, Nat.reduceLeDiff, Nat.reduceEqDiff, true_implies, false_implies, implies_true, Option.some.injEq, forall_eq', forall_eq, reduceCtorEq, brT, brF, br_s, i_10, i_01, ib_0_2, ib_1_2, tn_0, tn_1, Int32.le_refl, eq_self, rv_bN, rv_iM, RCX 0, RCG 2, RCT 4, RCT 15, RCT 25, RCS 35, RCS 49, RCH 63, RCP 67, RCB 72, RCR 77, RCM 81, RLY, lit_at hw, RCT P, hT', hp, e4, Int32.le_refl]
    exact hQ
  | succ k ih =>
    intro i hi
    have hs : i < τ 2 := by omega
    have l1 : (Int32.ofNat (τ 2) ≤ Int32.ofNat i) ↔ False := iff_false_intro (fun q => absurd ((on_le (by omega) (by omega)).mp q) (by omega))
    have eb : inB (Int32.ofNat i) 8 = true := on_inB (by omega) (by omega)
    have en := on_nat (i := i) (by omega)
    have e1 : σ.1 42 i = Int32.ofNat (ρ (43 + i)) - 1 := tS_sa hρ hs
    have b1 := vR_sa h i hs
    have es : sm (i + 1) (fun s => if ρ (43 + s) = 0 then 0 else 1) = sm i (fun s => if ρ (43 + s) = 0 then 0 else 1) + (if ρ (43 + i) = 0 then 0 else 1) := rfl
    have nx := ih (i + 1) (by omega)
    rw [es] at nx
    refine b123_4 ?_
    by_cases a : ρ (43 + i) = 0
    · have e1' : σ.1 42 i = -1 := by rw [e1, a]; decide
      rw [if_pos a] at nx
      have a0 : Int32.ofNat (sm i (fun s => if ρ (43 + s) = 0 then 0 else 1)) + 0 = Int32.ofNat (sm i (fun s => if ρ (43 + s) = 0 then 0 else 1) + 0) := of_add
      simp only [↓br_pos, ↓br_neg, ↓rF_I, ↓rF_L, ↓rF_R, ↓rF_N, rO_m, rB_m, ↓rI_m, wI_m, ↓rB2_m, ↓rB3_m, wB2_m, wB3_m, ↓rL_m, wL_m, ↓rQ_m, wQ_m, ↓lI_m, pI_m, pL_m, pR_m, sI_m, sBy_m, sBo_m, sL_m, sQ_m, fst_m, true_and, and_true, tg_some, ln_some, uI_1, uI_2, uL_1, uL_2, uL_3, uQ_1, uQ_2, uQ_3, rv_i, rv_l, rv_n, rv_b0, rv_b1, RMR, ne_eq, reduceCtorEq, not_false_eq_true, Option.getD_some, if_true, if_false, and_self, false_and, and_false, Nat.add_left_cancel_iff, Nat.add_eq_left, Nat.left_eq_add, Nat.one_ne_zero, Nat.reduceAdd, Nat.reduceLT, Nat.reduceLeDiff, Nat.reduceEqDiff, true_implies, false_implies, implies_true, Option.some.injEq, forall_eq', forall_eq, reduceCtorEq, brT, brF, br_s, i_10, i_01, ib_0_2, ib_1_2, tn_0, tn_1, Int32.le_refl, eq_self, rv_bN, rv_iM, RCX 0, RCG 2, RCT 4, RCT 15, RCT 25, RCS 35, RCS 49, RCH 63, RCP 67, RCB 72, RCR 77, RCM 81, RLY, lit_at hw, RCT P, hT', hp, e4, l1, eb, en, e1', on_succ, a0]
      exact nx
    · have e1' : σ.1 42 i = Int32.ofNat (ρ (43 + i) - 1) := by rw [e1, st_m1 a]
      have n1 := on_m1 (a := ρ (43 + i) - 1) (by omega)
      rw [if_neg a] at nx
      simp only [↓br_pos, ↓br_neg, ↓rF_I, ↓rF_L, ↓rF_R, ↓rF_N, rO_m, rB_m, ↓rI_m, wI_m, ↓rB2_m, ↓rB3_m, wB2_m, wB3_m, ↓rL_m, wL_m, ↓rQ_m, wQ_m, ↓lI_m, pI_m, pL_m, pR_m, sI_m, sBy_m, sBo_m, sL_m, sQ_m, fst_m, true_and, and_true, tg_some, ln_some, uI_1, uI_2, uL_1, uL_2, uL_3, uQ_1, uQ_2, uQ_3, rv_i, rv_l, rv_n, rv_b0, rv_b1, RMR, ne_eq, reduceCtorEq, not_false_eq_true, Option.getD_some, if_true, if_false, and_self, false_and, and_false, Nat.add_left_cancel_iff, Nat.add_eq_left, Nat.left_eq_add, Nat.one_ne_zero, Nat.reduceAdd, Nat.reduceLT, Nat.reduceLeDiff, Nat.reduceEqDiff, true_implies, false_implies, implies_true, Option.some.injEq, forall_eq', forall_eq, reduceCtorEq, brT, brF, br_s, i_10, i_01, ib_0_2, ib_1_2, tn_0, tn_1, Int32.le_refl, eq_self, rv_bN, rv_iM, RCX 0, RCG 2, RCT 4, RCT 15, RCT 25, RCS 35, RCS 49, RCH 63, RCP 67, RCB 72, RCR 77, RCM 81, RLY, lit_at hw, RCT P, hT', hp, e4, l1, eb, en, e1', n1, on_succ]
      exact nx
theorem g_123 {w : mT} {σ : mS} {P D : Nat} {τ ρ : Rw} {K : Int32 → Hp → Prop} (hw : lit w) (hP : P = 15 ∨ P = 25) (hp : σ.2.2 0 3 = some P) (hτ : tTold σ P τ) (hv : vTold τ) (hρ : tSt σ 35 τ ρ) (h : vRow τ ρ) (hD : 1 ≤ D) : wpI D 123 [.ref 0] (mW w σ) K ↔ K (Int32.ofNat (sailN τ ρ)) (mW w σ) :=
  cI_of (m := 0) (fun d hd Q hQ => b123_0 (lp_123 hw hP hp hτ hv hρ h hQ (τ 2) 0 (Nat.zero_add _))) rfl hD
theorem lp_124 {w : mT} {σ : mS} {P d : Nat} {τ ρ : Rw} {Q : Option (Option Value) → Hp → Prop} (hw : lit w) (hP : P = 15 ∨ P = 25) (hp : σ.2.2 0 3 = some P) (hτ : tTold σ P τ) (hv : vTold τ) (hρ : tSt σ 35 τ ρ) (h : vRow τ ρ) (hd : 1 ≤ d) (hQ : Q (some (some (.int (Int32.ofNat (lateN τ ρ))))) (mW w σ)) : ∀ k i : Nat, i + k = τ 2 → Wp 124 4 [.ref 0, .int (Int32.ofNat (sm i (fun s => if lateD τ ρ s = 0 then 0 else 1))), .int (Int32.ofNat i)] [] (mW w σ) Q d := by
  have hT' := isTP hw hP
  simp only [isT] at hT'
  have v2 := hv.2.2.1
  have e4 := hτ.2.2.2.1
  intro k
  induction k with
  | zero =>
    intro i hi
    have hi' : i = τ 2 := by omega
    subst hi'
    refine b124_4 ?_
    simp only [↓br_pos, ↓br_neg, ↓rF_I, ↓rF_L, ↓rF_R, ↓rF_N, rO_m, rB_m, ↓rI_m, wI_m, ↓rB2_m, ↓rB3_m, wB2_m, wB3_m, ↓rL_m, wL_m, ↓rQ_m, wQ_m, ↓lI_m, pI_m, pL_m, pR_m, sI_m, sBy_m, sBo_m, sL_m, sQ_m, fst_m, true_and, and_true, tg_some, ln_some, uI_1, uI_2, uL_1, uL_2, uL_3, uQ_1, uQ_2, uQ_3, rv_i, rv_l, rv_n, rv_b0, rv_b1, RMR, ne_eq, reduceCtorEq, not_false_eq_true, Option.getD_some, if_true, if_false, and_self, false_and, and_false, Nat.add_left_cancel_iff, Nat.add_eq_left, Nat.left_eq_add, Nat.one_ne_zero, Nat.reduceAdd, Nat.reduceLT, Nat.reduceLeDiff, Nat.reduceEqDiff, true_implies, false_implies, implies_true, Option.some.injEq, forall_eq', forall_eq, reduceCtorEq, brT, brF, br_s, i_10, i_01, ib_0_2, ib_1_2, tn_0, tn_1, Int32.le_refl, eq_self, rv_bN, rv_iM, RCX 0, RCG 2, RCT 4, RCT 15, RCT 25, RCS 35, RCS 49, RCH 63, RCP 67, RCB 72, RCR 77, RCM 81, RLY, lit_at hw, RCT P, hT', hp, e4, Int32.le_refl]
    exact hQ
  | succ k ih =>
    intro i hi
    have hs : i < τ 2 := by omega
    have l1 : (Int32.ofNat (τ 2) ≤ Int32.ofNat i) ↔ False := iff_false_intro (fun q => absurd ((on_le (by omega) (by omega)).mp q) (by omega))
    have ll := late_lt h hs
    have l0 := of_le0 (a := lateD τ ρ i) (by omega)
    have es : sm (i + 1) (fun s => if lateD τ ρ s = 0 then 0 else 1) = sm i (fun s => if lateD τ ρ s = 0 then 0 else 1) + (if lateD τ ρ i = 0 then 0 else 1) := rfl
    have nx := ih (i + 1) (by omega)
    rw [es] at nx
    refine b124_4 ?_
    by_cases a : lateD τ ρ i = 0
    · rw [if_pos a] at nx
      have l0' : (Int32.ofNat (lateD τ ρ i) ≤ 0) ↔ True := iff_true_intro (l0.mpr a)
      have a0 : Int32.ofNat (sm i (fun s => if lateD τ ρ s = 0 then 0 else 1)) + 0 = Int32.ofNat (sm i (fun s => if lateD τ ρ s = 0 then 0 else 1) + 0) := of_add
      simp only [↓br_pos, ↓br_neg, ↓rF_I, ↓rF_L, ↓rF_R, ↓rF_N, rO_m, rB_m, ↓rI_m, wI_m, ↓rB2_m, ↓rB3_m, wB2_m, wB3_m, ↓rL_m, wL_m, ↓rQ_m, wQ_m, ↓lI_m, pI_m, pL_m, pR_m, sI_m, sBy_m, sBo_m, sL_m, sQ_m, fst_m, true_and, and_true, tg_some, ln_some, uI_1, uI_2, uL_1, uL_2, uL_3, uQ_1, uQ_2, uQ_3, rv_i, rv_l, rv_n, rv_b0, rv_b1, RMR, ne_eq, reduceCtorEq, not_false_eq_true, Option.getD_some, if_true, if_false, and_self, false_and, and_false, Nat.add_left_cancel_iff, Nat.add_eq_left, Nat.left_eq_add, Nat.one_ne_zero, Nat.reduceAdd, Nat.reduceLT, Nat.reduceLeDiff, Nat.reduceEqDiff, true_implies, false_implies, implies_true, Option.some.injEq, forall_eq', forall_eq, reduceCtorEq, brT, brF, br_s, i_10, i_01, ib_0_2, ib_1_2, tn_0, tn_1, Int32.le_refl, eq_self, rv_bN, rv_iM, RCX 0, RCG 2, RCT 4, RCT 15, RCT 25, RCS 35, RCS 49, RCH 63, RCP 67, RCB 72, RCR 77, RCM 81, RLY, lit_at hw, RCT P, hT', hp, e4, l1, g_125 hw hP hp hτ hv hρ h hs hd, l0', on_succ, a0]
      exact nx
    · rw [if_neg a] at nx
      have l0' : (Int32.ofNat (lateD τ ρ i) ≤ 0) ↔ False := iff_false_intro (fun q => a (l0.mp q))
      simp only [↓br_pos, ↓br_neg, ↓rF_I, ↓rF_L, ↓rF_R, ↓rF_N, rO_m, rB_m, ↓rI_m, wI_m, ↓rB2_m, ↓rB3_m, wB2_m, wB3_m, ↓rL_m, wL_m, ↓rQ_m, wQ_m, ↓lI_m, pI_m, pL_m, pR_m, sI_m, sBy_m, sBo_m, sL_m, sQ_m, fst_m, true_and, and_true, tg_some, ln_some, uI_1, uI_2, uL_1, uL_2, uL_3, uQ_1, uQ_2, uQ_3, rv_i, rv_l, rv_n, rv_b0, rv_b1, RMR, ne_eq, reduceCtorEq, not_false_eq_true, Option.getD_some, if_true, if_false, and_self, false_and, and_false, Nat.add_left_cancel_iff, Nat.add_eq_left, Nat.left_eq_add, Nat.one_ne_zero, Nat.reduceAdd, Nat.reduceLT, Nat.reduceLeDiff, Nat.reduceEqDiff, true_implies, false_implies, implies_true, Option.some.injEq, forall_eq', forall_eq, reduceCtorEq, brT, brF, br_s, i_10, i_01, ib_0_2, ib_1_2, tn_0, tn_1, Int32.le_refl, eq_self, rv_bN, rv_iM, RCX 0, RCG 2, RCT 4, RCT 15, RCT 25, RCS 35, RCS 49, RCH 63, RCP 67, RCB 72, RCR 77, RCM 81, RLY, lit_at hw, RCT P, hT', hp, e4, l1, g_125 hw hP hp hτ hv hρ h hs hd, l0', on_succ]
      exact nx
theorem g_124 {w : mT} {σ : mS} {P D : Nat} {τ ρ : Rw} {K : Int32 → Hp → Prop} (hw : lit w) (hP : P = 15 ∨ P = 25) (hp : σ.2.2 0 3 = some P) (hτ : tTold σ P τ) (hv : vTold τ) (hρ : tSt σ 35 τ ρ) (h : vRow τ ρ) (hD : 2 ≤ D) : wpI D 124 [.ref 0] (mW w σ) K ↔ K (Int32.ofNat (lateN τ ρ)) (mW w σ) :=
  cI_of (m := 1) (fun d hd Q hQ => b124_0 (lp_124 hw hP hp hτ hv hρ h hd hQ (τ 2) 0 (Nat.zero_add _))) rfl hD
