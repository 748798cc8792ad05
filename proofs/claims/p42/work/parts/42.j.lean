section
/-! the class's Reader reads a TEXT; text -/
def frY (p : Nat) (σ σ' : mS) : Prop := (∀ a, a ≠ 2 → a ≠ 14 → (a < p ∨ p + 10 ≤ a) → σ'.1 a = σ.1 a) ∧ σ'.2.1 = σ.2.1 ∧ ∀ a, a ≠ 2 → σ'.2.2 a = σ.2.2 a
theorem frY_X {p : Nat} {σ σ' σ'' : mS} (h : frY p σ σ') (h' : frX p σ' σ'') : frY p σ σ'' := ⟨fun a h1 h2 h3 => (h'.1 a h1 h2 h3).trans (h.1 a h1 h2 h3), by rw [h'.2]; exact h.2.1, fun a ha => by rw [h'.2]; exact h.2.2 a ha⟩
theorem frX_c {p : Nat} {σ σ' : mS} (h : frR 2 3 σ σ') : frX p σ σ' := frX_R h
theorem isT15 {w : mT} (hw : lit w) : isT w 15 := by
  unfold isT
  simp only [Nat.reduceAdd, Nat.reduceLT, RLY, lit_at hw, and_self]
theorem isT25 {w : mT} (hw : lit w) : isT w 25 := by
  unfold isT
  simp only [Nat.reduceAdd, Nat.reduceLT, RLY, lit_at hw, and_self]
theorem vT_00 : vTold τ00 := ⟨by decide, by decide, by decide, by decide, fun l hl => absurd hl (Nat.not_lt_zero _), fun p hp => absurd hp (Nat.not_lt_zero _), fun s hs => absurd hs (Nat.not_lt_zero _)⟩
def st27_15 (σ : mS) (n : Nat) : mS := uI (uI (uI (uI (uI (uI (uQ (uI (uI (uI (uI (uQ σ 2 0 (some 1)) 2 1 (Int32.ofNat n)) 2 3 0) 2 5 0) 2 6 0) 2 7 (some 15)) 2 9 0) 15 0 0) 15 1 1) 15 2 0) 15 3 0) 15 4 0
theorem fr27_15 {σ : mS} {n : Nat} : frY 15 σ (st27_15 σ n) := by
  refine ⟨fun a h2 h14 h3 => funext fun j => ?_, rfl, fun a ha => funext fun j => ?_⟩
  · unfold st27_15
    rw [uI_1, if_neg (by omega), uI_1, if_neg (by omega), uI_1, if_neg (by omega), uI_1, if_neg (by omega), uI_1, if_neg (by omega), uI_1, if_neg (by omega), uQ_1, uI_1, if_neg (by omega), uI_1, if_neg (by omega), uI_1, if_neg (by omega), uI_1, if_neg (by omega), uQ_1]
  · show (uQ (uI (uI (uI (uI (uQ σ 2 0 (some 1)) 2 1 (Int32.ofNat n)) 2 3 0) 2 5 0) 2 6 0) 2 7 (some 15)).2.2 a j = _
    rw [uQ_3, if_neg (fun q => ha q.1)]
    show (uQ σ 2 0 (some 1)).2.2 a j = _
    rw [uQ_3, if_neg (fun q => ha q.1)]
theorem g_27_15 {w : mT} {σ : mS} {t : Nat → Nat} {n : Nat} (hw : lit w) (ht : ∀ i, t i < 256) (htp : ∀ i, i < 600 → σ.1 1 i = Int32.ofNat (t i)) (hn : n ≤ 600) : ∃ σ', frY 15 σ σ' ∧ ((rAll t n).1 = 0 → tTold σ' 15 (rAll t n).2.1 ∧ vTold (rAll t n).2.1 ∧ σ'.1 15 0 = Int32.ofNat (rAll t n).2.2) ∧ (rAll t n).1 < 5000 ∧ ∀ {D : Nat} {K : Int32 → Hp → Prop}, 7 ≤ D → (wpI D 27 [.ref 2, .ref 1, .int (Int32.ofNat n), .ref 15] (mW w σ) K ↔ K (Int32.ofNat (rAll t n).1) (mW w σ')) := by
  have e := fr27_15 (σ := σ) (n := n)
  have c1 : (st27_15 σ n).1 2 1 = Int32.ofNat n := by unfold st27_15; simp only [uI_1, uQ_1, Nat.reduceEqDiff, false_and, and_false, and_self, if_false, if_true]
  have c3 : (st27_15 σ n).1 2 3 = 0 := by unfold st27_15; simp only [uI_1, uQ_1, Nat.reduceEqDiff, false_and, and_false, and_self, if_false, if_true]
  have c5 : (st27_15 σ n).1 2 5 = 0 := by unfold st27_15; simp only [uI_1, uQ_1, Nat.reduceEqDiff, false_and, and_false, and_self, if_false, if_true]
  have c6 : (st27_15 σ n).1 2 6 = 0 := by unfold st27_15; simp only [uI_1, uQ_1, Nat.reduceEqDiff, false_and, and_false, and_self, if_false, if_true]
  have c9 : (st27_15 σ n).1 2 9 = 0 := by unfold st27_15; simp only [uI_1, uQ_1, Nat.reduceEqDiff, false_and, and_false, and_self, if_false, if_true]
  have d0 : (st27_15 σ n).1 15 0 = 0 := by unfold st27_15; rw [uI_1, if_neg (by omega), uI_1, if_neg (by omega), uI_1, if_neg (by omega), uI_1, if_neg (by omega), uI_1, if_pos ⟨rfl, rfl⟩]
  have d1 : (st27_15 σ n).1 15 1 = 1 := by unfold st27_15; rw [uI_1, if_neg (by omega), uI_1, if_neg (by omega), uI_1, if_neg (by omega), uI_1, if_pos ⟨rfl, rfl⟩]
  have d2 : (st27_15 σ n).1 15 2 = 0 := by unfold st27_15; rw [uI_1, if_neg (by omega), uI_1, if_neg (by omega), uI_1, if_pos ⟨rfl, rfl⟩]
  have d3 : (st27_15 σ n).1 15 3 = 0 := by unfold st27_15; rw [uI_1, if_neg (by omega), uI_1, if_pos ⟨rfl, rfl⟩]
  have d4 : (st27_15 σ n).1 15 4 = 0 := by unfold st27_15; rw [uI_1, if_pos ⟨rfl, rfl⟩]
  have b0 : (st27_15 σ n).2.2 2 0 = some 1 := by
    show (uQ (uI (uI (uI (uI (uQ σ 2 0 (some 1)) 2 1 (Int32.ofNat n)) 2 3 0) 2 5 0) 2 6 0) 2 7 (some 15)).2.2 2 0 = _
    rw [uQ_3, if_neg (by omega)]
    show (uQ σ 2 0 (some 1)).2.2 2 0 = _
    rw [uQ_3, if_pos ⟨rfl, rfl⟩]
  have b7 : (st27_15 σ n).2.2 2 7 = some 15 := by
    show (uQ (uI (uI (uI (uI (uQ σ 2 0 (some 1)) 2 1 (Int32.ofNat n)) 2 3 0) 2 5 0) 2 6 0) 2 7 (some 15)).2.2 2 7 = _
    rw [uQ_3, if_pos ⟨rfl, rfl⟩]
  have hB : tBy (st27_15 σ n) t := ⟨b0, fun i hi => by rw [e.1 1 (by omega) (by omega) (by omega)]; exact htp i hi⟩
  obtain ⟨σ1, f1, t1, e1⟩ := g_39w (g := g00) hw ht hB c1 c3 c5 c6 c9 (Nat.zero_le _) hn
  have vg1 := vG_w (t := t) (n := n) (g := g00) (Nat.zero_le _) hn
  have T1 : tTold σ1 15 τ00 := by
    have r : ∀ a, 15 ≤ a → a < 25 → σ1.1 a = (st27_15 σ n).1 a := fun a h1 h2 => f1.1 a (by omega)
    refine ⟨by rw [r 15 (by omega) (by omega)]; exact d1, by rw [r 15 (by omega) (by omega)]; exact d2, by rw [r 15 (by omega) (by omega)]; exact d3, by rw [r 15 (by omega) (by omega)]; exact d4, fun l hl => absurd hl (Nat.not_lt_zero _), fun p hp => absurd hp (Nat.not_lt_zero _), fun s hs => absurd hs (Nat.not_lt_zero _)⟩
  have S1 : rS σ1 t n 15 (adv t n g00) (fun _ => 0) τ00 := ⟨t1, fun i hi => absurd hi (by rw [adv_g (by omega)]; show ¬ i < 0; omega), T1, by rw [f1.2]; exact b7⟩
  have V1 : rV n (adv t n g00) τ00 := ⟨vg1, by rw [adv_g (by omega)]; rfl, vT_00, by rw [adv_g (by omega)]; rfl⟩
  obtain ⟨σ2, x2, z2, lt2, e2⟩ := lp_27_15 (n := n) (x := Int32.ofNat n) hw ht 600 0 σ1 (adv t n g00) τ00 (fun _ => 0) 0 rfl S1 V1 (by rw [adv_g (by omega)]; exact Nat.zero_le _) (by rw [f1.1 15 (by omega)]; exact d0)
  refine ⟨σ2, frY_X (frY_X e (frX_R f1)) x2, z2, lt2, fun hD => cI_of (m := 6) (fun d hd Q hQ => ?_) rfl hD⟩
  have hd1 : 1 ≤ d := by omega
  have hd2 : 2 ≤ d := by omega
  have hd3 : 3 ≤ d := by omega
  have hd4 : 4 ≤ d := by omega
  have hd5 : 5 ≤ d := by omega
  have hd6 : 6 ≤ d := by omega
  have hm : (if Int32.ofNat 600 < Int32.ofNat n then Int32.ofNat 600 else Int32.ofNat n) = Int32.ofNat n := by
    rw [min_of (by omega) (by omega)]; congr 1; omega
  unfold st27_15 at e1
  refine b27_0 ?_
  simp only [↓br_pos, ↓br_neg, ↓rF_I, ↓rF_L, ↓rF_R, ↓rF_N, rO_m, rB_m, ↓rI_m, wI_m, ↓rB2_m, ↓rB3_m, wB2_m, wB3_m, ↓rL_m, wL_m, ↓rQ_m, wQ_m, ↓lI_m, pI_m, pL_m, pR_m, sI_m, sBy_m, sBo_m, sL_m, sQ_m, fst_m, true_and, and_true, tg_some, ln_some, uI_1, uI_2, uL_1, uL_2, uL_3, uQ_1, uQ_2, uQ_3, rv_i, rv_l, rv_n, rv_b0, rv_b1, RMR, ne_eq, reduceCtorEq, not_false_eq_true, Option.getD_some, if_true, if_false, and_self, false_and, and_false, Nat.add_left_cancel_iff, Nat.add_eq_left, Nat.left_eq_add, Nat.one_ne_zero, Nat.reduceAdd, Nat.reduceLT, Nat.reduceLeDiff, Nat.reduceEqDiff, true_implies, false_implies, implies_true, Option.some.injEq, forall_eq', forall_eq, reduceCtorEq, brT, brF, br_s, i_10, i_01, ib_0_2, ib_1_2, tn_0, tn_1, Int32.le_refl, eq_self, rv_bN, rv_iM, RCX 0, RCG 2, RCT 4, RCT 15, RCT 25, RCS 35, RCS 49, RCH 63, RCP 67, RCB 72, RCR 77, RCM 81, RLY, lit_at hw, hm, g_69 (isT15 hw) hd1, e1 hd3]
  exact e2 hd hQ
def st27_25 (σ : mS) (n : Nat) : mS := uI (uI (uI (uI (uI (uI (uQ (uI (uI (uI (uI (uQ σ 2 0 (some 1)) 2 1 (Int32.ofNat n)) 2 3 0) 2 5 0) 2 6 0) 2 7 (some 25)) 2 9 0) 25 0 0) 25 1 1) 25 2 0) 25 3 0) 25 4 0
theorem fr27_25 {σ : mS} {n : Nat} : frY 25 σ (st27_25 σ n) := by
  refine ⟨fun a h2 h14 h3 => funext fun j => ?_, rfl, fun a ha => funext fun j => ?_⟩
  · unfold st27_25
    rw [uI_1, if_neg (by omega), uI_1, if_neg (by omega), uI_1, if_neg (by omega), uI_1, if_neg (by omega), uI_1, if_neg (by omega), uI_1, if_neg (by omega), uQ_1, uI_1, if_neg (by omega), uI_1, if_neg (by omega), uI_1, if_neg (by omega), uI_1, if_neg (by omega), uQ_1]
  · show (uQ (uI (uI (uI (uI (uQ σ 2 0 (some 1)) 2 1 (Int32.ofNat n)) 2 3 0) 2 5 0) 2 6 0) 2 7 (some 25)).2.2 a j = _
    rw [uQ_3, if_neg (fun q => ha q.1)]
    show (uQ σ 2 0 (some 1)).2.2 a j = _
    rw [uQ_3, if_neg (fun q => ha q.1)]
theorem g_27_25 {w : mT} {σ : mS} {t : Nat → Nat} {n : Nat} (hw : lit w) (ht : ∀ i, t i < 256) (htp : ∀ i, i < 600 → σ.1 1 i = Int32.ofNat (t i)) (hn : n ≤ 600) : ∃ σ', frY 25 σ σ' ∧ ((rAll t n).1 = 0 → tTold σ' 25 (rAll t n).2.1 ∧ vTold (rAll t n).2.1 ∧ σ'.1 25 0 = Int32.ofNat (rAll t n).2.2) ∧ (rAll t n).1 < 5000 ∧ ∀ {D : Nat} {K : Int32 → Hp → Prop}, 7 ≤ D → (wpI D 27 [.ref 2, .ref 1, .int (Int32.ofNat n), .ref 25] (mW w σ) K ↔ K (Int32.ofNat (rAll t n).1) (mW w σ')) := by
  have e := fr27_25 (σ := σ) (n := n)
  have c1 : (st27_25 σ n).1 2 1 = Int32.ofNat n := by unfold st27_25; simp only [uI_1, uQ_1, Nat.reduceEqDiff, false_and, and_false, and_self, if_false, if_true]
  have c3 : (st27_25 σ n).1 2 3 = 0 := by unfold st27_25; simp only [uI_1, uQ_1, Nat.reduceEqDiff, false_and, and_false, and_self, if_false, if_true]
  have c5 : (st27_25 σ n).1 2 5 = 0 := by unfold st27_25; simp only [uI_1, uQ_1, Nat.reduceEqDiff, false_and, and_false, and_self, if_false, if_true]
  have c6 : (st27_25 σ n).1 2 6 = 0 := by unfold st27_25; simp only [uI_1, uQ_1, Nat.reduceEqDiff, false_and, and_false, and_self, if_false, if_true]
  have c9 : (st27_25 σ n).1 2 9 = 0 := by unfold st27_25; simp only [uI_1, uQ_1, Nat.reduceEqDiff, false_and, and_false, and_self, if_false, if_true]
  have d0 : (st27_25 σ n).1 25 0 = 0 := by unfold st27_25; rw [uI_1, if_neg (by omega), uI_1, if_neg (by omega), uI_1, if_neg (by omega), uI_1, if_neg (by omega), uI_1, if_pos ⟨rfl, rfl⟩]
  have d1 : (st27_25 σ n).1 25 1 = 1 := by unfold st27_25; rw [uI_1, if_neg (by omega), uI_1, if_neg (by omega), uI_1, if_neg (by omega), uI_1, if_pos ⟨rfl, rfl⟩]
  have d2 : (st27_25 σ n).1 25 2 = 0 := by unfold st27_25; rw [uI_1, if_neg (by omega), uI_1, if_neg (by omega), uI_1, if_pos ⟨rfl, rfl⟩]
  have d3 : (st27_25 σ n).1 25 3 = 0 := by unfold st27_25; rw [uI_1, if_neg (by omega), uI_1, if_pos ⟨rfl, rfl⟩]
  have d4 : (st27_25 σ n).1 25 4 = 0 := by unfold st27_25; rw [uI_1, if_pos ⟨rfl, rfl⟩]
  have b0 : (st27_25 σ n).2.2 2 0 = some 1 := by
    show (uQ (uI (uI (uI (uI (uQ σ 2 0 (some 1)) 2 1 (Int32.ofNat n)) 2 3 0) 2 5 0) 2 6 0) 2 7 (some 25)).2.2 2 0 = _
    rw [uQ_3, if_neg (by omega)]
    show (uQ σ 2 0 (some 1)).2.2 2 0 = _
    rw [uQ_3, if_pos ⟨rfl, rfl⟩]
  have b7 : (st27_25 σ n).2.2 2 7 = some 25 := by
    show (uQ (uI (uI (uI (uI (uQ σ 2 0 (some 1)) 2 1 (Int32.ofNat n)) 2 3 0) 2 5 0) 2 6 0) 2 7 (some 25)).2.2 2 7 = _
    rw [uQ_3, if_pos ⟨rfl, rfl⟩]
  have hB : tBy (st27_25 σ n) t := ⟨b0, fun i hi => by rw [e.1 1 (by omega) (by omega) (by omega)]; exact htp i hi⟩
  obtain ⟨σ1, f1, t1, e1⟩ := g_39w (g := g00) hw ht hB c1 c3 c5 c6 c9 (Nat.zero_le _) hn
  have vg1 := vG_w (t := t) (n := n) (g := g00) (Nat.zero_le _) hn
  have T1 : tTold σ1 25 τ00 := by
    have r : ∀ a, 25 ≤ a → a < 35 → σ1.1 a = (st27_25 σ n).1 a := fun a h1 h2 => f1.1 a (by omega)
    refine ⟨by rw [r 25 (by omega) (by omega)]; exact d1, by rw [r 25 (by omega) (by omega)]; exact d2, by rw [r 25 (by omega) (by omega)]; exact d3, by rw [r 25 (by omega) (by omega)]; exact d4, fun l hl => absurd hl (Nat.not_lt_zero _), fun p hp => absurd hp (Nat.not_lt_zero _), fun s hs => absurd hs (Nat.not_lt_zero _)⟩
  have S1 : rS σ1 t n 25 (adv t n g00) (fun _ => 0) τ00 := ⟨t1, fun i hi => absurd hi (by rw [adv_g (by omega)]; show ¬ i < 0; omega), T1, by rw [f1.2]; exact b7⟩
  have V1 : rV n (adv t n g00) τ00 := ⟨vg1, by rw [adv_g (by omega)]; rfl, vT_00, by rw [adv_g (by omega)]; rfl⟩
  obtain ⟨σ2, x2, z2, lt2, e2⟩ := lp_27_25 (n := n) (x := Int32.ofNat n) hw ht 600 0 σ1 (adv t n g00) τ00 (fun _ => 0) 0 rfl S1 V1 (by rw [adv_g (by omega)]; exact Nat.zero_le _) (by rw [f1.1 25 (by omega)]; exact d0)
  refine ⟨σ2, frY_X (frY_X e (frX_R f1)) x2, z2, lt2, fun hD => cI_of (m := 6) (fun d hd Q hQ => ?_) rfl hD⟩
  have hd1 : 1 ≤ d := by omega
  have hd2 : 2 ≤ d := by omega
  have hd3 : 3 ≤ d := by omega
  have hd4 : 4 ≤ d := by omega
  have hd5 : 5 ≤ d := by omega
  have hd6 : 6 ≤ d := by omega
  have hm : (if Int32.ofNat 600 < Int32.ofNat n then Int32.ofNat 600 else Int32.ofNat n) = Int32.ofNat n := by
    rw [min_of (by omega) (by omega)]; congr 1; omega
  unfold st27_25 at e1
  refine b27_0 ?_
  simp only [↓br_pos, ↓br_neg, ↓rF_I, ↓rF_L, ↓rF_R, ↓rF_N, rO_m, rB_m, ↓rI_m, wI_m, ↓rB2_m, ↓rB3_m, wB2_m, wB3_m, ↓rL_m, wL_m, ↓rQ_m, wQ_m, ↓lI_m, pI_m, pL_m, pR_m, sI_m, sBy_m, sBo_m, sL_m, sQ_m, fst_m, true_and, and_true, tg_some, ln_some, uI_1, uI_2, uL_1, uL_2, uL_3, uQ_1, uQ_2, uQ_3, rv_i, rv_l, rv_n, rv_b0, rv_b1, RMR, ne_eq, reduceCtorEq, not_false_eq_true, Option.getD_some, if_true, if_false, and_self, false_and, and_false, Nat.add_left_cancel_iff, Nat.add_eq_left, Nat.left_eq_add, Nat.one_ne_zero, Nat.reduceAdd, Nat.reduceLT, Nat.reduceLeDiff, Nat.reduceEqDiff, true_implies, false_implies, implies_true, Option.some.injEq, forall_eq', forall_eq, reduceCtorEq, brT, brF, br_s, i_10, i_01, ib_0_2, ib_1_2, tn_0, tn_1, Int32.le_refl, eq_self, rv_bN, rv_iM, RCX 0, RCG 2, RCT 4, RCT 15, RCT 25, RCS 35, RCS 49, RCH 63, RCP 67, RCB 72, RCR 77, RCM 81, RLY, lit_at hw, hm, g_69 (isT25 hw) hd1, e1 hd3]
  exact e2 hd hQ
end
section
/-! the class itself: what it holds -/
def cIn (w : mT) (σ : mS) (tp : Nat) (t : Nat → Nat) (τ ρ : Rw) (n : Nat) (bk : Nat → Rw) (has : Nat → Bool) (im : Nat → Rw) : Prop :=
  lit w ∧ hiS w σ ∧ (∃ o, hiT σ τ n o bk has im) ∧ (∃ P, (P = 15 ∨ P = 25) ∧ σ.2.2 0 3 = some P ∧ σ.2.2 0 4 = some (40 - P) ∧ tTold σ P τ) ∧ tSt σ 35 τ ρ ∧ vTold τ ∧ vRow τ ρ ∧ σ.1 0 1 = Int32.ofNat tp ∧ tp ≤ 600 ∧ (∀ i, i < 600 → σ.1 1 i = Int32.ofNat (t i)) ∧ ∀ i, t i < 256
theorem isTP {w : mT} {P : Nat} (hw : lit w) (hP : P = 15 ∨ P = 25) : isT w P := by
  rcases hP with rfl | rfl
  · exact isT15 hw
  · exact isT25 hw
/-- a change that none of it sees -/
theorem cIn_fr {w : mT} {σ σ' : mS} {tp : Nat} {t : Nat → Nat} {τ ρ : Rw} {n : Nat} {bk : Nat → Rw} {has : Nat → Bool} {im : Nat → Rw} (h : cIn w σ tp t τ ρ n bk has im) (h0 : ∀ j, j ≠ 11 → σ'.1 0 j = σ.1 0 j) (h1 : ∀ a, a = 1 ∨ (15 ≤ a ∧ a < 49) ∨ (63 ≤ a ∧ a < 67) ∨ 99 ≤ a → σ'.1 a = σ.1 a) (h2 : ∀ a, a = 0 ∨ a = 64 ∨ a = 65 → σ'.2.2 a = σ.2.2 a) : cIn w σ' tp t τ ρ n bk has im := by
  obtain ⟨a1, a2, ⟨o, a3⟩, ⟨P, b1, b2, b3, b4⟩, a5, a6, a7, a8, a9, a10, a11⟩ := h
  have rs : ∀ a, sl σ' a = sl σ a := fun a => sl_c (h2 64 (by omega)) (h2 65 (by omega))
  obtain ⟨c1, c2, c3, c4, c5, c6⟩ := a3
  refine ⟨a1, hiS_c a2 (fun a _ => rs a), ⟨o, ?_, c2, ?_, c4, fun i hi => ?_, fun k hk => ?_⟩, ⟨P, b1, by rw [h2 0 (by omega)]; exact b2, by rw [h2 0 (by omega)]; exact b3, tTold_fr b4 (fun a x1 x2 => h1 a (by omega))⟩, tSt_fr a5 (fun a x1 x2 => h1 a (by omega)), a6, a7, by rw [h0 1 (by omega)]; exact a8, a9, fun i hi => by rw [h1 1 (by omega)]; exact a10 i hi, a11⟩
  · rw [h1 63 (by omega)]; exact c1
  · rw [h1 63 (by omega)]; exact c3
  · obtain ⟨x0, q, x1, x2⟩ := c5 i hi
    obtain ⟨y1, y2, y3⟩ := a2.1 _ q (by omega) x1
    exact ⟨x0, q, by rw [rs]; exact x1, tSt_fr x2 (fun b hb1 hb2 => h1 b (by omega))⟩
  · obtain ⟨x1, x2⟩ := c6 k hk
    refine ⟨by rw [h1 66 (by omega)]; exact x1, fun hh => ?_⟩
    obtain ⟨z0, q, z1, z2⟩ := x2 hh
    obtain ⟨y1, y2, y3⟩ := a2.1 _ q (by omega) z1
    exact ⟨z0, q, by rw [rs]; exact z1, tSt_fr z2 (fun b hb1 hb2 => h1 b (by omega))⟩
/-! what its calls share -/
theorem g_118 {w : mT} {σ : mS} {a : Int32} {D : Nat} {K : Int32 → Hp → Prop} (hD : 1 ≤ D) : wpI D 118 [.int a] (mW w σ) K ↔ K (bN a 2) (mW w σ) := by
  refine cI_of (m := 0) (fun d hd Q hQ => ?_) rfl hD
  refine b118_0 ?_
  have e := br_bN (a := a) (n := 2) (A := Q (some (some (.int 0))) (mW w σ)) (B := Q (some (some (.int 1))) (mW w σ)) (by omega)
  simp only [↓rF_I, ↓rF_L, ↓rF_R, ↓rF_N, rO_m, rB_m, ↓rI_m, wI_m, ↓rB2_m, ↓rB3_m, wB2_m, wB3_m, ↓rL_m, wL_m, ↓rQ_m, wQ_m, ↓lI_m, pI_m, pL_m, pR_m, sI_m, sBy_m, sBo_m, sL_m, sQ_m, fst_m, true_and, and_true, tg_some, ln_some, uI_1, uI_2, uL_1, uL_2, uL_3, uQ_1, uQ_2, uQ_3, rv_i, rv_l, rv_n, rv_b0, rv_b1, RMR, ne_eq, reduceCtorEq, not_false_eq_true, Option.getD_some, if_true, if_false, and_self, false_and, and_false, Nat.add_left_cancel_iff, Nat.add_eq_left, Nat.left_eq_add, Nat.one_ne_zero, Nat.reduceAdd, Nat.reduceLT, Nat.reduceLeDiff, Nat.reduceEqDiff, true_implies, false_implies, implies_true, Option.some.injEq, forall_eq', forall_eq, reduceCtorEq, brT, brF, br_s, i_10, i_01, ib_0_2, ib_1_2, tn_0, tn_1, Int32.le_refl, eq_self, rv_bN, rv_iM]
  exact e.mpr (brQ_b.mpr hQ)
abbrev grP (a : Int32) : Prop := 0 ≤ a.toInt ∧ a.toInt ≤ 999
theorem g_119 {w : mT} {σ : mS} {a : Int32} {D : Nat} {K : Int32 → Hp → Prop} (hD : 1 ≤ D) : wpI D 119 [.int a] (mW w σ) K ↔ K (iB (grP a)) (mW w σ) := by
  refine cI_of (m := 0) (fun d hd Q hQ => ?_) rfl hD
  refine b119_0 ?_
  by_cases h : a < 0
  · rw [iB_f (fun q => by rw [i_lt, show (0 : Int32).toInt = 0 by decide] at h; have := q.1; omega)] at hQ
    simp only [↓br_pos, ↓br_neg, ↓rF_I, ↓rF_L, ↓rF_R, ↓rF_N, rO_m, rB_m, ↓rI_m, wI_m, ↓rB2_m, ↓rB3_m, wB2_m, wB3_m, ↓rL_m, wL_m, ↓rQ_m, wQ_m, ↓lI_m, pI_m, pL_m, pR_m, sI_m, sBy_m, sBo_m, sL_m, sQ_m, fst_m, true_and, and_true, tg_some, ln_some, uI_1, uI_2, uL_1, uL_2, uL_3, uQ_1, uQ_2, uQ_3, rv_i, rv_l, rv_n, rv_b0, rv_b1, RMR, ne_eq, reduceCtorEq, not_false_eq_true, Option.getD_some, if_true, if_false, and_self, false_and, and_false, Nat.add_left_cancel_iff, Nat.add_eq_left, Nat.left_eq_add, Nat.one_ne_zero, Nat.reduceAdd, Nat.reduceLT, Nat.reduceLeDiff, Nat.reduceEqDiff, true_implies, false_implies, implies_true, Option.some.injEq, forall_eq', forall_eq, reduceCtorEq, brT, brF, br_s, i_10, i_01, ib_0_2, ib_1_2, tn_0, tn_1, Int32.le_refl, eq_self, rv_bN, rv_iM, h]
    exact hQ
  · by_cases h2 : (999 : Int32) < a
    · rw [iB_f (fun q => by rw [i_lt, show (999 : Int32).toInt = 999 by decide] at h2; have := q.2; omega)] at hQ
      simp only [↓br_pos, ↓br_neg, ↓rF_I, ↓rF_L, ↓rF_R, ↓rF_N, rO_m, rB_m, ↓rI_m, wI_m, ↓rB2_m, ↓rB3_m, wB2_m, wB3_m, ↓rL_m, wL_m, ↓rQ_m, wQ_m, ↓lI_m, pI_m, pL_m, pR_m, sI_m, sBy_m, sBo_m, sL_m, sQ_m, fst_m, true_and, and_true, tg_some, ln_some, uI_1, uI_2, uL_1, uL_2, uL_3, uQ_1, uQ_2, uQ_3, rv_i, rv_l, rv_n, rv_b0, rv_b1, RMR, ne_eq, reduceCtorEq, not_false_eq_true, Option.getD_some, if_true, if_false, and_self, false_and, and_false, Nat.add_left_cancel_iff, Nat.add_eq_left, Nat.left_eq_add, Nat.one_ne_zero, Nat.reduceAdd, Nat.reduceLT, Nat.reduceLeDiff, Nat.reduceEqDiff, true_implies, false_implies, implies_true, Option.some.injEq, forall_eq', forall_eq, reduceCtorEq, brT, brF, br_s, i_10, i_01, ib_0_2, ib_1_2, tn_0, tn_1, Int32.le_refl, eq_self, rv_bN, rv_iM, h, h2]
      exact hQ
    · rw [iB_t (by rw [i_lt, show (0 : Int32).toInt = 0 by decide] at h; rw [i_lt, show (999 : Int32).toInt = 999 by decide] at h2; exact ⟨by omega, by omega⟩)] at hQ
      simp only [↓br_pos, ↓br_neg, ↓rF_I, ↓rF_L, ↓rF_R, ↓rF_N, rO_m, rB_m, ↓rI_m, wI_m, ↓rB2_m, ↓rB3_m, wB2_m, wB3_m, ↓rL_m, wL_m, ↓rQ_m, wQ_m, ↓lI_m, pI_m, pL_m, pR_m, sI_m, sBy_m, sBo_m, sL_m, sQ_m, fst_m, true_and, and_true, tg_some, ln_some, uI_1, uI_2, uL_1, uL_2, uL_3, uQ_1, uQ_2, uQ_3, rv_i, rv_l, rv_n, rv_b0, rv_b1, RMR, ne_eq, reduceCtorEq, not_false_eq_true, Option.getD_some, if_true, if_false, and_self, false_and, and_false, Nat.add_left_cancel_iff, Nat.add_eq_left, Nat.left_eq_add, Nat.one_ne_zero, Nat.reduceAdd, Nat.reduceLT, Nat.reduceLeDiff, Nat.reduceEqDiff, true_implies, false_implies, implies_true, Option.some.injEq, forall_eq', forall_eq, reduceCtorEq, brT, brF, br_s, i_10, i_01, ib_0_2, ib_1_2, tn_0, tn_1, Int32.le_refl, eq_self, rv_bN, rv_iM, h, h2]
      exact hQ
/-- a layer that is there -/
abbrev laP (τ ρ : Rw) (p k : Int32) : Prop := bN p (τ 1) = 1 ∧ 0 ≤ k.toInt ∧ k.toInt < (ρ (24 + p.toNatClampNeg) : Nat)
theorem g_120 {w : mT} {σ : mS} {P D : Nat} {τ ρ : Rw} {a1 a2 : Int32} {K : Int32 → Hp → Prop} (hw : lit w) (hP : P = 15 ∨ P = 25) (hp : σ.2.2 0 3 = some P) (hτ : tTold σ P τ) (hv : vTold τ) (hρ : tSt σ 35 τ ρ) (h : vRow τ ρ) (hD : 2 ≤ D) : wpI D 120 [.ref 0, .int a1, .int a2] (mW w σ) K ↔ K (iB (laP τ ρ a1 a2)) (mW w σ) := by
  have hT := isTP hw hP
  have hT' := hT
  simp only [isT] at hT'
  refine cI_of (m := 1) (fun d hd Q hQ => ?_) rfl hD
  have hd1 : 1 ≤ d := by omega
  refine b120_0 ?_
  have v1 := hv.2.1
  by_cases a : bN a1 (τ 1) = 1
  · obtain ⟨p, rfl, hp1⟩ := bN_ex a
    have eb : inB (Int32.ofNat p) 3 = true := on_inB (by omega) (by omega)
    have en := on_nat (i := p) (by omega)
    have ela := tS_la hρ (by omega : p < 3)
    have h60 := vR_la h p (by omega)
    have e1 : iB (laP τ ρ (Int32.ofNat p) a2) = bN a2 (ρ (24 + p)) := by
      by_cases z : 0 ≤ a2.toInt ∧ a2.toInt < (ρ (24 + p) : Nat)
      · rw [bN_t z, iB_t (p := laP τ ρ (Int32.ofNat p) a2) ⟨a, z.1, by rw [en]; exact z.2⟩]
      · rw [bN_f z, iB_f (p := laP τ ρ (Int32.ofNat p) a2) (fun q => z ⟨q.2.1, by have := q.2.2; rw [en] at this; exact this⟩)]
    rw [e1] at hQ
    have e := br_bN (a := a2) (n := ρ (24 + p)) (A := Q (some (some (.int 0))) (mW w σ)) (B := Q (some (some (.int 1))) (mW w σ)) (by omega)
    have el : σ.1 37 p = Int32.ofNat (ρ (24 + p)) := ela
    simp only [↓rF_I, ↓rF_L, ↓rF_R, ↓rF_N, rO_m, rB_m, ↓rI_m, wI_m, ↓rB2_m, ↓rB3_m, wB2_m, wB3_m, ↓rL_m, wL_m, ↓rQ_m, wQ_m, ↓lI_m, pI_m, pL_m, pR_m, sI_m, sBy_m, sBo_m, sL_m, sQ_m, fst_m, true_and, and_true, tg_some, ln_some, uI_1, uI_2, uL_1, uL_2, uL_3, uQ_1, uQ_2, uQ_3, rv_i, rv_l, rv_n, rv_b0, rv_b1, RMR, ne_eq, reduceCtorEq, not_false_eq_true, Option.getD_some, if_true, if_false, and_self, false_and, and_false, Nat.add_left_cancel_iff, Nat.add_eq_left, Nat.left_eq_add, Nat.one_ne_zero, Nat.reduceAdd, Nat.reduceLT, Nat.reduceLeDiff, Nat.reduceEqDiff, true_implies, false_implies, implies_true, Option.some.injEq, forall_eq', forall_eq, reduceCtorEq, brT, brF, br_s, i_10, i_01, ib_0_2, ib_1_2, tn_0, tn_1, Int32.le_refl, eq_self, rv_bN, rv_iM, RCX 0, RCG 2, RCT 4, RCT 15, RCT 25, RCS 35, RCS 49, RCH 63, RCP 67, RCB 72, RCR 77, RCM 81, RLY, lit_at hw, RCT P, hT', hp, g_71 hT hτ.2.2.1 (by omega : τ 1 < 2147483648) hd1, a, eb, en, el]
    exact e.mpr (brQ_b.mpr hQ)
  · have a0 : bN a1 (τ 1) = 0 := bN_01.resolve_right a
    rw [iB_f (fun q => a q.1)] at hQ
    simp only [↓br_pos, ↓br_neg, ↓rF_I, ↓rF_L, ↓rF_R, ↓rF_N, rO_m, rB_m, ↓rI_m, wI_m, ↓rB2_m, ↓rB3_m, wB2_m, wB3_m, ↓rL_m, wL_m, ↓rQ_m, wQ_m, ↓lI_m, pI_m, pL_m, pR_m, sI_m, sBy_m, sBo_m, sL_m, sQ_m, fst_m, true_and, and_true, tg_some, ln_some, uI_1, uI_2, uL_1, uL_2, uL_3, uQ_1, uQ_2, uQ_3, rv_i, rv_l, rv_n, rv_b0, rv_b1, RMR, ne_eq, reduceCtorEq, not_false_eq_true, Option.getD_some, if_true, if_false, and_self, false_and, and_false, Nat.add_left_cancel_iff, Nat.add_eq_left, Nat.left_eq_add, Nat.one_ne_zero, Nat.reduceAdd, Nat.reduceLT, Nat.reduceLeDiff, Nat.reduceEqDiff, true_implies, false_implies, implies_true, Option.some.injEq, forall_eq', forall_eq, reduceCtorEq, brT, brF, br_s, i_10, i_01, ib_0_2, ib_1_2, tn_0, tn_1, Int32.le_refl, eq_self, rv_bN, rv_iM, RCX 0, RCG 2, RCT 4, RCT 15, RCT 25, RCS 35, RCS 49, RCH 63, RCP 67, RCB 72, RCR 77, RCM 81, RLY, lit_at hw, RCT P, hT', hp, g_71 hT hτ.2.2.1 (by omega : τ 1 < 2147483648) hd1, a0]
    exact hQ
/-- can so much be laid so -/
abbrev cbP (τ : Rw) (p l a b t : Int32) : Prop := bN l (τ 0) = 1 ∧ bC τ p a = 1 ∧ bC τ p b = 1 ∧ 1 ≤ t.toInt ∧ t.toInt ≤ 99
theorem cbP_ex {τ : Rw} {p l a b t : Int32} (hv : vTold τ) (h : cbP τ p l a b t) : ∃ p' l' a' b' t' : Nat, p = Int32.ofNat p' ∧ l = Int32.ofNat l' ∧ a = Int32.ofNat a' ∧ b = Int32.ofNat b' ∧ t = Int32.ofNat t' ∧ p' < τ 1 ∧ l' < τ 0 ∧ a' < τ (28 + p') ∧ b' < τ (28 + p') ∧ 1 ≤ t' ∧ t' ≤ 99 := by
  obtain ⟨h1, h2, h3, h4, h5⟩ := h
  obtain ⟨l', rfl, hl⟩ := bN_ex h1
  obtain ⟨p', a', rfl, rfl, hp, ha⟩ := bC_ex hv h2
  obtain ⟨p2, b', e, rfl, hp2, hb⟩ := bC_ex hv h3
  have v1 := hv.2.1
  have e2 : p' = p2 := (of_inj (by omega) (by omega)).mp e
  subst e2
  obtain ⟨t', rfl, ht⟩ := ex_on (a := t) (n := 100) ⟨by omega, by omega⟩
  rw [on_int (by omega)] at h4
  exact ⟨p', l', a', b', t', rfl, rfl, rfl, rfl, rfl, hp, hl, ha, hb, by omega, by omega⟩
theorem g_121 {w : mT} {σ : mS} {P D : Nat} {τ : Rw} {p l a b t : Int32} {K : Int32 → Hp → Prop} (hw : lit w) (hP : P = 15 ∨ P = 25) (hp : σ.2.2 0 3 = some P) (hτ : tTold σ P τ) (hv : vTold τ) (hD : 3 ≤ D) : wpI D 121 [.ref 0, .int p, .int l, .int a, .int b, .int t] (mW w σ) K ↔ K (iB (cbP τ p l a b t)) (mW w σ) := by
  have hT := isTP hw hP
  have hT' := hT
  simp only [isT] at hT'
  refine cI_of (m := 2) (fun d hd Q hQ => ?_) rfl hD
  have hd1 : 1 ≤ d := by omega
  have hd2 : 2 ≤ d := by omega
  refine b121_0 ?_
  have v0 := hv.1
  have base := g_70 (w := w) (a1 := l) (K := fun _ _ => True) hT hτ.2.1 (by omega : τ 0 < 2147483648) hd1
  by_cases h1 : bN l (τ 0) = 1
  · by_cases h2 : bC τ p a = 1
    · by_cases h3 : bC τ p b = 1
      · by_cases h4 : t < 1
        · rw [iB_f (fun q => by rw [i_lt, show (1 : Int32).toInt = 1 by decide] at h4; have := q.2.2.2.1; omega)] at hQ
          simp only [↓br_pos, ↓br_neg, ↓rF_I, ↓rF_L, ↓rF_R, ↓rF_N, rO_m, rB_m, ↓rI_m, wI_m, ↓rB2_m, ↓rB3_m, wB2_m, wB3_m, ↓rL_m, wL_m, ↓rQ_m, wQ_m, ↓lI_m, pI_m, pL_m, pR_m, sI_m, sBy_m, sBo_m, sL_m, sQ_m, fst_m, true_and, and_true, tg_some, ln_some, uI_1, uI_2, uL_1, uL_2, uL_3, uQ_1, uQ_2, uQ_3, rv_i, rv_l, rv_n, rv_b0, rv_b1, RMR, ne_eq, reduceCtorEq, not_false_eq_true, Option.getD_some, if_true, if_false, and_self, false_and, and_false, Nat.add_left_cancel_iff, Nat.add_eq_left, Nat.left_eq_add, Nat.one_ne_zero, Nat.reduceAdd, Nat.reduceLT, Nat.reduceLeDiff, Nat.reduceEqDiff, true_implies, false_implies, implies_true, Option.some.injEq, forall_eq', forall_eq, reduceCtorEq, brT, brF, br_s, i_10, i_01, ib_0_2, ib_1_2, tn_0, tn_1, Int32.le_refl, eq_self, rv_bN, rv_iM, RCX 0, RCG 2, RCT 4, RCT 15, RCT 25, RCS 35, RCS 49, RCH 63, RCP 67, RCB 72, RCR 77, RCM 81, RLY, lit_at hw, RCT P, hT', hp, g_70 hT hτ.2.1 (by omega : τ 0 < 2147483648) hd1, g_72 hT hτ hv hd2, h1, h2, h3, h4]
          exact hQ
        · by_cases h5 : (99 : Int32) < t
          · rw [iB_f (fun q => by rw [i_lt, show (99 : Int32).toInt = 99 by decide] at h5; have := q.2.2.2.2; omega)] at hQ
            simp only [↓br_pos, ↓br_neg, ↓rF_I, ↓rF_L, ↓rF_R, ↓rF_N, rO_m, rB_m, ↓rI_m, wI_m, ↓rB2_m, ↓rB3_m, wB2_m, wB3_m, ↓rL_m, wL_m, ↓rQ_m, wQ_m, ↓lI_m, pI_m, pL_m, pR_m, sI_m, sBy_m, sBo_m, sL_m, sQ_m, fst_m, true_and, and_true, tg_some, ln_some, uI_1, uI_2, uL_1, uL_2, uL_3, uQ_1, uQ_2, uQ_3, rv_i, rv_l, rv_n, rv_b0, rv_b1, RMR, ne_eq, reduceCtorEq, not_false_eq_true, Option.getD_some, if_true, if_false, and_self, false_and, and_false, Nat.add_left_cancel_iff, Nat.add_eq_left, Nat.left_eq_add, Nat.one_ne_zero, Nat.reduceAdd, Nat.reduceLT, Nat.reduceLeDiff, Nat.reduceEqDiff, true_implies, false_implies, implies_true, Option.some.injEq, forall_eq', forall_eq, reduceCtorEq, brT, brF, br_s, i_10, i_01, ib_0_2, ib_1_2, tn_0, tn_1, Int32.le_refl, eq_self, rv_bN, rv_iM, RCX 0, RCG 2, RCT 4, RCT 15, RCT 25, RCS 35, RCS 49, RCH 63, RCP 67, RCB 72, RCR 77, RCM 81, RLY, lit_at hw, RCT P, hT', hp, g_70 hT hτ.2.1 (by omega : τ 0 < 2147483648) hd1, g_72 hT hτ hv hd2, h1, h2, h3, h4, h5]
            exact hQ
          · rw [iB_t ⟨h1, h2, h3, by rw [i_lt, show (1 : Int32).toInt = 1 by decide] at h4; omega, by rw [i_lt, show (99 : Int32).toInt = 99 by decide] at h5; omega⟩] at hQ
            simp only [↓br_pos, ↓br_neg, ↓rF_I, ↓rF_L, ↓rF_R, ↓rF_N, rO_m, rB_m, ↓rI_m, wI_m, ↓rB2_m, ↓rB3_m, wB2_m, wB3_m, ↓rL_m, wL_m, ↓rQ_m, wQ_m, ↓lI_m, pI_m, pL_m, pR_m, sI_m, sBy_m, sBo_m, sL_m, sQ_m, fst_m, true_and, and_true, tg_some, ln_some, uI_1, uI_2, uL_1, uL_2, uL_3, uQ_1, uQ_2, uQ_3, rv_i, rv_l, rv_n, rv_b0, rv_b1, RMR, ne_eq, reduceCtorEq, not_false_eq_true, Option.getD_some, if_true, if_false, and_self, false_and, and_false, Nat.add_left_cancel_iff, Nat.add_eq_left, Nat.left_eq_add, Nat.one_ne_zero, Nat.reduceAdd, Nat.reduceLT, Nat.reduceLeDiff, Nat.reduceEqDiff, true_implies, false_implies, implies_true, Option.some.injEq, forall_eq', forall_eq, reduceCtorEq, brT, brF, br_s, i_10, i_01, ib_0_2, ib_1_2, tn_0, tn_1, Int32.le_refl, eq_self, rv_bN, rv_iM, RCX 0, RCG 2, RCT 4, RCT 15, RCT 25, RCS 35, RCS 49, RCH 63, RCP 67, RCB 72, RCR 77, RCM 81, RLY, lit_at hw, RCT P, hT', hp, g_70 hT hτ.2.1 (by omega : τ 0 < 2147483648) hd1, g_72 hT hτ hv hd2, h1, h2, h3, h4, h5]
            exact hQ
      · have h3' : bC τ p b = 0 := bC_01.resolve_right h3
        rw [iB_f (fun q => h3 q.2.2.1)] at hQ
        simp only [↓br_pos, ↓br_neg, ↓rF_I, ↓rF_L, ↓rF_R, ↓rF_N, rO_m, rB_m, ↓rI_m, wI_m, ↓rB2_m, ↓rB3_m, wB2_m, wB3_m, ↓rL_m, wL_m, ↓rQ_m, wQ_m, ↓lI_m, pI_m, pL_m, pR_m, sI_m, sBy_m, sBo_m, sL_m, sQ_m, fst_m, true_and, and_true, tg_some, ln_some, uI_1, uI_2, uL_1, uL_2, uL_3, uQ_1, uQ_2, uQ_3, rv_i, rv_l, rv_n, rv_b0, rv_b1, RMR, ne_eq, reduceCtorEq, not_false_eq_true, Option.getD_some, if_true, if_false, and_self, false_and, and_false, Nat.add_left_cancel_iff, Nat.add_eq_left, Nat.left_eq_add, Nat.one_ne_zero, Nat.reduceAdd, Nat.reduceLT, Nat.reduceLeDiff, Nat.reduceEqDiff, true_implies, false_implies, implies_true, Option.some.injEq, forall_eq', forall_eq, reduceCtorEq, brT, brF, br_s, i_10, i_01, ib_0_2, ib_1_2, tn_0, tn_1, Int32.le_refl, eq_self, rv_bN, rv_iM, RCX 0, RCG 2, RCT 4, RCT 15, RCT 25, RCS 35, RCS 49, RCH 63, RCP 67, RCB 72, RCR 77, RCM 81, RLY, lit_at hw, RCT P, hT', hp, g_70 hT hτ.2.1 (by omega : τ 0 < 2147483648) hd1, g_72 hT hτ hv hd2, h1, h2, h3']
        exact hQ
    · have h2' : bC τ p a = 0 := bC_01.resolve_right h2
      rw [iB_f (fun q => h2 q.2.1)] at hQ
      simp only [↓br_pos, ↓br_neg, ↓rF_I, ↓rF_L, ↓rF_R, ↓rF_N, rO_m, rB_m, ↓rI_m, wI_m, ↓rB2_m, ↓rB3_m, wB2_m, wB3_m, ↓rL_m, wL_m, ↓rQ_m, wQ_m, ↓lI_m, pI_m, pL_m, pR_m, sI_m, sBy_m, sBo_m, sL_m, sQ_m, fst_m, true_and, and_true, tg_some, ln_some, uI_1, uI_2, uL_1, uL_2, uL_3, uQ_1, uQ_2, uQ_3, rv_i, rv_l, rv_n, rv_b0, rv_b1, RMR, ne_eq, reduceCtorEq, not_false_eq_true, Option.getD_some, if_true, if_false, and_self, false_and, and_false, Nat.add_left_cancel_iff, Nat.add_eq_left, Nat.left_eq_add, Nat.one_ne_zero, Nat.reduceAdd, Nat.reduceLT, Nat.reduceLeDiff, Nat.reduceEqDiff, true_implies, false_implies, implies_true, Option.some.injEq, forall_eq', forall_eq, reduceCtorEq, brT, brF, br_s, i_10, i_01, ib_0_2, ib_1_2, tn_0, tn_1, Int32.le_refl, eq_self, rv_bN, rv_iM, RCX 0, RCG 2, RCT 4, RCT 15, RCT 25, RCS 35, RCS 49, RCH 63, RCP 67, RCB 72, RCR 77, RCM 81, RLY, lit_at hw, RCT P, hT', hp, g_70 hT hτ.2.1 (by omega : τ 0 < 2147483648) hd1, g_72 hT hτ hv hd2, h1, h2']
      exact hQ
  · have h1' : bN l (τ 0) = 0 := bN_01.resolve_right h1
    rw [iB_f (fun q => h1 q.1)] at hQ
    simp only [↓br_pos, ↓br_neg, ↓rF_I, ↓rF_L, ↓rF_R, ↓rF_N, rO_m, rB_m, ↓rI_m, wI_m, ↓rB2_m, ↓rB3_m, wB2_m, wB3_m, ↓rL_m, wL_m, ↓rQ_m, wQ_m, ↓lI_m, pI_m, pL_m, pR_m, sI_m, sBy_m, sBo_m, sL_m, sQ_m, fst_m, true_and, and_true, tg_some, ln_some, uI_1, uI_2, uL_1, uL_2, uL_3, uQ_1, uQ_2, uQ_3, rv_i, rv_l, rv_n, rv_b0, rv_b1, RMR, ne_eq, reduceCtorEq, not_false_eq_true, Option.getD_some, if_true, if_false, and_self, false_and, and_false, Nat.add_left_cancel_iff, Nat.add_eq_left, Nat.left_eq_add, Nat.one_ne_zero, Nat.reduceAdd, Nat.reduceLT, Nat.reduceLeDiff, Nat.reduceEqDiff, true_implies, false_implies, implies_true, Option.some.injEq, forall_eq', forall_eq, reduceCtorEq, brT, brF, br_s, i_10, i_01, ib_0_2, ib_1_2, tn_0, tn_1, Int32.le_refl, eq_self, rv_bN, rv_iM, RCX 0, RCG 2, RCT 4, RCT 15, RCT 25, RCS 35, RCS 49, RCH 63, RCP 67, RCB 72, RCR 77, RCM 81, RLY, lit_at hw, RCT P, hT', hp, g_70 hT hτ.2.1 (by omega : τ 0 < 2147483648) hd1, h1']
    exact hQ
/-- days late -/
def lateD (τ ρ : Rw) (s : Nat) : Nat := (if ρ (43 + s) = 0 then ρ 0 else ρ (43 + s) - 1) - τ (31 + 6 * s + 3)
theorem max_of {a b : Nat} (ha : a < 2147483648) (hb : b < 2147483648) : (if (0 : Int32) < Int32.ofNat a - Int32.ofNat b then Int32.ofNat a - Int32.ofNat b else 0) = Int32.ofNat (a - b) := by
  by_cases h : b < a
  · rw [of_sub (by omega), if_pos ((of_pos (by omega)).mpr (by omega))]
  · have e : Int32.ofNat a - Int32.ofNat b = - Int32.ofNat (b - a) := by rw [← of_sub (by omega : a ≤ b), Int32.neg_sub]
    rw [e]
    have n : ¬ (0 : Int32) < - Int32.ofNat (b - a) := by
      rw [i_lt, Int32.toInt_neg, on_int (by omega), show (0 : Int32).toInt = 0 by decide, Int.bmod_eq_of_le (by omega) (by omega)]
      omega
    rw [if_neg n, show a - b = 0 by omega]; rfl
theorem g_125 {w : mT} {σ : mS} {P s D : Nat} {τ ρ : Rw} {K : Int32 → Hp → Prop} (hw : lit w) (hP : P = 15 ∨ P = 25) (hp : σ.2.2 0 3 = some P) (hτ : tTold σ P τ) (hv : vTold τ) (hρ : tSt σ 35 τ ρ) (h : vRow τ ρ) (hs : s < τ 2) (hD : 1 ≤ D) : wpI D 125 [.ref 0, .int (Int32.ofNat s)] (mW w σ) K ↔ K (Int32.ofNat (lateD τ ρ s)) (mW w σ) := by
  have hT' := isTP hw hP
  simp only [isT] at hT'
  refine cI_of (m := 0) (fun d hd Q hQ => ?_) rfl hD
  refine b125_0 ?_
  have v2 := hv.2.2.1
  have eb : inB (Int32.ofNat s) 8 = true := on_inB (by omega) (by omega)
  have en := on_nat (i := s) (by omega)
  have e1 : σ.1 42 s = Int32.ofNat (ρ (43 + s)) - 1 := tS_sa hρ hs
  have e2 : σ.1 35 0 = Int32.ofNat (ρ 0) := tS_d hρ
  have e3 := (hτ.2.2.2.2.2.2 s hs).2.2.2.1
  have b1 := vR_sa h s hs
  have b2 := vR_day h
  have b3 := (hv.2.2.2.2.2.2 s hs).2.2.2.1
  by_cases a : ρ (43 + s) = 0
  · have e1' : σ.1 42 s = -1 := by rw [e1, a]; decide
    have ev : lateD τ ρ s = ρ 0 - τ (31 + 6 * s + 3) := by unfold lateD; rw [if_pos a]
    have em := max_of (a := ρ 0) (b := τ (31 + 6 * s + 3)) (by omega) (by omega)
    rw [ev, ← em] at hQ
    simp only [↓br_pos, ↓br_neg, ↓rF_I, ↓rF_L, ↓rF_R, ↓rF_N, rO_m, rB_m, ↓rI_m, wI_m, ↓rB2_m, ↓rB3_m, wB2_m, wB3_m, ↓rL_m, wL_m, ↓rQ_m, wQ_m, ↓lI_m, pI_m, pL_m, pR_m, sI_m, sBy_m, sBo_m, sL_m, sQ_m, fst_m, true_and, and_true, tg_some, ln_some, uI_1, uI_2, uL_1, uL_2, uL_3, uQ_1, uQ_2, uQ_3, rv_i, rv_l, rv_n, rv_b0, rv_b1, RMR, ne_eq, reduceCtorEq, not_false_eq_true, Option.getD_some, if_true, if_false, and_self, false_and, and_false, Nat.add_left_cancel_iff, Nat.add_eq_left, Nat.left_eq_add, Nat.one_ne_zero, Nat.reduceAdd, Nat.reduceLT, Nat.reduceLeDiff, Nat.reduceEqDiff, true_implies, false_implies, implies_true, Option.some.injEq, forall_eq', forall_eq, reduceCtorEq, brT, brF, br_s, i_10, i_01, ib_0_2, ib_1_2, tn_0, tn_1, Int32.le_refl, eq_self, rv_bN, rv_iM, RCX 0, RCG 2, RCT 4, RCT 15, RCT 25, RCS 35, RCS 49, RCH 63, RCP 67, RCB 72, RCR 77, RCM 81, RLY, lit_at hw, RCT P, hT', hp, eb, en, e1', e2, e3]
    exact hQ
  · have e1' : σ.1 42 s = Int32.ofNat (ρ (43 + s) - 1) := by rw [e1, st_m1 a]
    have n1 := on_m1 (a := ρ (43 + s) - 1) (by omega)
    have ev : lateD τ ρ s = ρ (43 + s) - 1 - τ (31 + 6 * s + 3) := by unfold lateD; rw [if_neg a]
    have em := max_of (a := ρ (43 + s) - 1) (b := τ (31 + 6 * s + 3)) (by omega) (by omega)
    rw [ev, ← em] at hQ
    simp only [↓br_pos, ↓br_neg, ↓rF_I, ↓rF_L, ↓rF_R, ↓rF_N, rO_m, rB_m, ↓rI_m, wI_m, ↓rB2_m, ↓rB3_m, wB2_m, wB3_m, ↓rL_m, wL_m, ↓rQ_m, wQ_m, ↓lI_m, pI_m, pL_m, pR_m, sI_m, sBy_m, sBo_m, sL_m, sQ_m, fst_m, true_and, and_true, tg_some, ln_some, uI_1, uI_2, uL_1, uL_2, uL_3, uQ_1, uQ_2, uQ_3, rv_i, rv_l, rv_n, rv_b0, rv_b1, RMR, ne_eq, reduceCtorEq, not_false_eq_true, Option.getD_some, if_true, if_false, and_self, false_and, and_false, Nat.add_left_cancel_iff, Nat.add_eq_left, Nat.left_eq_add, Nat.one_ne_zero, Nat.reduceAdd, Nat.reduceLT, Nat.reduceLeDiff, Nat.reduceEqDiff, true_implies, false_implies, implies_true, Option.some.injEq, forall_eq', forall_eq, reduceCtorEq, brT, brF, br_s, i_10, i_01, ib_0_2, ib_1_2, tn_0, tn_1, Int32.le_refl, eq_self, rv_bN, rv_iM, RCX 0, RCG 2, RCT 4, RCT 15, RCT 25, RCS 35, RCS 49, RCH 63, RCP 67, RCB 72, RCR 77, RCM 81, RLY, lit_at hw, RCT P, hT', hp, eb, en, e1', n1, e3]
    exact hQ
theorem late_lt {τ ρ : Rw} {s : Nat} (h : vRow τ ρ) (hs : s < τ 2) : lateD τ ρ s ≤ 999 := by
  have b1 := vR_sa h s hs
  have b2 := vR_day h
  unfold lateD; split <;> omega
/-- how many sailed, how many are late -/
def sailN (τ ρ : Rw) : Nat := sm (τ 2) (fun s => if ρ (43 + s) = 0 then 0 else 1)
def lateN (τ ρ : Rw) : Nat := sm (τ 2) (fun s => if lateD τ ρ s = 0 then 0 else 1)
theorem lp_123 {w : mT} {σ : mS} {P d : Nat} {τ ρ : Rw} {Q : Option (Option Value) → Hp → Prop} (hw : lit w) (hP : P = 15 ∨ P = 25) (hp : σ.2.2 0 3 = some P) (hτ : tTold σ P τ) (hv : vTold τ) (hρ : tSt σ 35 τ ρ) (h : vRow τ ρ) (hQ : Q (some (some (.int (Int32.ofNat (sailN τ ρ))))) (mW w σ)) : ∀ k i : Nat, i + k = τ 2 → Wp 123 4 [.ref 0, .int (Int32.ofNat (sm i (fun s => if ρ (43 + s) = 0 then 0 else 1))), .int (Int32.ofNat i)] [] (mW w σ) Q d := by
  have hT' := isTP hw hP
  simp only [isT] at hT'
  have v2 := hv.2.2.1
  have e4 := hτ.2.2.2.1
  intro k
  induction k with
  | zero =>
    intro i hi
    have hi' : i = τ 2 := by omega
    subst hi'
    refine b123_4 ?_
    simp only [↓br_pos, ↓br_neg, ↓rF_I, ↓rF_L, ↓rF_R, ↓rF_N, rO_m, rB_m, ↓rI_m, wI_m, ↓rB2_m, ↓rB3_m, wB2_m, wB3_m, ↓rL_m, wL_m, ↓rQ_m, wQ_m, ↓lI_m, pI_m, pL_m, pR_m, sI_m, sBy_m, sBo_m, sL_m, sQ_m, fst_m, true_and, and_true, tg_some, ln_some, uI_1, uI_2, uL_1, uL_2, uL_3, uQ_1, uQ_2, uQ_3, rv_i, rv_l, rv_n, rv_b0, rv_b1, RMR, ne_eq, reduceCtorEq, not_false_eq_true, Option.getD_some, if_true, if_false, and_self, false_and, and_false, Nat.add_left_cancel_iff, Nat.add_eq_left, Nat.left_eq_add, Nat.one_ne_zero, Nat.reduceAdd, Nat.reduceLT, Nat.reduceLeDiff, Nat.reduceEqDiff, true_implies, false_implies, implies_true, Option.some.injEq, forall_eq', forall_eq, reduceCtorEq, brT, brF, br_s, i_10, i_01, ib_0_2, ib_1_2, tn_0, tn_1, Int32.le_refl, eq_self, rv_bN, rv_iM, RCX 0, RCG 2, RCT 4, RCT 15, RCT 25, RCS 35, RCS 49, RCH 63, RCP 67, RCB 72, RCR 77, RCM 81, RLY, lit_at hw, RCT P, hT', hp, e4, Int32.le_refl]
    exact hQ
  | succ k ih =>
    intro i hi
    have hs : i < τ 2 := by omega
    have l1 : (Int32.ofNat (τ 2) ≤ Int32.ofNat i) ↔ False := iff_false_intro (fun q => absurd ((on_le (by omega) (by omega)).mp q) (by omega))
    have eb : inB (Int32.ofNat i) 8 = true := on_inB (by omega) (by omega)
    have en := on_nat (i := i) (by omega)
    have e1 : σ.1 42 i = Int32.ofNat (ρ (43 + i)) - 1 := tS_sa hρ hs
    have b1 := vR_sa h i hs
    have es : sm (i + 1) (fun s => if ρ (43 + s) = 0 then 0 else 1) = sm i (fun s => if ρ (43 + s) = 0 then 0 else 1) + (if ρ (43 + i) = 0 then 0 else 1) := rfl
    have nx := ih (i + 1) (by omega)
    rw [es] at nx
    refine b123_4 ?_
    by_cases a : ρ (43 + i) = 0
    · have e1' : σ.1 42 i = -1 := by rw [e1, a]; decide
      rw [if_pos a] at nx
      have a0 : Int32.ofNat (sm i (fun s => if ρ (43 + s) = 0 then 0 else 1)) + 0 = Int32.ofNat (sm i (fun s => if ρ (43 + s) = 0 then 0 else 1) + 0) := of_add
      simp only [↓br_pos, ↓br_neg, ↓rF_I, ↓rF_L, ↓rF_R, ↓rF_N, rO_m, rB_m, ↓rI_m, wI_m, ↓rB2_m, ↓rB3_m, wB2_m, wB3_m, ↓rL_m, wL_m, ↓rQ_m, wQ_m, ↓lI_m, pI_m, pL_m, pR_m, sI_m, sBy_m, sBo_m, sL_m, sQ_m, fst_m, true_and, and_true, tg_some, ln_some, uI_1, uI_2, uL_1, uL_2, uL_3, uQ_1, uQ_2, uQ_3, rv_i, rv_l, rv_n, rv_b0, rv_b1, RMR, ne_eq, reduceCtorEq, not_false_eq_true, Option.getD_some, if_true, if_false, and_self, false_and, and_false, Nat.add_left_cancel_iff, Nat.add_eq_left, Nat.left_eq_add, Nat.one_ne_zero, Nat.reduceAdd, Nat.reduceLT, Nat.reduceLeDiff, Nat.reduceEqDiff, true_implies, false_implies, implies_true, Option.some.injEq, forall_eq', forall_eq, reduceCtorEq, brT, brF, br_s, i_10, i_01, ib_0_2, ib_1_2, tn_0, tn_1, Int32.le_refl, eq_self, rv_bN, rv_iM, RCX 0, RCG 2, RCT 4, RCT 15, RCT 25, RCS 35, RCS 49, RCH 63, RCP 67, RCB 72, RCR 77, RCM 81, RLY, lit_at hw, RCT P, hT', hp, e4, l1, eb, en, e1', on_succ, a0]
      exact nx
    · have e1' : σ.1 42 i = Int32.ofNat (ρ (43 + i) - 1) := by rw [e1, st_m1 a]
      have n1 := on_m1 (a := ρ (43 + i) - 1) (by omega)
      rw [if_neg a] at nx
      simp only [↓br_pos, ↓br_neg, ↓rF_I, ↓rF_L, ↓rF_R, ↓rF_N, rO_m, rB_m, ↓rI_m, wI_m, ↓rB2_m, ↓rB3_m, wB2_m, wB3_m, ↓rL_m, wL_m, ↓rQ_m, wQ_m, ↓lI_m, pI_m, pL_m, pR_m, sI_m, sBy_m, sBo_m, sL_m, sQ_m, fst_m, true_and, and_true, tg_some, ln_some, uI_1, uI_2, uL_1, uL_2, uL_3, uQ_1, uQ_2, uQ_3, rv_i, rv_l, rv_n, rv_b0, rv_b1, RMR, ne_eq, reduceCtorEq, not_false_eq_true, Option.getD_some, if_true, if_false, and_self, false_and, and_false, Nat.add_left_cancel_iff, Nat.add_eq_left, Nat.left_eq_add, Nat.one_ne_zero, Nat.reduceAdd, Nat.reduceLT, Nat.reduceLeDiff, Nat.reduceEqDiff, true_implies, false_implies, implies_true, Option.some.injEq, forall_eq', forall_eq, reduceCtorEq, brT, brF, br_s, i_10, i_01, ib_0_2, ib_1_2, tn_0, tn_1, Int32.le_refl, eq_self, rv_bN, rv_iM, RCX 0, RCG 2, RCT 4, RCT 15, RCT 25, RCS 35, RCS 49, RCH 63, RCP 67, RCB 72, RCR 77, RCM 81, RLY, lit_at hw, RCT P, hT', hp, e4, l1, eb, en, e1', n1, on_succ]
      exact nx
theorem g_123 {w : mT} {σ : mS} {P D : Nat} {τ ρ : Rw} {K : Int32 → Hp → Prop} (hw : lit w) (hP : P = 15 ∨ P = 25) (hp : σ.2.2 0 3 = some P) (hτ : tTold σ P τ) (hv : vTold τ) (hρ : tSt σ 35 τ ρ) (h : vRow τ ρ) (hD : 1 ≤ D) : wpI D 123 [.ref 0] (mW w σ) K ↔ K (Int32.ofNat (sailN τ ρ)) (mW w σ) :=
  cI_of (m := 0) (fun d hd Q hQ => b123_0 (lp_123 hw hP hp hτ hv hρ h hQ (τ 2) 0 (Nat.zero_add _))) rfl hD
theorem lp_124 {w : mT} {σ : mS} {P d : Nat} {τ ρ : Rw} {Q : Option (Option Value) → Hp → Prop} (hw : lit w) (hP : P = 15 ∨ P = 25) (hp : σ.2.2 0 3 = some P) (hτ : tTold σ P τ) (hv : vTold τ) (hρ : tSt σ 35 τ ρ) (h : vRow τ ρ) (hd : 1 ≤ d) (hQ : Q (some (some (.int (Int32.ofNat (lateN τ ρ))))) (mW w σ)) : ∀ k i : Nat, i + k = τ 2 → Wp 124 4 [.ref 0, .int (Int32.ofNat (sm i (fun s => if lateD τ ρ s = 0 then 0 else 1))), .int (Int32.ofNat i)] [] (mW w σ) Q d := by
  have hT' := isTP hw hP
  simp only [isT] at hT'
  have v2 := hv.2.2.1
  have e4 := hτ.2.2.2.1
  intro k
  induction k with
  | zero =>
    intro i hi
    have hi' : i = τ 2 := by omega
    subst hi'
    refine b124_4 ?_
    simp only [↓br_pos, ↓br_neg, ↓rF_I, ↓rF_L, ↓rF_R, ↓rF_N, rO_m, rB_m, ↓rI_m, wI_m, ↓rB2_m, ↓rB3_m, wB2_m, wB3_m, ↓rL_m, wL_m, ↓rQ_m, wQ_m, ↓lI_m, pI_m, pL_m, pR_m, sI_m, sBy_m, sBo_m, sL_m, sQ_m, fst_m, true_and, and_true, tg_some, ln_some, uI_1, uI_2, uL_1, uL_2, uL_3, uQ_1, uQ_2, uQ_3, rv_i, rv_l, rv_n, rv_b0, rv_b1, RMR, ne_eq, reduceCtorEq, not_false_eq_true, Option.getD_some, if_true, if_false, and_self, false_and, and_false, Nat.add_left_cancel_iff, Nat.add_eq_left, Nat.left_eq_add, Nat.one_ne_zero, Nat.reduceAdd, Nat.reduceLT, Nat.reduceLeDiff, Nat.reduceEqDiff, true_implies, false_implies, implies_true, Option.some.injEq, forall_eq', forall_eq, reduceCtorEq, brT, brF, br_s, i_10, i_01, ib_0_2, ib_1_2, tn_0, tn_1, Int32.le_refl, eq_self, rv_bN, rv_iM, RCX 0, RCG 2, RCT 4, RCT 15, RCT 25, RCS 35, RCS 49, RCH 63, RCP 67, RCB 72, RCR 77, RCM 81, RLY, lit_at hw, RCT P, hT', hp, e4, Int32.le_refl]
    exact hQ
  | succ k ih =>
    intro i hi
    have hs : i < τ 2 := by omega
    have l1 : (Int32.ofNat (τ 2) ≤ Int32.ofNat i) ↔ False := iff_false_intro (fun q => absurd ((on_le (by omega) (by omega)).mp q) (by omega))
    have ll := late_lt h hs
    have l0 := of_le0 (a := lateD τ ρ i) (by omega)
    have es : sm (i + 1) (fun s => if lateD τ ρ s = 0 then 0 else 1) = sm i (fun s => if lateD τ ρ s = 0 then 0 else 1) + (if lateD τ ρ i = 0 then 0 else 1) := rfl
    have nx := ih (i + 1) (by omega)
    rw [es] at nx
    refine b124_4 ?_
    by_cases a : lateD τ ρ i = 0
    · rw [if_pos a] at nx
      have l0' : (Int32.ofNat (lateD τ ρ i) ≤ 0) ↔ True := iff_true_intro (l0.mpr a)
      have a0 : Int32.ofNat (sm i (fun s => if lateD τ ρ s = 0 then 0 else 1)) + 0 = Int32.ofNat (sm i (fun s => if lateD τ ρ s = 0 then 0 else 1) + 0) := of_add
      simp only [↓br_pos, ↓br_neg, ↓rF_I, ↓rF_L, ↓rF_R, ↓rF_N, rO_m, rB_m, ↓rI_m, wI_m, ↓rB2_m, ↓rB3_m, wB2_m, wB3_m, ↓rL_m, wL_m, ↓rQ_m, wQ_m, ↓lI_m, pI_m, pL_m, pR_m, sI_m, sBy_m, sBo_m, sL_m, sQ_m, fst_m, true_and, and_true, tg_some, ln_some, uI_1, uI_2, uL_1, uL_2, uL_3, uQ_1, uQ_2, uQ_3, rv_i, rv_l, rv_n, rv_b0, rv_b1, RMR, ne_eq, reduceCtorEq, not_false_eq_true, Option.getD_some, if_true, if_false, and_self, false_and, and_false, Nat.add_left_cancel_iff, Nat.add_eq_left, Nat.left_eq_add, Nat.one_ne_zero, Nat.reduceAdd, Nat.reduceLT, Nat.reduceLeDiff, Nat.reduceEqDiff, true_implies, false_implies, implies_true, Option.some.injEq, forall_eq', forall_eq, reduceCtorEq, brT, brF, br_s, i_10, i_01, ib_0_2, ib_1_2, tn_0, tn_1, Int32.le_refl, eq_self, rv_bN, rv_iM, RCX 0, RCG 2, RCT 4, RCT 15, RCT 25, RCS 35, RCS 49, RCH 63, RCP 67, RCB 72, RCR 77, RCM 81, RLY, lit_at hw, RCT P, hT', hp, e4, l1, g_125 hw hP hp hτ hv hρ h hs hd, l0', on_succ, a0]
      exact nx
    · rw [if_neg a] at nx
      have l0' : (Int32.ofNat (lateD τ ρ i) ≤ 0) ↔ False := iff_false_intro (fun q => a (l0.mp q))
      simp only [↓br_pos, ↓br_neg, ↓rF_I, ↓rF_L, ↓rF_R, ↓rF_N, rO_m, rB_m, ↓rI_m, wI_m, ↓rB2_m, ↓rB3_m, wB2_m, wB3_m, ↓rL_m, wL_m, ↓rQ_m, wQ_m, ↓lI_m, pI_m, pL_m, pR_m, sI_m, sBy_m, sBo_m, sL_m, sQ_m, fst_m, true_and, and_true, tg_some, ln_some, uI_1, uI_2, uL_1, uL_2, uL_3, uQ_1, uQ_2, uQ_3, rv_i, rv_l, rv_n, rv_b0, rv_b1, RMR, ne_eq, reduceCtorEq, not_false_eq_true, Option.getD_some, if_true, if_false, and_self, false_and, and_false, Nat.add_left_cancel_iff, Nat.add_eq_left, Nat.left_eq_add, Nat.one_ne_zero, Nat.reduceAdd, Nat.reduceLT, Nat.reduceLeDiff, Nat.reduceEqDiff, true_implies, false_implies, implies_true, Option.some.injEq, forall_eq', forall_eq, reduceCtorEq, brT, brF, br_s, i_10, i_01, ib_0_2, ib_1_2, tn_0, tn_1, Int32.le_refl, eq_self, rv_bN, rv_iM, RCX 0, RCG 2, RCT 4, RCT 15, RCT 25, RCS 35, RCS 49, RCH 63, RCP 67, RCB 72, RCR 77, RCM 81, RLY, lit_at hw, RCT P, hT', hp, e4, l1, g_125 hw hP hp hτ hv hρ h hs hd, l0', on_succ]
      exact nx
theorem g_124 {w : mT} {σ : mS} {P D : Nat} {τ ρ : Rw} {K : Int32 → Hp → Prop} (hw : lit w) (hP : P = 15 ∨ P = 25) (hp : σ.2.2 0 3 = some P) (hτ : tTold σ P τ) (hv : vTold τ) (hρ : tSt σ 35 τ ρ) (h : vRow τ ρ) (hD : 2 ≤ D) : wpI D 124 [.ref 0] (mW w σ) K ↔ K (Int32.ofNat (lateN τ ρ)) (mW w σ) :=
  cI_of (m := 1) (fun d hd Q hQ => b124_0 (lp_124 hw hP hp hτ hv hρ h hd hQ (τ 2) 0 (Nat.zero_add _))) rfl hD
end
section
/-! the class: common divisors, grades, bytes on the tape -/
theorem ol_int {a : Nat} (h : a < 9223372036854775808) : (Int64.ofNat a).toInt = a := by
  rw [Int64.toInt_ofNat']
  show Int.bmod (a : Int) 18446744073709551616 = a
  exact Int.bmod_eq_of_le (by omega) (by omega)
theorem ol_inj {a b : Nat} (ha : a < 9223372036854775808) (hb : b < 9223372036854775808) : (Int64.ofNat a = Int64.ofNat b) ↔ a = b := by
  constructor
  · intro h
    have h2 := congrArg Int64.toInt h
    rw [ol_int ha, ol_int hb] at h2
    omega
  · intro h; rw [h]
theorem ol_div {a b : Nat} (ha : a < 9223372036854775808) (hb : b < 9223372036854775808) : Int64.ofNat a / Int64.ofNat b = Int64.ofNat (a / b) := by
  have hle : a / b ≤ a := Nat.div_le_self a b
  apply Int64.toInt_inj.mp
  rw [Int64.toInt_div, ol_int ha, ol_int hb, ol_int (Nat.lt_of_le_of_lt hle ha)]
  have e : (a : Int).tdiv (b : Int) = ((a / b : Nat) : Int) := by rw [Int.tdiv_eq_ediv_of_nonneg (by omega)]; rfl
  rw [e]
  have key : ∀ q : Nat, q < 9223372036854775808 → Int.bmod (q : Int) 18446744073709551616 = (q : Int) := fun q hq => Int.bmod_eq_of_le (by omega) (by omega)
  exact key (a / b) (Nat.lt_of_le_of_lt hle ha)
theorem ol_mod {a b : Nat} (ha : a < 9223372036854775808) (hb : b < 9223372036854775808) : Int64.ofNat a - Int64.ofNat a / Int64.ofNat b * Int64.ofNat b = Int64.ofNat (a % b) := by
  rw [ol_div ha hb, ← Int64.ofNat_mul, Int64.sub_eq_iff_eq_add, ← Int64.ofNat_add, Nat.mul_comm (a / b) b, Nat.mod_add_div]
theorem of_dv {a b : Nat} (ha : a < 2147483648) (hb : b < 2147483648) : Int32.ofNat a / Int32.ofNat b = Int32.ofNat (a / b) := by
  have hle : a / b ≤ a := Nat.div_le_self a b
  apply Int32.toInt_inj.mp
  rw [Int32.toInt_div, on_int ha, on_int hb, on_int (Nat.lt_of_le_of_lt hle ha)]
  have e : (a : Int).tdiv (b : Int) = ((a / b : Nat) : Int) := by rw [Int.tdiv_eq_ediv_of_nonneg (by omega)]; rfl
  rw [e]
  have key : ∀ q : Nat, q < 2147483648 → Int.bmod (q : Int) 4294967296 = (q : Int) := fun q hq => Int.bmod_eq_of_le (by omega) (by omega)
  exact key (a / b) (Nat.lt_of_le_of_lt hle ha)
def gc1 (a b : Nat) : Nat := max 1 (Nat.gcd a b)
theorem gc1_0 {a : Nat} : gc1 a 0 = max 1 a := by unfold gc1; rw [Nat.gcd_zero_right]
theorem gc1_s {a b : Nat} : gc1 a b = gc1 b (a % b) := by
  unfold gc1
  rw [Nat.gcd_comm a b, Nat.gcd_rec b a, Nat.gcd_comm]
theorem gc1_pos {a b : Nat} : 1 ≤ gc1 a b := Nat.le_max_left _ _
theorem gc1_le {a b : Nat} (h : 0 < b) : gc1 a b ≤ b := Nat.max_le.mpr ⟨h, Nat.gcd_le_right a h⟩
theorem lm_1 {a : Nat} (h : a < 9223372036854775808) : (if Int64.ofNat a < (1 : Int64) then (1 : Int64) else Int64.ofNat a) = Int64.ofNat (max 1 a) := by
  by_cases z : a < 1
  · rw [if_pos (by rw [Int64.lt_iff_toInt_lt, ol_int h, show (1 : Int64).toInt = 1 by decide]; omega), show max 1 a = 1 by omega]; rfl
  · rw [if_neg (by rw [Int64.lt_iff_toInt_lt, ol_int h, show (1 : Int64).toInt = 1 by decide]; omega), show max 1 a = a by omega]
theorem r1_127 {hp : Hp} {d a : Nat} {i : Int32} {a5 : Int64} {Q : Option (Option Value) → Hp → Prop} (ha : a < 9223372036854775808) (hQ : Q (some (some (.long (Int64.ofNat (max 1 a))))) hp) : Wp 127 3 [.long (Int64.ofNat a), jk, .long (Int64.ofNat 0), jk, .int i, .long a5, jk] [] hp Q d := by
  refine b127_3a ?_
  rw [lm_1 ha]
  have c : (lg_cmp (Int64.ofNat 0) (0 : Int64) = 0) ↔ True := iff_true_intro ((lg_cmp_eq _ _).mpr rfl)
  by_cases z : (100 : Int32) ≤ i
  · simp only [↓br_pos, ↓br_neg, ↓rF_I, ↓rF_L, ↓rF_R, ↓rF_N, rO_m, rB_m, ↓rI_m, wI_m, ↓rB2_m, ↓rB3_m, wB2_m, wB3_m, ↓rL_m, wL_m, ↓rQ_m, wQ_m, ↓lI_m, pI_m, pL_m, pR_m, sI_m, sBy_m, sBo_m, sL_m, sQ_m, fst_m, true_and, and_true, tg_some, ln_some, uI_1, uI_2, uL_1, uL_2, uL_3, uQ_1, uQ_2, uQ_3, rv_i, rv_l, rv_n, rv_b0, rv_b1, RMR, ne_eq, reduceCtorEq, not_false_eq_true, Option.getD_some, if_true, if_false, and_self, false_and, and_false, Nat.add_left_cancel_iff, Nat.add_eq_left, Nat.left_eq_add, Nat.one_ne_zero, Nat.reduceAdd, Nat.reduceLT, Nat.reduceLeDiff, Nat.reduceEqDiff, true_implies, false_implies, implies_true, Option.some.injEq, forall_eq', forall_eq, reduceCtorEq, brT, brF, br_s, i_10, i_01, ib_0_2, ib_1_2, tn_0, tn_1, Int32.le_refl, eq_self, rv_bN, rv_iM, z]
    exact hQ
  · simp only [↓br_pos, ↓br_neg, ↓rF_I, ↓rF_L, ↓rF_R, ↓rF_N, rO_m, rB_m, ↓rI_m, wI_m, ↓rB2_m, ↓rB3_m, wB2_m, wB3_m, ↓rL_m, wL_m, ↓rQ_m, wQ_m, ↓lI_m, pI_m, pL_m, pR_m, sI_m, sBy_m, sBo_m, sL_m, sQ_m, fst_m, true_and, and_true, tg_some, ln_some, uI_1, uI_2, uL_1, uL_2, uL_3, uQ_1, uQ_2, uQ_3, rv_i, rv_l, rv_n, rv_b0, rv_b1, RMR, ne_eq, reduceCtorEq, not_false_eq_true, Option.getD_some, if_true, if_false, and_self, false_and, and_false, Nat.add_left_cancel_iff, Nat.add_eq_left, Nat.left_eq_add, Nat.one_ne_zero, Nat.reduceAdd, Nat.reduceLT, Nat.reduceLeDiff, Nat.reduceEqDiff, true_implies, false_implies, implies_true, Option.some.injEq, forall_eq', forall_eq, reduceCtorEq, brT, brF, br_s, i_10, i_01, ib_0_2, ib_1_2, tn_0, tn_1, Int32.le_refl, eq_self, rv_bN, rv_iM, z, c]
    exact hQ
theorem r2_127 {hp : Hp} {d a b i : Nat} {a5 : Int64} {Q : Option (Option Value) → Hp → Prop} (ha : a < 9223372036854775808) (hb : b < 9223372036854775808) (hb0 : b ≠ 0) (hi : i < 100) (h : Wp 127 3 [.long (Int64.ofNat b), jk, .long (Int64.ofNat (a % b)), jk, .int (Int32.ofNat (i + 1)), .long (Int64.ofNat (a % b)), jk] [] hp Q d) : Wp 127 3 [.long (Int64.ofNat a), jk, .long (Int64.ofNat b), jk, .int (Int32.ofNat i), .long a5, jk] [] hp Q d := by
  have nb : (Int64.ofNat b = 0) ↔ False := iff_false_intro (fun q => hb0 ((ol_inj (b := 0) hb (by omega)).mp q))
  have c : (lg_cmp (Int64.ofNat b) (0 : Int64) = 0) ↔ False := iff_false_intro (fun q => nb.mp ((lg_cmp_eq _ _).mp q))
  have l1 : ((100 : Int32) ≤ Int32.ofNat i) ↔ False := iff_false_intro (fun q => absurd ((on_le (i := 100) (by omega) (by omega)).mp q) (by omega))
  refine b127_3a ?_
  simp only [↓br_pos, ↓br_neg, ↓rF_I, ↓rF_L, ↓rF_R, ↓rF_N, rO_m, rB_m, ↓rI_m, wI_m, ↓rB2_m, ↓rB3_m, wB2_m, wB3_m, ↓rL_m, wL_m, ↓rQ_m, wQ_m, ↓lI_m, pI_m, pL_m, pR_m, sI_m, sBy_m, sBo_m, sL_m, sQ_m, fst_m, true_and, and_true, tg_some, ln_some, uI_1, uI_2, uL_1, uL_2, uL_3, uQ_1, uQ_2, uQ_3, rv_i, rv_l, rv_n, rv_b0, rv_b1, RMR, ne_eq, reduceCtorEq, not_false_eq_true, Option.getD_some, if_true, if_false, and_self, false_and, and_false, Nat.add_left_cancel_iff, Nat.add_eq_left, Nat.left_eq_add, Nat.one_ne_zero, Nat.reduceAdd, Nat.reduceLT, Nat.reduceLeDiff, Nat.reduceEqDiff, true_implies, false_implies, implies_true, Option.some.injEq, forall_eq', forall_eq, reduceCtorEq, brT, brF, br_s, i_10, i_01, ib_0_2, ib_1_2, tn_0, tn_1, Int32.le_refl, eq_self, rv_bN, rv_iM, l1, c, nb, ol_mod ha hb]
  refine b127_26 ?_
  rw [on_succ]
  exact h
theorem mod_half {b r : Nat} (hr : 0 < r) (h : r < b) : b % r < b / 2 + 1 ∧ 2 * (b % r) < b := by
  have h1 := Nat.mod_lt b hr
  by_cases z : 2 * r ≤ b
  · omega
  · have e : b % r = b - r := by
      rw [Nat.mod_eq_sub_mod (by omega), Nat.mod_eq_of_lt (by omega)]
    omega
theorem lp_127 {hp : Hp} {d : Nat} {Q : Option (Option Value) → Hp → Prop} : ∀ (k i a b : Nat) (a5 : Int64), i + 2 * k ≤ 100 → a < 9223372036854775808 → b < 9223372036854775808 → b < 2 ^ k → Q (some (some (.long (Int64.ofNat (gc1 a b))))) hp → Wp 127 3 [.long (Int64.ofNat a), jk, .long (Int64.ofNat b), jk, .int (Int32.ofNat i), .long a5, jk] [] hp Q d := by
  intro k
  induction k with
  | zero =>
    intro i a b a5 hi ha hb hk hQ
    have e : b = 0 := by omega
    subst e
    rw [gc1_0] at hQ
    exact r1_127 ha hQ
  | succ k ih =>
    intro i a b a5 hi ha hb hk hQ
    by_cases z : b = 0
    · subst z
      rw [gc1_0] at hQ
      exact r1_127 ha hQ
    · have hm := Nat.mod_lt a (Nat.pos_of_ne_zero z)
      rw [gc1_s] at hQ
      refine r2_127 ha hb z (by omega) ?_
      by_cases y : a % b = 0
      · rw [y] at hQ ⊢
        rw [gc1_0] at hQ
        exact r1_127 hb hQ
      · rw [gc1_s] at hQ
        have hh := mod_half (Nat.pos_of_ne_zero y) hm
        rw [Nat.pow_succ] at hk
        refine r2_127 hb (by omega) y (by omega) (ih (i + 1 + 1) _ _ _ (by omega) (by omega) (by omega) (by omega) hQ)
theorem g_127 {w : mT} {σ : mS} {a b D : Nat} {K : Int64 → Hp → Prop} (ha : a < 35184372088832) (hb : b < 35184372088832) (hD : 1 ≤ D) : wpL D 127 [.long (Int64.ofNat a), .long (Int64.ofNat b)] (mW w σ) K ↔ K (Int64.ofNat (gc1 a b)) (mW w σ) := by
  refine cL_of (m := 0) (fun d hd Q hQ => ?_) rfl hD
  refine b127_0 ?_
  have l1 : ((100 : Int32) ≤ 0) ↔ False := by decide
  by_cases z : b = 0
  · subst z
    rw [gc1_0] at hQ
    have c : (lg_cmp (Int64.ofNat 0) (0 : Int64) = 0) ↔ True := iff_true_intro ((lg_cmp_eq _ _).mpr rfl)
    refine b127_3 ?_
    rw [lm_1 (by omega)]
    simp only [↓br_pos, ↓br_neg, ↓rF_I, ↓rF_L, ↓rF_R, ↓rF_N, rO_m, rB_m, ↓rI_m, wI_m, ↓rB2_m, ↓rB3_m, wB2_m, wB3_m, ↓rL_m, wL_m, ↓rQ_m, wQ_m, ↓lI_m, pI_m, pL_m, pR_m, sI_m, sBy_m, sBo_m, sL_m, sQ_m, fst_m, true_and, and_true, tg_some, ln_some, uI_1, uI_2, uL_1, uL_2, uL_3, uQ_1, uQ_2, uQ_3, rv_i, rv_l, rv_n, rv_b0, rv_b1, RMR, ne_eq, reduceCtorEq, not_false_eq_true, Option.getD_some, if_true, if_false, and_self, false_and, and_false, Nat.add_left_cancel_iff, Nat.add_eq_left, Nat.left_eq_add, Nat.one_ne_zero, Nat.reduceAdd, Nat.reduceLT, Nat.reduceLeDiff, Nat.reduceEqDiff, true_implies, false_implies, implies_true, Option.some.injEq, forall_eq', forall_eq, reduceCtorEq, brT, brF, br_s, i_10, i_01, ib_0_2, ib_1_2, tn_0, tn_1, Int32.le_refl, eq_self, rv_bN, rv_iM, l1, c]
    exact hQ
  · have nb : (Int64.ofNat b = 0) ↔ False := iff_false_intro (fun q => z ((ol_inj (b := 0) (by omega) (by omega)).mp q))
    have c : (lg_cmp (Int64.ofNat b) (0 : Int64) = 0) ↔ False := iff_false_intro (fun q => nb.mp ((lg_cmp_eq _ _).mp q))
    have hm := Nat.mod_lt a (Nat.pos_of_ne_zero z)
    rw [gc1_s] at hQ
    refine b127_3 ?_
    simp only [↓br_pos, ↓br_neg, ↓rF_I, ↓rF_L, ↓rF_R, ↓rF_N, rO_m, rB_m, ↓rI_m, wI_m, ↓rB2_m, ↓rB3_m, wB2_m, wB3_m, ↓rL_m, wL_m, ↓rQ_m, wQ_m, ↓lI_m, pI_m, pL_m, pR_m, sI_m, sBy_m, sBo_m, sL_m, sQ_m, fst_m, true_and, and_true, tg_some, ln_some, uI_1, uI_2, uL_1, uL_2, uL_3, uQ_1, uQ_2, uQ_3, rv_i, rv_l, rv_n, rv_b0, rv_b1, RMR, ne_eq, reduceCtorEq, not_false_eq_true, Option.getD_some, if_true, if_false, and_self, false_and, and_false, Nat.add_left_cancel_iff, Nat.add_eq_left, Nat.left_eq_add, Nat.one_ne_zero, Nat.reduceAdd, Nat.reduceLT, Nat.reduceLeDiff, Nat.reduceEqDiff, true_implies, false_implies, implies_true, Option.some.injEq, forall_eq', forall_eq, reduceCtorEq, brT, brF, br_s, i_10, i_01, ib_0_2, ib_1_2, tn_0, tn_1, Int32.le_refl, eq_self, rv_bN, rv_iM, l1, c, nb, ol_mod (show a < 9223372036854775808 by omega) (show b < 9223372036854775808 by omega)]
    refine b127_26 ?_
    exact lp_127 45 1 b (a % b) _ (by omega) (by omega) (by omega) (by omega) hQ
/-- a grade is told -/
theorem i64_of {a : Nat} (h : a < 2147483648) : Int32.toInt64 (Int32.ofNat a) = Int64.ofNat a := by
  apply Int64.toInt_inj.mp
  rw [Int32.toInt_toInt64, on_int h, ol_int (by omega)]
theorem g_126z {w : mT} {σ : mS} {O : Int32} {D : Nat} {K : Int32 → Hp → Prop} (hD : 2 ≤ D) : wpI D 126 [.ref 0, .int (Int32.ofNat 0), .int O] (mW w σ) K ↔ K (-2) (mW w σ) := by
  refine cI_of (m := 1) (fun d hd Q hQ => ?_) rfl hD
  refine b126_0 ?_
  have c : (Int32.ofNat 0 = 0) ↔ True := by decide
  simp only [↓br_pos, ↓br_neg, ↓rF_I, ↓rF_L, ↓rF_R, ↓rF_N, rO_m, rB_m, ↓rI_m, wI_m, ↓rB2_m, ↓rB3_m, wB2_m, wB3_m, ↓rL_m, wL_m, ↓rQ_m, wQ_m, ↓lI_m, pI_m, pL_m, pR_m, sI_m, sBy_m, sBo_m, sL_m, sQ_m, fst_m, true_and, and_true, tg_some, ln_some, uI_1, uI_2, uL_1, uL_2, uL_3, uQ_1, uQ_2, uQ_3, rv_i, rv_l, rv_n, rv_b0, rv_b1, RMR, ne_eq, reduceCtorEq, not_false_eq_true, Option.getD_some, if_true, if_false, and_self, false_and, and_false, Nat.add_left_cancel_iff, Nat.add_eq_left, Nat.left_eq_add, Nat.one_ne_zero, Nat.reduceAdd, Nat.reduceLT, Nat.reduceLeDiff, Nat.reduceEqDiff, true_implies, false_implies, implies_true, Option.some.injEq, forall_eq', forall_eq, reduceCtorEq, brT, brF, br_s, i_10, i_01, ib_0_2, ib_1_2, tn_0, tn_1, Int32.le_refl, eq_self, rv_bN, rv_iM, c]
  exact hQ
theorem g_126 {w : mT} {σ : mS} {T O D : Nat} {K : Int32 → Hp → Prop} (hw : lit w) (hT : T ≠ 0) (hT2 : T < 2147483648) (hO : O < 2147483648) (hD : 2 ≤ D) : wpI D 126 [.ref 0, .int (Int32.ofNat T), .int (Int32.ofNat O)] (mW w σ) K ↔ K (Int32.ofNat (O / gc1 O T)) (mW w (uI σ 0 11 (Int32.ofNat (T / gc1 O T)))) := by
  refine cI_of (m := 1) (fun d hd Q hQ => ?_) rfl hD
  refine b126_0 ?_
  have c : (Int32.ofNat T = 0) ↔ False := iff_false_intro (fun q => hT ((of_eq0 hT2).mp q))
  have g1 := gc1_pos (a := O) (b := T)
  have g2 := gc1_le (a := O) (b := T) (by omega)
  have cg : (Int32.ofNat (gc1 O T) = 0) ↔ False := iff_false_intro (fun q => absurd ((of_eq0 (by omega)).mp q) (by omega))
  simp only [↓br_pos, ↓br_neg, ↓rF_I, ↓rF_L, ↓rF_R, ↓rF_N, rO_m, rB_m, ↓rI_m, wI_m, ↓rB2_m, ↓rB3_m, wB2_m, wB3_m, ↓rL_m, wL_m, ↓rQ_m, wQ_m, ↓lI_m, pI_m, pL_m, pR_m, sI_m, sBy_m, sBo_m, sL_m, sQ_m, fst_m, true_and, and_true, tg_some, ln_some, uI_1, uI_2, uL_1, uL_2, uL_3, uQ_1, uQ_2, uQ_3, rv_i, rv_l, rv_n, rv_b0, rv_b1, RMR, ne_eq, reduceCtorEq, not_false_eq_true, Option.getD_some, if_true, if_false, and_self, false_and, and_false, Nat.add_left_cancel_iff, Nat.add_eq_left, Nat.left_eq_add, Nat.one_ne_zero, Nat.reduceAdd, Nat.reduceLT, Nat.reduceLeDiff, Nat.reduceEqDiff, true_implies, false_implies, implies_true, Option.some.injEq, forall_eq', forall_eq, reduceCtorEq, brT, brF, br_s, i_10, i_01, ib_0_2, ib_1_2, tn_0, tn_1, Int32.le_refl, eq_self, rv_bN, rv_iM, RCX 0, RCG 2, RCT 4, RCT 15, RCT 25, RCS 35, RCS 49, RCH 63, RCP 67, RCB 72, RCR 77, RCM 81, RLY, lit_at hw, c, i64_of hT2, i64_of hO, g_127 (w := w) (σ := σ) (show O < 35184372088832 by omega) (show T < 35184372088832 by omega) hd, Int64.toInt32_ofNat', cg, of_dv hT2 (show gc1 O T < 2147483648 by omega), of_dv hO (show gc1 O T < 2147483648 by omega)]
  exact hQ
/-- bytes -/
theorem and255 (x : Int32) : ∃ k : Nat, x &&& 255 = Int32.ofNat k ∧ k < 256 := by
  have h1 : (x &&& 255).toBitVec.toNat ≤ 255 := by
    rw [Int32.toBitVec_and, BitVec.toNat_and]
    exact Nat.and_le_right
  refine ⟨(x &&& 255).toBitVec.toNat, ?_, by omega⟩
  apply Int32.toInt_inj.mp
  rw [on_int (by omega)]
  show (x &&& 255).toBitVec.toInt = _
  rw [BitVec.toInt_eq_toNat_of_lt (by omega)]
def byN (x : Int32) : Nat := (x &&& 255).toNatClampNeg
theorem byN_e {x : Int32} : x &&& 255 = Int32.ofNat (byN x) := by
  obtain ⟨k, e, hk⟩ := and255 x
  unfold byN
  rw [e, on_nat (by omega)]
theorem byN_lt {x : Int32} : byN x < 256 := by
  obtain ⟨k, e, hk⟩ := and255 x
  unfold byN
  rw [e, on_nat (by omega)]; exact hk
/-- what a number leaves on the tape -/
def tPut (t : Nat → Nat) (tp : Nat) (v : Int32) : Nat → Nat := fun i => if i = tp + 3 then byN (v >>> 0) else if i = tp + 2 then byN (v >>> 8) else if i = tp + 1 then byN (v >>> 16) else if i = tp then byN (v >>> 24) else t i
theorem tPut_lt {t : Nat → Nat} {tp : Nat} {v : Int32} (h : ∀ i, t i < 256) : ∀ i, tPut t tp v i < 256 := fun i => by
  unfold tPut
  split
  · exact byN_lt
  split
  · exact byN_lt
  split
  · exact byN_lt
  split
  · exact byN_lt
  exact h i
theorem g_117 {w : mT} {σ : mS} {t : Nat → Nat} {tp : Nat} {v : Int32} (hw : lit w) (h1 : σ.1 0 1 = Int32.ofNat tp) (htp : tp + 4 ≤ 600) (ht : ∀ i, i < 600 → σ.1 1 i = Int32.ofNat (t i)) : ∃ σ', ((∀ a, 2 ≤ a → σ'.1 a = σ.1 a) ∧ σ'.2 = σ.2 ∧ ∀ j, j ≠ 1 → σ'.1 0 j = σ.1 0 j) ∧ σ'.1 0 1 = Int32.ofNat (tp + 4) ∧ (∀ i, i < 600 → σ'.1 1 i = Int32.ofNat (tPut t tp v i)) ∧ ∀ {D : Nat} {K : Hp → Prop}, 1 ≤ D → (wpV D 117 [.ref 0, .int v] (mW w σ) K ↔ K (mW w σ')) := by
  refine ⟨uI (uI (uI (uI (uI (uI (uI (uI σ 1 tp (Int32.ofNat (byN (v >>> 24)))) 0 1 (Int32.ofNat (tp + 1))) 1 (tp + 1) (Int32.ofNat (byN (v >>> 16)))) 0 1 (Int32.ofNat (tp + 1 + 1))) 1 (tp + 1 + 1) (Int32.ofNat (byN (v >>> 8)))) 0 1 (Int32.ofNat (tp + 1 + 1 + 1))) 1 (tp + 1 + 1 + 1) (Int32.ofNat (byN (v >>> 0)))) 0 1 (Int32.ofNat (tp + 1 + 1 + 1 + 1)), ⟨fun a ha => funext fun j => ?_, rfl, fun j hj => ?_⟩, ?_, fun i hi => ?_, fun hD => cV_of (m := 0) (fun d hd Q hQ => ?_) rfl hD⟩
  · rw [uI_1, if_neg (by omega), uI_1, if_neg (by omega), uI_1, if_neg (by omega), uI_1, if_neg (by omega), uI_1, if_neg (by omega), uI_1, if_neg (by omega), uI_1, if_neg (by omega), uI_1, if_neg (by omega)]
  · rw [uI_1, if_neg (by omega), uI_1, if_neg (by omega), uI_1, if_neg (by omega), uI_1, if_neg (by omega), uI_1, if_neg (by omega), uI_1, if_neg (by omega), uI_1, if_neg (by omega), uI_1, if_neg (by omega)]
  · rw [uI_1, if_pos ⟨rfl, rfl⟩]
  · unfold tPut
    rw [uI_1, if_neg (by omega), uI_1]
    by_cases e3 : i = tp + 3
    · rw [if_pos ⟨rfl, e3⟩, if_pos e3]
    rw [if_neg (fun q => e3 q.2), if_neg e3, uI_1, if_neg (by omega), uI_1]
    by_cases e2 : i = tp + 2
    · rw [if_pos ⟨rfl, e2⟩, if_pos e2]
    rw [if_neg (fun q => e2 q.2), if_neg e2, uI_1, if_neg (by omega), uI_1]
    by_cases e1 : i = tp + 1
    · rw [if_pos ⟨rfl, e1⟩, if_pos e1]
    rw [if_neg (fun q => e1 q.2), if_neg e1, uI_1, if_neg (by omega), uI_1]
    by_cases e0 : i = tp
    · rw [if_pos ⟨rfl, e0⟩, if_pos e0]
    rw [if_neg (fun q => e0 q.2), if_neg e0]
    exact ht i hi
  · have s24 : ((24 : Int32) &&& 31) = 24 := by decide
    have s16 : ((16 : Int32) &&& 31) = 16 := by decide
    have s8 : ((8 : Int32) &&& 31) = 8 := by decide
    have s0 : ((0 : Int32) &&& 31) = 0 := by decide
    have p24 : (24 : Int32) + -8 = 16 := by decide
    have p16 : (16 : Int32) + -8 = 8 := by decide
    have p8 : (8 : Int32) + -8 = 0 := by decide
    have p0 : (0 : Int32) + -8 = -8 := by decide
    have n24 : ((24 : Int32) < 0) ↔ False := by decide
    have n16 : ((16 : Int32) < 0) ↔ False := by decide
    have n8 : ((8 : Int32) < 0) ↔ False := by decide
    have n0 : ((0 : Int32) < 0) ↔ False := by decide
    have nm : ((-8 : Int32) < 0) ↔ True := by decide
    have l6 : ∀ x : Nat, x < 600 → (((600 : Int32) ≤ Int32.ofNat x) ↔ False) := fun x hx => iff_false_intro (fun q => absurd ((on_le (i := 600) (by omega) (by omega)).mp q) (by omega))
    have eb : ∀ x : Nat, x < 600 → inB (Int32.ofNat x) 600 = true := fun x hx => on_inB hx (by omega)
    have en : ∀ x : Nat, x < 600 → (Int32.ofNat x).toNatClampNeg = x := fun x hx => on_nat (by omega)
    refine b117_0 ?_
    refine b117_3 ?_
    simp only [↓br_pos, ↓br_neg, ↓rF_I, ↓rF_L, ↓rF_R, ↓rF_N, rO_m, rB_m, ↓rI_m, wI_m, ↓rB2_m, ↓rB3_m, wB2_m, wB3_m, ↓rL_m, wL_m, ↓rQ_m, wQ_m, ↓lI_m, pI_m, pL_m, pR_m, sI_m, sBy_m, sBo_m, sL_m, sQ_m, fst_m, true_and, and_true, tg_some, ln_some, uI_1, uI_2, uL_1, uL_2, uL_3, uQ_1, uQ_2, uQ_3, rv_i, rv_l, rv_n, rv_b0, rv_b1, RMR, ne_eq, reduceCtorEq, not_false_eq_true, Option.getD_some, if_true, if_false, and_self, false_and, and_false, Nat.add_left_cancel_iff, Nat.add_eq_left, Nat.left_eq_add, Nat.one_ne_zero, Nat.reduceAdd, Nat.reduceLT, Nat.reduceLeDiff, Nat.reduceEqDiff, true_implies, false_implies, implies_true, Option.some.injEq, forall_eq', forall_eq, reduceCtorEq, brT, brF, br_s, i_10, i_01, ib_0_2, ib_1_2, tn_0, tn_1, Int32.le_refl, eq_self, rv_bN, rv_iM, RCX 0, RCG 2, RCT 4, RCT 15, RCT 25, RCS 35, RCS 49, RCH 63, RCP 67, RCB 72, RCR 77, RCM 81, RLY, lit_at hw, n24, h1, l6 tp (by omega), eb tp (by omega), en tp (by omega), s24, byN_e, p24, on_succ]
    refine b117_3 ?_
    simp only [↓br_pos, ↓br_neg, ↓rF_I, ↓rF_L, ↓rF_R, ↓rF_N, rO_m, rB_m, ↓rI_m, wI_m, ↓rB2_m, ↓rB3_m, wB2_m, wB3_m, ↓rL_m, wL_m, ↓rQ_m, wQ_m, ↓lI_m, pI_m, pL_m, pR_m, sI_m, sBy_m, sBo_m, sL_m, sQ_m, fst_m, true_and, and_true, tg_some, ln_some, uI_1, uI_2, uL_1, uL_2, uL_3, uQ_1, uQ_2, uQ_3, rv_i, rv_l, rv_n, rv_b0, rv_b1, RMR, ne_eq, reduceCtorEq, not_false_eq_true, Option.getD_some, if_true, if_false, and_self, false_and, and_false, Nat.add_left_cancel_iff, Nat.add_eq_left, Nat.left_eq_add, Nat.one_ne_zero, Nat.reduceAdd, Nat.reduceLT, Nat.reduceLeDiff, Nat.reduceEqDiff, true_implies, false_implies, implies_true, Option.some.injEq, forall_eq', forall_eq, reduceCtorEq, brT, brF, br_s, i_10, i_01, ib_0_2, ib_1_2, tn_0, tn_1, Int32.le_refl, eq_self, rv_bN, rv_iM, RCX 0, RCG 2, RCT 4, RCT 15, RCT 25, RCS 35, RCS 49, RCH 63, RCP 67, RCB 72, RCR 77, RCM 81, RLY, lit_at hw, n16, l6 (tp + 1) (by omega), eb (tp + 1) (by omega), en (tp + 1) (by omega), s16, byN_e, p16, on_succ]
    refine b117_3 ?_
    simp only [↓br_pos, ↓br_neg, ↓rF_I, ↓rF_L, ↓rF_R, ↓rF_N, rO_m, rB_m, ↓rI_m, wI_m, ↓rB2_m, ↓rB3_m, wB2_m, wB3_m, ↓rL_m, wL_m, ↓rQ_m, wQ_m, ↓lI_m, pI_m, pL_m, pR_m, sI_m, sBy_m, sBo_m, sL_m, sQ_m, fst_m, true_and, and_true, tg_some, ln_some, uI_1, uI_2, uL_1, uL_2, uL_3, uQ_1, uQ_2, uQ_3, rv_i, rv_l, rv_n, rv_b0, rv_b1, RMR, ne_eq, reduceCtorEq, not_false_eq_true, Option.getD_some, if_true, if_false, and_self, false_and, and_false, Nat.add_left_cancel_iff, Nat.add_eq_left, Nat.left_eq_add, Nat.one_ne_zero, Nat.reduceAdd, Nat.reduceLT, Nat.reduceLeDiff, Nat.reduceEqDiff, true_implies, false_implies, implies_true, Option.some.injEq, forall_eq', forall_eq, reduceCtorEq, brT, brF, br_s, i_10, i_01, ib_0_2, ib_1_2, tn_0, tn_1, Int32.le_refl, eq_self, rv_bN, rv_iM, RCX 0, RCG 2, RCT 4, RCT 15, RCT 25, RCS 35, RCS 49, RCH 63, RCP 67, RCB 72, RCR 77, RCM 81, RLY, lit_at hw, n8, l6 (tp + 1 + 1) (by omega), eb (tp + 1 + 1) (by omega), en (tp + 1 + 1) (by omega), s8, byN_e, p8, on_succ]
    refine b117_3 ?_
    simp only [↓br_pos, ↓br_neg, ↓rF_I, ↓rF_L, ↓rF_R, ↓rF_N, rO_m, rB_m, ↓rI_m, wI_m, ↓rB2_m, ↓rB3_m, wB2_m, wB3_m, ↓rL_m, wL_m, ↓rQ_m, wQ_m, ↓lI_m, pI_m, pL_m, pR_m, sI_m, sBy_m, sBo_m, sL_m, sQ_m, fst_m, true_and, and_true, tg_some, ln_some, uI_1, uI_2, uL_1, uL_2, uL_3, uQ_1, uQ_2, uQ_3, rv_i, rv_l, rv_n, rv_b0, rv_b1, RMR, ne_eq, reduceCtorEq, not_false_eq_true, Option.getD_some, if_true, if_false, and_self, false_and, and_false, Nat.add_left_cancel_iff, Nat.add_eq_left, Nat.left_eq_add, Nat.one_ne_zero, Nat.reduceAdd, Nat.reduceLT, Nat.reduceLeDiff, Nat.reduceEqDiff, true_implies, false_implies, implies_true, Option.some.injEq, forall_eq', forall_eq, reduceCtorEq, brT, brF, br_s, i_10, i_01, ib_0_2, ib_1_2, tn_0, tn_1, Int32.le_refl, eq_self, rv_bN, rv_iM, RCX 0, RCG 2, RCT 4, RCT 15, RCT 25, RCS 35, RCS 49, RCH 63, RCP 67, RCB 72, RCR 77, RCM 81, RLY, lit_at hw, n0, l6 (tp + 1 + 1 + 1) (by omega), eb (tp + 1 + 1 + 1) (by omega), en (tp + 1 + 1 + 1) (by omega), s0, byN_e, p0, on_succ]
    refine b117_3 ?_
    simp only [↓br_pos, ↓br_neg, ↓rF_I, ↓rF_L, ↓rF_R, ↓rF_N, rO_m, rB_m, ↓rI_m, wI_m, ↓rB2_m, ↓rB3_m, wB2_m, wB3_m, ↓rL_m, wL_m, ↓rQ_m, wQ_m, ↓lI_m, pI_m, pL_m, pR_m, sI_m, sBy_m, sBo_m, sL_m, sQ_m, fst_m, true_and, and_true, tg_some, ln_some, uI_1, uI_2, uL_1, uL_2, uL_3, uQ_1, uQ_2, uQ_3, rv_i, rv_l, rv_n, rv_b0, rv_b1, RMR, ne_eq, reduceCtorEq, not_false_eq_true, Option.getD_some, if_true, if_false, and_self, false_and, and_false, Nat.add_left_cancel_iff, Nat.add_eq_left, Nat.left_eq_add, Nat.one_ne_zero, Nat.reduceAdd, Nat.reduceLT, Nat.reduceLeDiff, Nat.reduceEqDiff, true_implies, false_implies, implies_true, Option.some.injEq, forall_eq', forall_eq, reduceCtorEq, brT, brF, br_s, i_10, i_01, ib_0_2, ib_1_2, tn_0, tn_1, Int32.le_refl, eq_self, rv_bN, rv_iM, nm]
    exact hQ
end
section
/-! the class's calls: feed, text -/
theorem frM_2 {σ σ' : mS} (h : ∀ a, 81 ≤ a → a < 99 → σ'.1 a = σ.1 a) (h2 : σ'.2 = σ.2) : frM σ σ' := fun a x1 x2 => ⟨h a x1 x2, by rw [h2], by rw [h2]⟩
def feedT (t : Nat → Nat) (tp : Nat) (a b c d e : Int32) : Nat → Nat := tPut (tPut (tPut (tPut (tPut t tp a) (tp + 4) b) (tp + 8) c) (tp + 12) d) (tp + 16) e
theorem c_76 {w : mT} {σ : mS} {tp n : Nat} {t : Nat → Nat} {τ ρ : Rw} {bk : Nat → Rw} {has : Nat → Bool} {im : Nat → Rw} {a b c e f : Int32} (h : cIn w σ tp t τ ρ n bk has im) : ∃ σ', frM σ σ' ∧ cIn w σ' (if tp + 20 ≤ 600 then tp + 20 else tp) (if tp + 20 ≤ 600 then feedT t tp a b c e f else t) τ ρ n bk has im ∧ ∀ {D : Nat} {K : Int32 → Hp → Prop}, 2 ≤ D → (wpI D 76 [.ref 0, .int a, .int b, .int c, .int e, .int f] (mW w σ) K ↔ K (if tp + 20 ≤ 600 then Int32.ofNat (tp + 20) else -1) (mW w σ')) := by
  have h' := h
  obtain ⟨hw, hS, hH, hP, hρ, hv, hr, h1, htp, htb, ht⟩ := h
  have lf : (Int32.ofNat tp + 20 ≤ (600 : Int32)) ↔ tp + 20 ≤ 600 := by
    rw [show Int32.ofNat tp + 20 = Int32.ofNat (tp + 20) from of_add]
    exact on_le (j := 600) (by omega) (by omega)
  by_cases z : tp + 20 ≤ 600
  · rw [if_pos z, if_pos z, if_pos z]
    obtain ⟨σ1, ⟨f1, g1, k1⟩, c1, b1, e1⟩ := g_117 (v := a) hw h1 (by omega) htb
    obtain ⟨σ2, ⟨f2, g2, k2⟩, c2, b2, e2⟩ := g_117 (v := b) hw c1 (by omega) b1
    obtain ⟨σ3, ⟨f3, g3, k3⟩, c3, b3, e3⟩ := g_117 (v := c) hw c2 (by omega) b2
    obtain ⟨σ4, ⟨f4, g4, k4⟩, c4, b4, e4⟩ := g_117 (v := e) hw c3 (by omega) b3
    obtain ⟨σ5, ⟨f5, g5, k5⟩, c5, b5, e5⟩ := g_117 (v := f) hw c4 (by omega) b4
    have ff : ∀ a, 2 ≤ a → σ5.1 a = σ.1 a := fun a ha => by rw [f5 a ha, f4 a ha, f3 a ha, f2 a ha, f1 a ha]
    have gg : σ5.2 = σ.2 := by rw [g5, g4, g3, g2, g1]
    refine ⟨σ5, frM_2 (fun a x1 x2 => ff a (by omega)) gg, ?_, fun hD => cI_of (m := 1) (fun d hd Q hQ => ?_) rfl hD⟩
    · obtain ⟨o, H⟩ := hH
      obtain ⟨P, q1, q2, q3, q4⟩ := hP
      have rs : ∀ a, sl σ5 a = sl σ a := fun a => sl_c (by rw [gg]) (by rw [gg])
      have HH : hiT σ5 τ n o bk has im := by
        obtain ⟨d1, d2, d3, d4, d5, d6⟩ := H
        refine ⟨by rw [ff 63 (by omega)]; exact d1, d2, by rw [ff 63 (by omega)]; exact d3, d4, fun i hi => ?_, fun k hk => ?_⟩
        · obtain ⟨x0, q, x1, x2⟩ := d5 i hi
          obtain ⟨y1, y2, y3⟩ := hS.1 _ q (by omega) x1
          exact ⟨x0, q, by rw [rs]; exact x1, tSt_fr x2 (fun b hb1 hb2 => ff b (by omega))⟩
        · obtain ⟨x1, x2⟩ := d6 k hk
          refine ⟨by rw [ff 66 (by omega)]; exact x1, fun hh => ?_⟩
          obtain ⟨z0, q, z1, z2⟩ := x2 hh
          obtain ⟨y1, y2, y3⟩ := hS.1 _ q (by omega) z1
          exact ⟨z0, q, by rw [rs]; exact z1, tSt_fr z2 (fun b hb1 hb2 => ff b (by omega))⟩
      exact ⟨hw, hiS_c hS (fun a _ => rs a), ⟨o, HH⟩, ⟨P, q1, by rw [gg]; exact q2, by rw [gg]; exact q3, tTold_fr q4 (fun a x1 x2 => ff a (by omega))⟩, tSt_fr hρ (fun a x1 x2 => ff a (by omega)), hv, hr, c5, by omega, b5, fun i => tPut_lt (tPut_lt (tPut_lt (tPut_lt (tPut_lt ht)))) i⟩
    · have hd1 : 1 ≤ d := by omega
      have zz := iff_true_intro (lf.mpr z)
      refine b76_0 ?_
      simp only [↓br_pos, ↓br_neg, ↓rF_I, ↓rF_L, ↓rF_R, ↓rF_N, rO_m, rB_m, ↓rI_m, wI_m, ↓rB2_m, ↓rB3_m, wB2_m, wB3_m, ↓rL_m, wL_m, ↓rQ_m, wQ_m, ↓lI_m, pI_m, pL_m, pR_m, sI_m, sBy_m, sBo_m, sL_m, sQ_m, fst_m, true_and, and_true, tg_some, ln_some, uI_1, uI_2, uL_1, uL_2, uL_3, uQ_1, uQ_2, uQ_3, rv_i, rv_l, rv_n, rv_b0, rv_b1, RMR, ne_eq, reduceCtorEq, not_false_eq_true, Option.getD_some, if_true, if_false, and_self, false_and, and_false, Nat.add_left_cancel_iff, Nat.add_eq_left, Nat.left_eq_add, Nat.one_ne_zero, Nat.reduceAdd, Nat.reduceLT, Nat.reduceLeDiff, Nat.reduceEqDiff, true_implies, false_implies, implies_true, Option.some.injEq, forall_eq', forall_eq, reduceCtorEq, brT, brF, br_s, i_10, i_01, ib_0_2, ib_1_2, tn_0, tn_1, Int32.le_refl, eq_self, rv_bN, rv_iM, RCX 0, RCG 2, RCT 4, RCT 15, RCT 25, RCS 35, RCS 49, RCH 63, RCP 67, RCB 72, RCR 77, RCM 81, RLY, lit_at hw, h1, zz, e1 hd1, e2 hd1, e3 hd1, e4 hd1, e5 hd1, c5]
      exact hQ
  · rw [if_neg z, if_neg z, if_neg z]
    refine ⟨σ, frM_rf, h', fun hD => cI_of (m := 1) (fun d hd Q hQ => ?_) rfl hD⟩
    have zz := iff_false_intro (fun q => z (lf.mp q))
    refine b76_0 ?_
    simp only [↓br_pos, ↓br_neg, ↓rF_I, ↓rF_L, ↓rF_R, ↓rF_N, rO_m, rB_m, ↓rI_m, wI_m, ↓rB2_m, ↓rB3_m, wB2_m, wB3_m, ↓rL_m, wL_m, ↓rQ_m, wQ_m, ↓lI_m, pI_m, pL_m, pR_m, sI_m, sBy_m, sBo_m, sL_m, sQ_m, fst_m, true_and, and_true, tg_some, ln_some, uI_1, uI_2, uL_1, uL_2, uL_3, uQ_1, uQ_2, uQ_3, rv_i, rv_l, rv_n, rv_b0, rv_b1, RMR, ne_eq, reduceCtorEq, not_false_eq_true, Option.getD_some, if_true, if_false, and_self, false_and, and_false, Nat.add_left_cancel_iff, Nat.add_eq_left, Nat.left_eq_add, Nat.one_ne_zero, Nat.reduceAdd, Nat.reduceLT, Nat.reduceLeDiff, Nat.reduceEqDiff, true_implies, false_implies, implies_true, Option.some.injEq, forall_eq', forall_eq, reduceCtorEq, brT, brF, br_s, i_10, i_01, ib_0_2, ib_1_2, tn_0, tn_1, Int32.le_refl, eq_self, rv_bN, rv_iM, RCX 0, RCG 2, RCT 4, RCT 15, RCT 25, RCS 35, RCS 49, RCH 63, RCP 67, RCB 72, RCR 77, RCM 81, RLY, lit_at hw, h1, zz]
    exact hQ
/-- text: what it refuses -/
theorem c_77z {w : mT} {σ : mS} {tp D : Nat} {a : Int32} {K : Int32 → Hp → Prop} (hw : lit w) (h1 : σ.1 0 1 = Int32.ofNat tp) (htp : tp ≤ 600) (ha : ¬ (0 ≤ a.toInt ∧ a.toInt ≤ (tp : Nat))) (hD : 8 ≤ D) : wpI D 77 [.ref 0, .int a] (mW w σ) K ↔ K (-1) (mW w σ) := by
  refine cI_of (m := 7) (fun d hd Q hQ => ?_) rfl hD
  refine b77_0 ?_
  by_cases z : a < 0
  · simp only [↓br_pos, ↓br_neg, ↓rF_I, ↓rF_L, ↓rF_R, ↓rF_N, rO_m, rB_m, ↓rI_m, wI_m, ↓rB2_m, ↓rB3_m, wB2_m, wB3_m, ↓rL_m, wL_m, ↓rQ_m, wQ_m, ↓lI_m, pI_m, pL_m, pR_m, sI_m, sBy_m, sBo_m, sL_m, sQ_m, fst_m, true_and, and_true, tg_some, ln_some, uI_1, uI_2, uL_1, uL_2, uL_3, uQ_1, uQ_2, uQ_3, rv_i, rv_l, rv_n, rv_b0, rv_b1, RMR, ne_eq, reduceCtorEq, not_false_eq_true, Option.getD_some, if_true, if_false, and_self, false_and, and_false, Nat.add_left_cancel_iff, Nat.add_eq_left, Nat.left_eq_add, Nat.one_ne_zero, Nat.reduceAdd, Nat.reduceLT, Nat.reduceLeDiff, Nat.reduceEqDiff, true_implies, false_implies, implies_true, Option.some.injEq, forall_eq', forall_eq, reduceCtorEq, brT, brF, br_s, i_10, i_01, ib_0_2, ib_1_2, tn_0, tn_1, Int32.le_refl, eq_self, rv_bN, rv_iM, z]
    exact hQ
  · have z2 : ¬ a ≤ Int32.ofNat tp := by
      intro q
      rw [i_lt, show (0 : Int32).toInt = 0 by decide] at z
      rw [i_le, on_int (by omega)] at q
      exact ha ⟨by omega, by omega⟩
    simp only [↓br_pos, ↓br_neg, ↓rF_I, ↓rF_L, ↓rF_R, ↓rF_N, rO_m, rB_m, ↓rI_m, wI_m, ↓rB2_m, ↓rB3_m, wB2_m, wB3_m, ↓rL_m, wL_m, ↓rQ_m, wQ_m, ↓lI_m, pI_m, pL_m, pR_m, sI_m, sBy_m, sBo_m, sL_m, sQ_m, fst_m, true_and, and_true, tg_some, ln_some, uI_1, uI_2, uL_1, uL_2, uL_3, uQ_1, uQ_2, uQ_3, rv_i, rv_l, rv_n, rv_b0, rv_b1, RMR, ne_eq, reduceCtorEq, not_false_eq_true, Option.getD_some, if_true, if_false, and_self, false_and, and_false, Nat.add_left_cancel_iff, Nat.add_eq_left, Nat.left_eq_add, Nat.one_ne_zero, Nat.reduceAdd, Nat.reduceLT, Nat.reduceLeDiff, Nat.reduceEqDiff, true_implies, false_implies, implies_true, Option.some.injEq, forall_eq', forall_eq, reduceCtorEq, brT, brF, br_s, i_10, i_01, ib_0_2, ib_1_2, tn_0, tn_1, Int32.le_refl, eq_self, rv_bN, rv_iM, RCX 0, RCG 2, RCT 4, RCT 15, RCT 25, RCS 35, RCS 49, RCH 63, RCP 67, RCB 72, RCR 77, RCM 81, RLY, lit_at hw, z, h1, z2]
    exact hQ
theorem c_77_15 {w : mT} {σ : mS} {tp n m : Nat} {t : Nat → Nat} {τ ρ : Rw} {bk : Nat → Rw} {has : Nat → Bool} {im : Nat → Rw} (h : cIn w σ tp t τ ρ n bk has im) (hp : σ.2.2 0 3 = some 15) (hs : σ.2.2 0 4 = some 25) (hτ : tTold σ 15 τ) (hm : m ≤ tp) : ∃ σ', frM σ σ' ∧ (if (rAll t m).1 = 0 then cIn w σ' 0 t (rAll t m).2.1 (sBeg (rAll t m).2.1) 0 (fun _ => τ00) (fun _ => false) (fun _ => τ00) else cIn w σ' 0 t τ ρ n bk has im) ∧ ∀ {D : Nat} {K : Int32 → Hp → Prop}, 8 ≤ D → (wpI D 77 [.ref 0, .int (Int32.ofNat m)] (mW w σ) K ↔ K (if (rAll t m).1 = 0 then Int32.ofNat (rAll t m).2.2 else -2 - Int32.ofNat (rAll t m).1) (mW w σ')) := by
  obtain ⟨hw, hS, ⟨o, H⟩, -, hρ, hv, hr, h1, htp, htb, ht⟩ := h
  have fr0 : frM σ (uI σ 0 1 0) := frM_I (by omega)
  obtain ⟨σ1, y1, z1, lt1, e1⟩ := g_27_25 (σ := uI σ 0 1 0) (t := t) (n := m) hw ht (fun i hi => by rw [uI_1, if_neg (by omega)]; exact htb i hi) (by omega)
  obtain ⟨ya, yb, yc⟩ := y1
  have r1 : ∀ a, a ≠ 0 → a ≠ 2 → a ≠ 14 → (a < 25 ∨ 35 ≤ a) → σ1.1 a = σ.1 a := fun a a0 a2 a14 ar => by rw [ya a a2 a14 ar]; exact (uI_ne a0).1
  have r10 : ∀ j, j ≠ 1 → σ1.1 0 j = σ.1 0 j := fun j hj => by rw [ya 0 (by omega) (by omega) (by omega), uI_1, if_neg (fun q => hj q.2)]
  have r11 : σ1.1 0 1 = 0 := by rw [ya 0 (by omega) (by omega) (by omega), uI_1, if_pos ⟨rfl, rfl⟩]
  have q1 : ∀ a, a ≠ 2 → σ1.2.2 a = σ.2.2 a := fun a ha => yc a ha
  have p3 : σ1.2.2 0 3 = some 15 := by rw [q1 0 (by omega)]; exact hp
  have p4 : σ1.2.2 0 4 = some 25 := by rw [q1 0 (by omega)]; exact hs
  have fr1 : frM σ σ1 := fun a x1 x2 => ⟨r1 a (by omega) (by omega) (by omega) (by omega), by rw [yb]; rfl, q1 a (by omega)⟩
  have l0 := of_lt0 (a := m) (by omega)
  have l1 : (Int32.ofNat m ≤ Int32.ofNat tp) ↔ True := iff_true_intro ((on_le (by omega) (by omega)).mpr hm)
  have sl1 : ∀ a, sl σ1 a = sl σ a := fun a => sl_c (q1 64 (by omega)) (q1 65 (by omega))
  by_cases z : (rAll t m).1 = 0
  · simp only [if_pos z]
    obtain ⟨t1, v1, ln1⟩ := z1 z
    have T2 : tTold (uQ (uQ σ1 0 3 (some 25)) 0 4 (some 15)) 25 (rAll t m).2.1 := t1
    obtain ⟨σ2, f2, t2, e2⟩ := g_48 (r := 35) (t := 25) (isS35 hw) (isT25 hw) T2 v1 (by omega)
    have H2 : hiT σ2 τ n o bk has im := by
      obtain ⟨d1, d2, d3, d4, d5, d6⟩ := H
      have rr : ∀ a, 63 ≤ a → σ2.1 a = σ.1 a := fun a ha => by rw [f2.1 a (by omega)]; exact r1 a (by omega) (by omega) (by omega) (by omega)
      have rs : ∀ a, sl σ2 a = sl σ a := fun a => by
        rw [← sl1 a]
        refine sl_c ?_ ?_
        · rw [f2.2]; exact funext fun j => by rw [uQ_3, if_neg (by omega), uQ_3, if_neg (by omega)]
        · rw [f2.2]; exact funext fun j => by rw [uQ_3, if_neg (by omega), uQ_3, if_neg (by omega)]
      refine ⟨by rw [rr 63 (by omega)]; exact d1, d2, by rw [rr 63 (by omega)]; exact d3, d4, fun i hi => ?_, fun k hk => ?_⟩
      · obtain ⟨x0, q, x1, x2⟩ := d5 i hi
        obtain ⟨y1, y2, y3⟩ := hS.1 _ q (by omega) x1
        exact ⟨x0, q, by rw [rs]; exact x1, tSt_fr x2 (fun b hb1 hb2 => rr b (by omega))⟩
      · obtain ⟨x1, x2⟩ := d6 k hk
        refine ⟨by rw [rr 66 (by omega)]; exact x1, fun hh => ?_⟩
        obtain ⟨z0, q, z1, z2⟩ := x2 hh
        obtain ⟨y1, y2, y3⟩ := hS.1 _ q (by omega) z1
        exact ⟨z0, q, by rw [rs]; exact z1, tSt_fr z2 (fun b hb1 hb2 => rr b (by omega))⟩
    have H3 := hiT_0 (τ' := (rAll t m).2.1) (bk' := fun _ => τ00) (im' := fun _ => τ00) H2
    refine ⟨uL (uL (uI (uI (uI (uI σ2 63 2 0) 66 0 0) 66 1 0) 0 11 1) 0 12 1) 0 13 1, ?_, ?_, fun hD => cI_of (m := 7) (fun d hd Q hQ => ?_) rfl hD⟩
    · refine frM_tr fr1 (frM_tr (frM_tr (frM_Q (a := 0) (j := 3) (x := some 25) (by omega)) (frM_tr (frM_Q (a := 0) (j := 4) (x := some 15) (by omega)) (frM_2 (fun a x1 x2 => f2.1 a (by omega)) f2.2))) ?_)
      exact frM_tr (frM_I (by omega)) (frM_tr (frM_I (by omega)) (frM_tr (frM_I (by omega)) (frM_tr (frM_I (by omega)) (frM_tr (frM_L (by omega)) (frM_L (by omega))))))
    · have rr : ∀ a, a ≠ 0 → a ≠ 63 → a ≠ 66 → (uL (uL (uI (uI (uI (uI σ2 63 2 0) 66 0 0) 66 1 0) 0 11 1) 0 12 1) 0 13 1).1 a = σ2.1 a := fun a a0 a63 a66 => by
        show (uI (uI (uI (uI σ2 63 2 0) 66 0 0) 66 1 0) 0 11 1).1 a = _
        rw [(uI_ne a0).1, (uI_ne a66).1, (uI_ne a66).1, (uI_ne a63).1]
      have sq : ∀ a, (uL (uL (uI (uI (uI (uI σ2 63 2 0) 66 0 0) 66 1 0) 0 11 1) 0 12 1) 0 13 1).2.2 a = (uQ (uQ σ1 0 3 (some 25)) 0 4 (some 15)).2.2 a := fun a => by
        show σ2.2.2 a = _
        rw [f2.2]
      have rs : ∀ a, sl (uL (uL (uI (uI (uI (uI σ2 63 2 0) 66 0 0) 66 1 0) 0 11 1) 0 12 1) 0 13 1) a = sl σ a := fun a => by
        rw [← sl1 a]
        refine sl_c ?_ ?_
        · rw [sq 64]; exact funext fun j => by rw [uQ_3, if_neg (by omega), uQ_3, if_neg (by omega)]
        · rw [sq 65]; exact funext fun j => by rw [uQ_3, if_neg (by omega), uQ_3, if_neg (by omega)]
      have H4 : hiT (uL (uL (uI (uI (uI (uI σ2 63 2 0) 66 0 0) 66 1 0) 0 11 1) 0 12 1) 0 13 1) (rAll t m).2.1 0 o (fun _ => τ00) (fun _ => false) (fun _ => τ00) := by
        obtain ⟨d1, d2, d3, d4, d5, d6⟩ := H3
        refine ⟨?_, d2, ?_, d4, fun i hi => absurd hi (Nat.not_lt_zero _), fun k hk => ⟨?_, fun q => Bool.noConfusion q⟩⟩
        · show (uI (uI (uI (uI σ2 63 2 0) 66 0 0) 66 1 0) 0 11 1).1 63 1 = _
          rw [(uI_ne (by omega)).1]; exact d1
        · show (uI (uI (uI (uI σ2 63 2 0) 66 0 0) 66 1 0) 0 11 1).1 63 2 = _
          rw [(uI_ne (by omega)).1]; exact d3
        · show (uI (uI (uI (uI σ2 63 2 0) 66 0 0) 66 1 0) 0 11 1).1 66 k = _
          rw [(uI_ne (by omega)).1]; exact (d6 k hk).1
      refine ⟨hw, hiS_c hS (fun a _ => rs a), ⟨o, H4⟩, ⟨25, by omega, ?_, ?_, tTold_fr (tTold_R T2 f2 (by omega)) (fun a x1 x2 => rr a (by omega) (by omega) (by omega))⟩, tSt_fr t2 (fun a x1 x2 => rr a (by omega) (by omega) (by omega)), v1, vRow_beg v1, ?_, by omega, fun i hi => ?_, ht⟩
      · rw [sq 0, uQ_3, if_neg (by omega), uQ_3, if_pos ⟨rfl, rfl⟩]
      · rw [sq 0, uQ_3, if_pos ⟨rfl, rfl⟩]
      · show (uI (uI (uI (uI σ2 63 2 0) 66 0 0) 66 1 0) 0 11 1).1 0 1 = _
        rw [uI_1, if_neg (by omega), (uI_ne (by omega)).1, (uI_ne (by omega)).1, (uI_ne (by omega)).1, f2.1 0 (by omega)]; exact r11
      · rw [rr 1 (by omega) (by omega) (by omega), f2.1 1 (by omega)]
        show σ1.1 1 i = _
        rw [r1 1 (by omega) (by omega) (by omega) (by omega)]; exact htb i hi
    · have hd1 : 1 ≤ d := by omega
      have hd2 : 2 ≤ d := by omega
      have hd3 : 3 ≤ d := by omega
      have hd4 : 4 ≤ d := by omega
      have hd5 : 5 ≤ d := by omega
      have hd6 : 6 ≤ d := by omega
      have hd7 : 7 ≤ d := by omega
      have s3 : σ2.2.2 0 3 = some 25 := by rw [f2.2, uQ_3, if_neg (by omega), uQ_3, if_pos ⟨rfl, rfl⟩]
      have fz : (Int32.ofNat (rAll t m).1 = 0) ↔ True := iff_true_intro (by rw [z]; rfl)
      have s0 : σ2.1 25 0 = Int32.ofNat (rAll t m).2.2 := by rw [f2.1 25 (by omega)]; exact ln1
      refine b77_0 ?_
      simp only [↓br_pos, ↓br_neg, ↓rF_I, ↓rF_L, ↓rF_R, ↓rF_N, rO_m, rB_m, ↓rI_m, wI_m, ↓rB2_m, ↓rB3_m, wB2_m, wB3_m, ↓rL_m, wL_m, ↓rQ_m, wQ_m, ↓lI_m, pI_m, pL_m, pR_m, sI_m, sBy_m, sBo_m, sL_m, sQ_m, fst_m, true_and, and_true, tg_some, ln_some, uI_1, uI_2, uL_1, uL_2, uL_3, uQ_1, uQ_2, uQ_3, rv_i, rv_l, rv_n, rv_b0, rv_b1, RMR, ne_eq, reduceCtorEq, not_false_eq_true, Option.getD_some, if_true, if_false, and_self, false_and, and_false, Nat.add_left_cancel_iff, Nat.add_eq_left, Nat.left_eq_add, Nat.one_ne_zero, Nat.reduceAdd, Nat.reduceLT, Nat.reduceLeDiff, Nat.reduceEqDiff, true_implies, false_implies, implies_true, Option.some.injEq, forall_eq', forall_eq, reduceCtorEq, brT, brF, br_s, i_10, i_01, ib_0_2, ib_1_2, tn_0, tn_1, Int32.le_refl, eq_self, rv_bN, rv_iM, RCX 0, RCG 2, RCT 4, RCT 15, RCT 25, RCS 35, RCS 49, RCH 63, RCP 67, RCB 72, RCR 77, RCM 81, RLY, lit_at hw, l0, h1, l1, hs, e1 hd7, fz, p3, p4, e2 hd1, g_9 hw hd1, s3, s0]
      exact hQ
  · simp only [if_neg z]
    refine ⟨σ1, fr1, ?_, fun hD => cI_of (m := 7) (fun d hd Q hQ => ?_) rfl hD⟩
    · have HH : hiT σ1 τ n o bk has im := by
        obtain ⟨d1, d2, d3, d4, d5, d6⟩ := H
        refine ⟨by rw [r1 63 (by omega) (by omega) (by omega) (by omega)]; exact d1, d2, by rw [r1 63 (by omega) (by omega) (by omega) (by omega)]; exact d3, d4, fun i hi => ?_, fun k hk => ?_⟩
        · obtain ⟨x0, q, x1, x2⟩ := d5 i hi
          obtain ⟨y1, y2, y3⟩ := hS.1 _ q (by omega) x1
          exact ⟨x0, q, by rw [sl1]; exact x1, tSt_fr x2 (fun b hb1 hb2 => r1 b (by omega) (by omega) (by omega) (by omega))⟩
        · obtain ⟨x1, x2⟩ := d6 k hk
          refine ⟨by rw [r1 66 (by omega) (by omega) (by omega) (by omega)]; exact x1, fun hh => ?_⟩
          obtain ⟨z0, q, z1, z2⟩ := x2 hh
          obtain ⟨y1, y2, y3⟩ := hS.1 _ q (by omega) z1
          exact ⟨z0, q, by rw [sl1]; exact z1, tSt_fr z2 (fun b hb1 hb2 => r1 b (by omega) (by omega) (by omega) (by omega))⟩
      exact ⟨hw, hiS_c hS (fun a _ => sl1 a), ⟨o, HH⟩, ⟨15, by omega, p3, p4, tTold_fr hτ (fun a x1 x2 => r1 a (by omega) (by omega) (by omega) (by omega))⟩, tSt_fr hρ (fun a x1 x2 => r1 a (by omega) (by omega) (by omega) (by omega)), hv, hr, r11, by omega, fun i hi => by rw [r1 1 (by omega) (by omega) (by omega) (by omega)]; exact htb i hi, ht⟩
    · have hd1 : 1 ≤ d := by omega
      have hd2 : 2 ≤ d := by omega
      have hd3 : 3 ≤ d := by omega
      have hd4 : 4 ≤ d := by omega
      have hd5 : 5 ≤ d := by omega
      have hd6 : 6 ≤ d := by omega
      have hd7 : 7 ≤ d := by omega
      have fz : (Int32.ofNat (rAll t m).1 = 0) ↔ False := iff_false_intro (fun q => z ((of_eq0 (by omega)).mp q))
      refine b77_0 ?_
      simp only [↓br_pos, ↓br_neg, ↓rF_I, ↓rF_L, ↓rF_R, ↓rF_N, rO_m, rB_m, ↓rI_m, wI_m, ↓rB2_m, ↓rB3_m, wB2_m, wB3_m, ↓rL_m, wL_m, ↓rQ_m, wQ_m, ↓lI_m, pI_m, pL_m, pR_m, sI_m, sBy_m, sBo_m, sL_m, sQ_m, fst_m, true_and, and_true, tg_some, ln_some, uI_1, uI_2, uL_1, uL_2, uL_3, uQ_1, uQ_2, uQ_3, rv_i, rv_l, rv_n, rv_b0, rv_b1, RMR, ne_eq, reduceCtorEq, not_false_eq_true, Option.getD_some, if_true, if_false, and_self, false_and, and_false, Nat.add_left_cancel_iff, Nat.add_eq_left, Nat.left_eq_add, Nat.one_ne_zero, Nat.reduceAdd, Nat.reduceLT, Nat.reduceLeDiff, Nat.reduceEqDiff, true_implies, false_implies, implies_true, Option.some.injEq, forall_eq', forall_eq, reduceCtorEq, brT, brF, br_s, i_10, i_01, ib_0_2, ib_1_2, tn_0, tn_1, Int32.le_refl, eq_self, rv_bN, rv_iM, RCX 0, RCG 2, RCT 4, RCT 15, RCT 25, RCS 35, RCS 49, RCH 63, RCP 67, RCB 72, RCR 77, RCM 81, RLY, lit_at hw, l0, h1, l1, hs, e1 hd7, fz]
      exact hQ
theorem c_77_25 {w : mT} {σ : mS} {tp n m : Nat} {t : Nat → Nat} {τ ρ : Rw} {bk : Nat → Rw} {has : Nat → Bool} {im : Nat → Rw} (h : cIn w σ tp t τ ρ n bk has im) (hp : σ.2.2 0 3 = some 25) (hs : σ.2.2 0 4 = some 15) (hτ : tTold σ 25 τ) (hm : m ≤ tp) : ∃ σ', frM σ σ' ∧ (if (rAll t m).1 = 0 then cIn w σ' 0 t (rAll t m).2.1 (sBeg (rAll t m).2.1) 0 (fun _ => τ00) (fun _ => false) (fun _ => τ00) else cIn w σ' 0 t τ ρ n bk has im) ∧ ∀ {D : Nat} {K : Int32 → Hp → Prop}, 8 ≤ D → (wpI D 77 [.ref 0, .int (Int32.ofNat m)] (mW w σ) K ↔ K (if (rAll t m).1 = 0 then Int32.ofNat (rAll t m).2.2 else -2 - Int32.ofNat (rAll t m).1) (mW w σ')) := by
  obtain ⟨hw, hS, ⟨o, H⟩, -, hρ, hv, hr, h1, htp, htb, ht⟩ := h
  have fr0 : frM σ (uI σ 0 1 0) := frM_I (by omega)
  obtain ⟨σ1, y1, z1, lt1, e1⟩ := g_27_15 (σ := uI σ 0 1 0) (t := t) (n := m) hw ht (fun i hi => by rw [uI_1, if_neg (by omega)]; exact htb i hi) (by omega)
  obtain ⟨ya, yb, yc⟩ := y1
  have r1 : ∀ a, a ≠ 0 → a ≠ 2 → a ≠ 14 → (a < 15 ∨ 25 ≤ a) → σ1.1 a = σ.1 a := fun a a0 a2 a14 ar => by rw [ya a a2 a14 ar]; exact (uI_ne a0).1
  have r10 : ∀ j, j ≠ 1 → σ1.1 0 j = σ.1 0 j := fun j hj => by rw [ya 0 (by omega) (by omega) (by omega), uI_1, if_neg (fun q => hj q.2)]
  have r11 : σ1.1 0 1 = 0 := by rw [ya 0 (by omega) (by omega) (by omega), uI_1, if_pos ⟨rfl, rfl⟩]
  have q1 : ∀ a, a ≠ 2 → σ1.2.2 a = σ.2.2 a := fun a ha => yc a ha
  have p3 : σ1.2.2 0 3 = some 25 := by rw [q1 0 (by omega)]; exact hp
  have p4 : σ1.2.2 0 4 = some 15 := by rw [q1 0 (by omega)]; exact hs
  have fr1 : frM σ σ1 := fun a x1 x2 => ⟨r1 a (by omega) (by omega) (by omega) (by omega), by rw [yb]; rfl, q1 a (by omega)⟩
  have l0 := of_lt0 (a := m) (by omega)
  have l1 : (Int32.ofNat m ≤ Int32.ofNat tp) ↔ True := iff_true_intro ((on_le (by omega) (by omega)).mpr hm)
  have sl1 : ∀ a, sl σ1 a = sl σ a := fun a => sl_c (q1 64 (by omega)) (q1 65 (by omega))
  by_cases z : (rAll t m).1 = 0
  · simp only [if_pos z]
    obtain ⟨t1, v1, ln1⟩ := z1 z
    have T2 : tTold (uQ (uQ σ1 0 3 (some 15)) 0 4 (some 25)) 15 (rAll t m).2.1 := t1
    obtain ⟨σ2, f2, t2, e2⟩ := g_48 (r := 35) (t := 15) (isS35 hw) (isT15 hw) T2 v1 (by omega)
    have H2 : hiT σ2 τ n o bk has im := by
      obtain ⟨d1, d2, d3, d4, d5, d6⟩ := H
      have rr : ∀ a, 63 ≤ a → σ2.1 a = σ.1 a := fun a ha => by rw [f2.1 a (by omega)]; exact r1 a (by omega) (by omega) (by omega) (by omega)
      have rs : ∀ a, sl σ2 a = sl σ a := fun a => by
        rw [← sl1 a]
        refine sl_c ?_ ?_
        · rw [f2.2]; exact funext fun j => by rw [uQ_3, if_neg (by omega), uQ_3, if_neg (by omega)]
        · rw [f2.2]; exact funext fun j => by rw [uQ_3, if_neg (by omega), uQ_3, if_neg (by omega)]
      refine ⟨by rw [rr 63 (by omega)]; exact d1, d2, by rw [rr 63 (by omega)]; exact d3, d4, fun i hi => ?_, fun k hk => ?_⟩
      · obtain ⟨x0, q, x1, x2⟩ := d5 i hi
        obtain ⟨y1, y2, y3⟩ := hS.1 _ q (by omega) x1
        exact ⟨x0, q, by rw [rs]; exact x1, tSt_fr x2 (fun b hb1 hb2 => rr b (by omega))⟩
      · obtain ⟨x1, x2⟩ := d6 k hk
        refine ⟨by rw [rr 66 (by omega)]; exact x1, fun hh => ?_⟩
        obtain ⟨z0, q, z1, z2⟩ := x2 hh
        obtain ⟨y1, y2, y3⟩ := hS.1 _ q (by omega) z1
        exact ⟨z0, q, by rw [rs]; exact z1, tSt_fr z2 (fun b hb1 hb2 => rr b (by omega))⟩
    have H3 := hiT_0 (τ' := (rAll t m).2.1) (bk' := fun _ => τ00) (im' := fun _ => τ00) H2
    refine ⟨uL (uL (uI (uI (uI (uI σ2 63 2 0) 66 0 0) 66 1 0) 0 11 1) 0 12 1) 0 13 1, ?_, ?_, fun hD => cI_of (m := 7) (fun d hd Q hQ => ?_) rfl hD⟩
    · refine frM_tr fr1 (frM_tr (frM_tr (frM_Q (a := 0) (j := 3) (x := some 15) (by omega)) (frM_tr (frM_Q (a := 0) (j := 4) (x := some 25) (by omega)) (frM_2 (fun a x1 x2 => f2.1 a (by omega)) f2.2))) ?_)
      exact frM_tr (frM_I (by omega)) (frM_tr (frM_I (by omega)) (frM_tr (frM_I (by omega)) (frM_tr (frM_I (by omega)) (frM_tr (frM_L (by omega)) (frM_L (by omega))))))
    · have rr : ∀ a, a ≠ 0 → a ≠ 63 → a ≠ 66 → (uL (uL (uI (uI (uI (uI σ2 63 2 0) 66 0 0) 66 1 0) 0 11 1) 0 12 1) 0 13 1).1 a = σ2.1 a := fun a a0 a63 a66 => by
        show (uI (uI (uI (uI σ2 63 2 0) 66 0 0) 66 1 0) 0 11 1).1 a = _
        rw [(uI_ne a0).1, (uI_ne a66).1, (uI_ne a66).1, (uI_ne a63).1]
      have sq : ∀ a, (uL (uL (uI (uI (uI (uI σ2 63 2 0) 66 0 0) 66 1 0) 0 11 1) 0 12 1) 0 13 1).2.2 a = (uQ (uQ σ1 0 3 (some 15)) 0 4 (some 25)).2.2 a := fun a => by
        show σ2.2.2 a = _
        rw [f2.2]
      have rs : ∀ a, sl (uL (uL (uI (uI (uI (uI σ2 63 2 0) 66 0 0) 66 1 0) 0 11 1) 0 12 1) 0 13 1) a = sl σ a := fun a => by
        rw [← sl1 a]
        refine sl_c ?_ ?_
        · rw [sq 64]; exact funext fun j => by rw [uQ_3, if_neg (by omega), uQ_3, if_neg (by omega)]
        · rw [sq 65]; exact funext fun j => by rw [uQ_3, if_neg (by omega), uQ_3, if_neg (by omega)]
      have H4 : hiT (uL (uL (uI (uI (uI (uI σ2 63 2 0) 66 0 0) 66 1 0) 0 11 1) 0 12 1) 0 13 1) (rAll t m).2.1 0 o (fun _ => τ00) (fun _ => false) (fun _ => τ00) := by
        obtain ⟨d1, d2, d3, d4, d5, d6⟩ := H3
        refine ⟨?_, d2, ?_, d4, fun i hi => absurd hi (Nat.not_lt_zero _), fun k hk => ⟨?_, fun q => Bool.noConfusion q⟩⟩
        · show (uI (uI (uI (uI σ2 63 2 0) 66 0 0) 66 1 0) 0 11 1).1 63 1 = _
          rw [(uI_ne (by omega)).1]; exact d1
        · show (uI (uI (uI (uI σ2 63 2 0) 66 0 0) 66 1 0) 0 11 1).1 63 2 = _
          rw [(uI_ne (by omega)).1]; exact d3
        · show (uI (uI (uI (uI σ2 63 2 0) 66 0 0) 66 1 0) 0 11 1).1 66 k = _
          rw [(uI_ne (by omega)).1]; exact (d6 k hk).1
      refine ⟨hw, hiS_c hS (fun a _ => rs a), ⟨o, H4⟩, ⟨15, by omega, ?_, ?_, tTold_fr (tTold_R T2 f2 (by omega)) (fun a x1 x2 => rr a (by omega) (by omega) (by omega))⟩, tSt_fr t2 (fun a x1 x2 => rr a (by omega) (by omega) (by omega)), v1, vRow_beg v1, ?_, by omega, fun i hi => ?_, ht⟩
      · rw [sq 0, uQ_3, if_neg (by omega), uQ_3, if_pos ⟨rfl, rfl⟩]
      · rw [sq 0, uQ_3, if_pos ⟨rfl, rfl⟩]
      · show (uI (uI (uI (uI σ2 63 2 0) 66 0 0) 66 1 0) 0 11 1).1 0 1 = _
        rw [uI_1, if_neg (by omega), (uI_ne (by omega)).1, (uI_ne (by omega)).1, (uI_ne (by omega)).1, f2.1 0 (by omega)]; exact r11
      · rw [rr 1 (by omega) (by omega) (by omega), f2.1 1 (by omega)]
        show σ1.1 1 i = _
        rw [r1 1 (by omega) (by omega) (by omega) (by omega)]; exact htb i hi
    · have hd1 : 1 ≤ d := by omega
      have hd2 : 2 ≤ d := by omega
      have hd3 : 3 ≤ d := by omega
      have hd4 : 4 ≤ d := by omega
      have hd5 : 5 ≤ d := by omega
      have hd6 : 6 ≤ d := by omega
      have hd7 : 7 ≤ d := by omega
      have s3 : σ2.2.2 0 3 = some 15 := by rw [f2.2, uQ_3, if_neg (by omega), uQ_3, if_pos ⟨rfl, rfl⟩]
      have fz : (Int32.ofNat (rAll t m).1 = 0) ↔ True := iff_true_intro (by rw [z]; rfl)
      have s0 : σ2.1 15 0 = Int32.ofNat (rAll t m).2.2 := by rw [f2.1 15 (by omega)]; exact ln1
      refine b77_0 ?_
      simp only [↓br_pos, ↓br_neg, ↓rF_I, ↓rF_L, ↓rF_R, ↓rF_N, rO_m, rB_m, ↓rI_m, wI_m, ↓rB2_m, ↓rB3_m, wB2_m, wB3_m, ↓rL_m, wL_m, ↓rQ_m, wQ_m, ↓lI_m, pI_m, pL_m, pR_m, sI_m, sBy_m, sBo_m, sL_m, sQ_m, fst_m, true_and, and_true, tg_some, ln_some, uI_1, uI_2, uL_1, uL_2, uL_3, uQ_1, uQ_2, uQ_3, rv_i, rv_l, rv_n, rv_b0, rv_b1, RMR, ne_eq, reduceCtorEq, not_false_eq_true, Option.getD_some, if_true, if_false, and_self, false_and, and_false, Nat.add_left_cancel_iff, Nat.add_eq_left, Nat.left_eq_add, Nat.one_ne_zero, Nat.reduceAdd, Nat.reduceLT, Nat.reduceLeDiff, Nat.reduceEqDiff, true_implies, false_implies, implies_true, Option.some.injEq, forall_eq', forall_eq, reduceCtorEq, brT, brF, br_s, i_10, i_01, ib_0_2, ib_1_2, tn_0, tn_1, Int32.le_refl, eq_self, rv_bN, rv_iM, RCX 0, RCG 2, RCT 4, RCT 15, RCT 25, RCS 35, RCS 49, RCH 63, RCP 67, RCB 72, RCR 77, RCM 81, RLY, lit_at hw, l0, h1, l1, hs, e1 hd7, fz, p3, p4, e2 hd1, g_9 hw hd1, s3, s0]
      exact hQ
  · simp only [if_neg z]
    refine ⟨σ1, fr1, ?_, fun hD => cI_of (m := 7) (fun d hd Q hQ => ?_) rfl hD⟩
    · have HH : hiT σ1 τ n o bk has im := by
        obtain ⟨d1, d2, d3, d4, d5, d6⟩ := H
        refine ⟨by rw [r1 63 (by omega) (by omega) (by omega) (by omega)]; exact d1, d2, by rw [r1 63 (by omega) (by omega) (by omega) (by omega)]; exact d3, d4, fun i hi => ?_, fun k hk => ?_⟩
        · obtain ⟨x0, q, x1, x2⟩ := d5 i hi
          obtain ⟨y1, y2, y3⟩ := hS.1 _ q (by omega) x1
          exact ⟨x0, q, by rw [sl1]; exact x1, tSt_fr x2 (fun b hb1 hb2 => r1 b (by omega) (by omega) (by omega) (by omega))⟩
        · obtain ⟨x1, x2⟩ := d6 k hk
          refine ⟨by rw [r1 66 (by omega) (by omega) (by omega) (by omega)]; exact x1, fun hh => ?_⟩
          obtain ⟨z0, q, z1, z2⟩ := x2 hh
          obtain ⟨y1, y2, y3⟩ := hS.1 _ q (by omega) z1
          exact ⟨z0, q, by rw [sl1]; exact z1, tSt_fr z2 (fun b hb1 hb2 => r1 b (by omega) (by omega) (by omega) (by omega))⟩
      exact ⟨hw, hiS_c hS (fun a _ => sl1 a), ⟨o, HH⟩, ⟨25, by omega, p3, p4, tTold_fr hτ (fun a x1 x2 => r1 a (by omega) (by omega) (by omega) (by omega))⟩, tSt_fr hρ (fun a x1 x2 => r1 a (by omega) (by omega) (by omega) (by omega)), hv, hr, r11, by omega, fun i hi => by rw [r1 1 (by omega) (by omega) (by omega) (by omega)]; exact htb i hi, ht⟩
    · have hd1 : 1 ≤ d := by omega
      have hd2 : 2 ≤ d := by omega
      have hd3 : 3 ≤ d := by omega
      have hd4 : 4 ≤ d := by omega
      have hd5 : 5 ≤ d := by omega
      have hd6 : 6 ≤ d := by omega
      have hd7 : 7 ≤ d := by omega
      have fz : (Int32.ofNat (rAll t m).1 = 0) ↔ False := iff_false_intro (fun q => z ((of_eq0 (by omega)).mp q))
      refine b77_0 ?_
      simp only [↓br_pos, ↓br_neg, ↓rF_I, ↓rF_L, ↓rF_R, ↓rF_N, rO_m, rB_m, ↓rI_m, wI_m, ↓rB2_m, ↓rB3_m, wB2_m, wB3_m, ↓rL_m, wL_m, ↓rQ_m, wQ_m, ↓lI_m, pI_m, pL_m, pR_m, sI_m, sBy_m, sBo_m, sL_m, sQ_m, fst_m, true_and, and_true, tg_some, ln_some, uI_1, uI_2, uL_1, uL_2, uL_3, uQ_1, uQ_2, uQ_3, rv_i, rv_l, rv_n, rv_b0, rv_b1, RMR, ne_eq, reduceCtorEq, not_false_eq_true, Option.getD_some, if_true, if_false, and_self, false_and, and_false, Nat.add_left_cancel_iff, Nat.add_eq_left, Nat.left_eq_add, Nat.one_ne_zero, Nat.reduceAdd, Nat.reduceLT, Nat.reduceLeDiff, Nat.reduceEqDiff, true_implies, false_implies, implies_true, Option.some.injEq, forall_eq', forall_eq, reduceCtorEq, brT, brF, br_s, i_10, i_01, ib_0_2, ib_1_2, tn_0, tn_1, Int32.le_refl, eq_self, rv_bN, rv_iM, RCX 0, RCG 2, RCT 4, RCT 15, RCT 25, RCS 35, RCS 49, RCH 63, RCP 67, RCB 72, RCR 77, RCM 81, RLY, lit_at hw, l0, h1, l1, hs, e1 hd7, fz]
      exact hQ
theorem c_77 {w : mT} {σ : mS} {tp n m : Nat} {t : Nat → Nat} {τ ρ : Rw} {bk : Nat → Rw} {has : Nat → Bool} {im : Nat → Rw} (h : cIn w σ tp t τ ρ n bk has im) (hm : m ≤ tp) : ∃ σ', frM σ σ' ∧ (if (rAll t m).1 = 0 then cIn w σ' 0 t (rAll t m).2.1 (sBeg (rAll t m).2.1) 0 (fun _ => τ00) (fun _ => false) (fun _ => τ00) else cIn w σ' 0 t τ ρ n bk has im) ∧ ∀ {D : Nat} {K : Int32 → Hp → Prop}, 8 ≤ D → (wpI D 77 [.ref 0, .int (Int32.ofNat m)] (mW w σ) K ↔ K (if (rAll t m).1 = 0 then Int32.ofNat (rAll t m).2.2 else -2 - Int32.ofNat (rAll t m).1) (mW w σ')) := by
  have h' := h
  obtain ⟨hw, hS, H, ⟨P, hP, p3, p4, hτ⟩, r⟩ := h
  rcases hP with rfl | rfl
  · exact c_77_15 h' p3 p4 hτ hm
  · exact c_77_25 h' p3 p4 hτ hm
end
section
/-! the class's calls: what is done -/
theorem cIn_mu {w : mT} {σ σ' : mS} {tp : Nat} {t : Nat → Nat} {τ ρ ρ' : Rw} {n : Nat} {bk : Nat → Rw} {has : Nat → Bool} {im : Nat → Rw} (h : cIn w σ tp t τ ρ n bk has im) (hf : frR 35 49 σ σ') (ht : tSt σ' 35 τ ρ') (hr : vRow τ ρ') : cIn w σ' tp t τ ρ' n bk has im := by
  obtain ⟨a1, a2, ⟨o, a3⟩, ⟨P, b1, b2, b3, b4⟩, a5, a6, a7, a8, a9, a10, a11⟩ := h
  have rs : ∀ a, sl σ' a = sl σ a := fun a => sl_c (by rw [hf.2]) (by rw [hf.2])
  obtain ⟨c1, c2, c3, c4, c5, c6⟩ := a3
  refine ⟨a1, hiS_c a2 (fun a _ => rs a), ⟨o, ?_, c2, ?_, c4, fun i hi => ?_, fun k hk => ?_⟩, ⟨P, b1, by rw [hf.2]; exact b2, by rw [hf.2]; exact b3, tTold_fr b4 (fun a x1 x2 => hf.1 a (by omega))⟩, ht, a6, hr, by rw [hf.1 0 (by omega)]; exact a8, a9, fun i hi => by rw [hf.1 1 (by omega)]; exact a10 i hi, a11⟩
  · rw [hf.1 63 (by omega)]; exact c1
  · rw [hf.1 63 (by omega)]; exact c3
  · obtain ⟨x0, q, x1, x2⟩ := c5 i hi
    obtain ⟨y1, y2, y3⟩ := a2.1 _ q (by omega) x1
    exact ⟨x0, q, by rw [rs]; exact x1, tSt_fr x2 (fun b hb1 hb2 => hf.1 b (by omega))⟩
  · obtain ⟨x1, x2⟩ := c6 k hk
    refine ⟨by rw [hf.1 66 (by omega)]; exact x1, fun hh => ?_⟩
    obtain ⟨z0, q, z1, z2⟩ := x2 hh
    obtain ⟨y1, y2, y3⟩ := a2.1 _ q (by omega) z1
    exact ⟨z0, q, by rw [rs]; exact z1, tSt_fr z2 (fun b hb1 hb2 => hf.1 b (by omega))⟩
theorem frM_D {lo hi : Nat} {σ σ' : mS} (h : frD lo hi σ σ') (h1 : hi ≤ 81) : frM σ σ' := fun a x1 x2 => h a x2 (by omega)
theorem frM_R {lo hi : Nat} {σ σ' : mS} (h : frR lo hi σ σ') (h1 : hi ≤ 81) : frM σ σ' := frM_2 (fun a x1 x2 => h.1 a (by omega)) h.2
/-- what was is kept -/
theorem k_11 {w : mT} {σ : mS} {tp n : Nat} {t : Nat → Nat} {τ ρ : Rw} {bk : Nat → Rw} {has : Nat → Bool} {im : Nat → Rw} (h : cIn w σ tp t τ ρ n bk has im) : ∃ w' σ', wExt w w' ∧ frD 63 66 σ σ' ∧ cIn w' σ' tp t τ ρ (nPh n) (bkPh n bk ρ) has im ∧ ∀ {D : Nat} {K : Hp → Prop}, 3 ≤ D → (wpV D 11 [.ref 63, .ref 35] (mW w σ) K ↔ K (mW w' σ')) := by
  obtain ⟨a1, a2, ⟨o, a3⟩, ⟨P, b1, b2, b3, b4⟩, a5, a6, a7, a8, a9, a10, a11⟩ := h
  obtain ⟨w', σ', x1, x2, x3, x4, x5⟩ := g_11 a1 a2 a3 a5 a6 a7
  have r : ∀ a, a < 63 → σ'.1 a = σ.1 a := fun a ha => (x2 a (by omega) (by omega)).1
  refine ⟨w', σ', x1, x2, ⟨lit_E x1 a2.2.2.1 a1, x3, ⟨_, x4⟩, ⟨P, b1, by rw [(x2 0 (by omega) (by omega)).2.2]; exact b2, by rw [(x2 0 (by omega) (by omega)).2.2]; exact b3, tTold_fr b4 (fun a y1 y2 => r a (by omega))⟩, tSt_fr a5 (fun a y1 y2 => r a (by omega)), a6, a7, by rw [r 0 (by omega)]; exact a8, a9, fun i hi => by rw [r 1 (by omega)]; exact a10 i hi, a11⟩, x5⟩
theorem sub_le {x g h : Nat} (hx : x < 1000000) (hg : g < 1000000) (hh : h < 1000000) : (Int32.ofNat x - Int32.ofNat g ≤ Int32.ofNat h) ↔ x ≤ h + g := by
  by_cases z : g ≤ x
  · rw [of_sub z, on_le (by omega) (by omega)]; omega
  · have e : Int32.ofNat x - Int32.ofNat g = - Int32.ofNat (g - x) := by rw [← of_sub (by omega : x ≤ g), Int32.neg_sub]
    rw [e, i_le, Int32.toInt_neg, on_int (by omega), on_int (by omega), Int.bmod_eq_of_le (by omega) (by omega)]
    omega
theorem max_2 {a b : Nat} (ha : a < 2147483648) (hb : b < 2147483648) : (if Int32.ofNat a < Int32.ofNat b then Int32.ofNat b else Int32.ofNat a) = Int32.ofNat (max a b) := by
  by_cases h : a < b
  · rw [if_pos ((on_lt ha hb).mpr h)]; congr 1; omega
  · rw [if_neg (fun q => h ((on_lt ha hb).mp q))]; congr 1; omega
/-- do both stay apart -/
def apLo (ρ : Rw) (m p a b : Nat) : Nat := if onAtD ρ m p = true then min (min a b) (cellAt ρ m) else min a b
def apHi (ρ : Rw) (m p a b : Nat) : Nat := if onAtD ρ m p = true then max (max a b) (cellAt ρ m) else max a b
abbrev apP (τ ρ : Rw) (m p a b : Nat) : Prop := ¬ (onAtD ρ (1 - m) p = true ∧ ¬ (cellAt ρ (1 - m) + τ 3 < apLo ρ m p a b ∨ apHi ρ m p a b + τ 3 < cellAt ρ (1 - m)))
theorem lp_122 {w : mT} {σ : mS} {P d x lo hi : Nat} {τ : Rw} {a1 a2 a3 a4 a5 : Int32} {Q : Option (Option Value) → Hp → Prop} (hw : lit w) (hP : P = 15 ∨ P = 25) (hp : σ.2.2 0 3 = some P) (hτ : tTold σ P τ) (hv : vTold τ) (hx : x < 1000) (hlo : lo < 1000) (hhi : hi < 1000) (hQ : Q (some (some (.int (iB (x + τ 3 < lo ∨ hi + τ 3 < x))))) (mW w σ)) : Wp 122 89 [.ref 0, .int a1, .int a2, .int a3, .int a4, .int a5, .int (Int32.ofNat lo), .int (Int32.ofNat hi), .int (Int32.ofNat x)] [] (mW w σ) Q d := by
  have hT' := isTP hw hP
  simp only [isT] at hT'
  have v3 := hv.2.2.2.1
  have eg := hτ.1
  have c1 := on_lt (i := x + τ 3) (j := lo) (by omega) (by omega)
  have c2 := sub_le (x := x) (g := τ 3) (h := hi) (by omega) (by omega) (by omega)
  refine b122_89 ?_
  by_cases z : x + τ 3 < lo
  · rw [iB_t (Or.inl z)] at hQ
    have c1' := iff_true_intro (c1.mpr z)
    simp only [↓br_pos, ↓br_neg, ↓rF_I, ↓rF_L, ↓rF_R, ↓rF_N, rO_m, rB_m, ↓rI_m, wI_m, ↓rB2_m, ↓rB3_m, wB2_m, wB3_m, ↓rL_m, wL_m, ↓rQ_m, wQ_m, ↓lI_m, pI_m, pL_m, pR_m, sI_m, sBy_m, sBo_m, sL_m, sQ_m, fst_m, true_and, and_true, tg_some, ln_some, uI_1, uI_2, uL_1, uL_2, uL_3, uQ_1, uQ_2, uQ_3, rv_i, rv_l, rv_n, rv_b0, rv_b1, RMR, ne_eq, reduceCtorEq, not_false_eq_true, Option.getD_some, if_true, if_false, and_self, false_and, and_false, Nat.add_left_cancel_iff, Nat.add_eq_left, Nat.left_eq_add, Nat.one_ne_zero, Nat.reduceAdd, Nat.reduceLT, Nat.reduceLeDiff, Nat.reduceEqDiff, true_implies, false_implies, implies_true, Option.some.injEq, forall_eq', forall_eq, reduceCtorEq, brT, brF, br_s, i_10, i_01, ib_0_2, ib_1_2, tn_0, tn_1, Int32.le_refl, eq_self, rv_bN, rv_iM, RCX 0, RCG 2, RCT 4, RCT 15, RCT 25, RCS 35, RCS 49, RCH 63, RCP 67, RCB 72, RCR 77, RCM 81, RLY, lit_at hw, RCT P, hT', hp, eg, of_add, c1']
    exact hQ
  · have c1' := iff_false_intro (fun q => z (c1.mp q))
    by_cases y : hi + τ 3 < x
    · rw [iB_t (Or.inr y)] at hQ
      have c2' := iff_false_intro (fun q => absurd (c2.mp q) (by omega))
      simp only [↓br_pos, ↓br_neg, ↓rF_I, ↓rF_L, ↓rF_R, ↓rF_N, rO_m, rB_m, ↓rI_m, wI_m, ↓rB2_m, ↓rB3_m, wB2_m, wB3_m, ↓rL_m, wL_m, ↓rQ_m, wQ_m, ↓lI_m, pI_m, pL_m, pR_m, sI_m, sBy_m, sBo_m, sL_m, sQ_m, fst_m, true_and, and_true, tg_some, ln_some, uI_1, uI_2, uL_1, uL_2, uL_3, uQ_1, uQ_2, uQ_3, rv_i, rv_l, rv_n, rv_b0, rv_b1, RMR, ne_eq, reduceCtorEq, not_false_eq_true, Option.getD_some, if_true, if_false, and_self, false_and, and_false, Nat.add_left_cancel_iff, Nat.add_eq_left, Nat.left_eq_add, Nat.one_ne_zero, Nat.reduceAdd, Nat.reduceLT, Nat.reduceLeDiff, Nat.reduceEqDiff, true_implies, false_implies, implies_true, Option.some.injEq, forall_eq', forall_eq, reduceCtorEq, brT, brF, br_s, i_10, i_01, ib_0_2, ib_1_2, tn_0, tn_1, Int32.le_refl, eq_self, rv_bN, rv_iM, RCX 0, RCG 2, RCT 4, RCT 15, RCT 25, RCS 35, RCS 49, RCH 63, RCP 67, RCB 72, RCR 77, RCM 81, RLY, lit_at hw, RCT P, hT', hp, eg, of_add, c1', c2']
      exact hQ
    · rw [iB_f (fun q => q.elim z y)] at hQ
      have c2' := iff_true_intro (c2.mpr (by omega))
      simp only [↓br_pos, ↓br_neg, ↓rF_I, ↓rF_L, ↓rF_R, ↓rF_N, rO_m, rB_m, ↓rI_m, wI_m, ↓rB2_m, ↓rB3_m, wB2_m, wB3_m, ↓rL_m, wL_m, ↓rQ_m, wQ_m, ↓lI_m, pI_m, pL_m, pR_m, sI_m, sBy_m, sBo_m, sL_m, sQ_m, fst_m, true_and, and_true, tg_some, ln_some, uI_1, uI_2, uL_1, uL_2, uL_3, uQ_1, uQ_2, uQ_3, rv_i, rv_l, rv_n, rv_b0, rv_b1, RMR, ne_eq, reduceCtorEq, not_false_eq_true, Option.getD_some, if_true, if_false, and_self, false_and, and_false, Nat.add_left_cancel_iff, Nat.add_eq_left, Nat.left_eq_add, Nat.one_ne_zero, Nat.reduceAdd, Nat.reduceLT, Nat.reduceLeDiff, Nat.reduceEqDiff, true_implies, false_implies, implies_true, Option.some.injEq, forall_eq', forall_eq, reduceCtorEq, brT, brF, br_s, i_10, i_01, ib_0_2, ib_1_2, tn_0, tn_1, Int32.le_refl, eq_self, rv_bN, rv_iM, RCX 0, RCG 2, RCT 4, RCT 15, RCT 25, RCS 35, RCS 49, RCH 63, RCP 67, RCB 72, RCR 77, RCM 81, RLY, lit_at hw, RCT P, hT', hp, eg, of_add, c1', c2']
      exact hQ
theorem g_122 {w : mT} {σ : mS} {P m p a b D : Nat} {τ ρ : Rw} {K : Int32 → Hp → Prop} (hw : lit w) (hP : P = 15 ∨ P = 25) (hp : σ.2.2 0 3 = some P) (hτ : tTold σ P τ) (hv : vTold τ) (hρ : tSt σ 35 τ ρ) (h : vRow τ ρ) (hm : m < 2) (hpp : p < 1000) (ha : a < 1000) (hb : b < 1000) (hD : 2 ≤ D) : wpI D 122 [.ref 0, .int (Int32.ofNat m), .int (Int32.ofNat p), .int (Int32.ofNat a), .int (Int32.ofNat b)] (mW w σ) K ↔ K (iB (apP τ ρ m p a b)) (mW w σ) := by
  refine cI_of (m := 1) (fun d hd Q hQ => ?_) rfl hD
  have hd1 : 1 ≤ d := by omega
  have hm2 : 1 - m < 2 := by omega
  have hs1 := onP_lt hv (vR_on h hm)
  have hs2 := onP_lt hv (vR_on h hm2)
  have hR35 := isS35 hw
  have e52 := fun {K : Int32 → Hp → Prop} => g_52 (K := K) hR35 hρ hm hs1 hd1
  have e53 := fun {K : Int32 → Hp → Prop} => g_53 (K := K) hR35 hρ hm hs1 hd1
  have o52 := fun {K : Int32 → Hp → Prop} => g_52 (K := K) hR35 hρ hm2 hs2 hd1
  have o53 := fun {K : Int32 → Hp → Prop} => g_53 (K := K) hR35 hρ hm2 hs2 hd1
  have mn := min_of (a := b) (b := a) (by omega) (by omega)
  have mx := max_2 (a := a) (b := b) (by omega) (by omega)
  refine b122_0 ?_
  by_cases z : onAtD ρ (1 - m) p = true
  · have x1 := (sP_on hs2 hpp).mpr z
    have x2 := sCe_on z
    simp only [↓br_pos, ↓br_neg, ↓rF_I, ↓rF_L, ↓rF_R, ↓rF_N, rO_m, rB_m, ↓rI_m, wI_m, ↓rB2_m, ↓rB3_m, wB2_m, wB3_m, ↓rL_m, wL_m, ↓rQ_m, wQ_m, ↓lI_m, pI_m, pL_m, pR_m, sI_m, sBy_m, sBo_m, sL_m, sQ_m, fst_m, true_and, and_true, tg_some, ln_some, uI_1, uI_2, uL_1, uL_2, uL_3, uQ_1, uQ_2, uQ_3, rv_i, rv_l, rv_n, rv_b0, rv_b1, RMR, ne_eq, reduceCtorEq, not_false_eq_true, Option.getD_some, if_true, if_false, and_self, false_and, and_false, Nat.add_left_cancel_iff, Nat.add_eq_left, Nat.left_eq_add, Nat.one_ne_zero, Nat.reduceAdd, Nat.reduceLT, Nat.reduceLeDiff, Nat.reduceEqDiff, true_implies, false_implies, implies_true, Option.some.injEq, forall_eq', forall_eq, reduceCtorEq, brT, brF, br_s, i_10, i_01, ib_0_2, ib_1_2, tn_0, tn_1, Int32.le_refl, eq_self, rv_bN, rv_iM, RCX 0, RCG 2, RCT 4, RCT 15, RCT 25, RCS 35, RCS 49, RCH 63, RCP 67, RCB 72, RCR 77, RCM 81, RLY, lit_at hw, om_1 hm, o52, x1, mn, mx]
    refine b122_36 ?_
    have cc1 := cAt_lt (ρ := ρ) (m := m)
    have cc2 := cAt_lt (ρ := ρ) (m := 1 - m)
    by_cases y : onAtD ρ m p = true
    · have y1 := (sP_on hs1 hpp).mpr y
      have y2 := sCe_on y
      have mn2 := min_of (a := cellAt ρ m) (b := min a b) (by omega) (by omega)
      have mx2 := max_2 (a := max a b) (b := cellAt ρ m) (by omega) (by omega)
      have el : apLo ρ m p a b = min (min a b) (cellAt ρ m) := if_pos y
      have eh : apHi ρ m p a b = max (max a b) (cellAt ρ m) := if_pos y
      simp only [↓br_pos, ↓br_neg, ↓rF_I, ↓rF_L, ↓rF_R, ↓rF_N, rO_m, rB_m, ↓rI_m, wI_m, ↓rB2_m, ↓rB3_m, wB2_m, wB3_m, ↓rL_m, wL_m, ↓rQ_m, wQ_m, ↓lI_m, pI_m, pL_m, pR_m, sI_m, sBy_m, sBo_m, sL_m, sQ_m, fst_m, true_and, and_true, tg_some, ln_some, uI_1, uI_2, uL_1, uL_2, uL_3, uQ_1, uQ_2, uQ_3, rv_i, rv_l, rv_n, rv_b0, rv_b1, RMR, ne_eq, reduceCtorEq, not_false_eq_true, Option.getD_some, if_true, if_false, and_self, false_and, and_false, Nat.add_left_cancel_iff, Nat.add_eq_left, Nat.left_eq_add, Nat.one_ne_zero, Nat.reduceAdd, Nat.reduceLT, Nat.reduceLeDiff, Nat.reduceEqDiff, true_implies, false_implies, implies_true, Option.some.injEq, forall_eq', forall_eq, reduceCtorEq, brT, brF, br_s, i_10, i_01, ib_0_2, ib_1_2, tn_0, tn_1, Int32.le_refl, eq_self, rv_bN, rv_iM, RCX 0, RCG 2, RCT 4, RCT 15, RCT 25, RCS 35, RCS 49, RCH 63, RCP 67, RCB 72, RCR 77, RCM 81, RLY, lit_at hw, e52, y1, e53, y2, o53, x2, mn2, mx2]
      refine lp_122 hw hP hp hτ hv (by omega) (by omega) (by omega) ?_
      by_cases v : cellAt ρ (1 - m) + τ 3 < min (min a b) (cellAt ρ m) ∨ max (max a b) (cellAt ρ m) + τ 3 < cellAt ρ (1 - m)
      · rw [iB_t v]
        rw [iB_t (p := apP τ ρ m p a b) (fun q => q.2 (by rw [el, eh]; exact v))] at hQ
        exact hQ
      · rw [iB_f v]
        rw [iB_f (p := apP τ ρ m p a b) (fun q => q ⟨z, by rw [el, eh]; exact v⟩)] at hQ
        exact hQ
    · have y1 : (sP ρ m = Int32.ofNat p) ↔ False := iff_false_intro (fun q => y ((sP_on hs1 hpp).mp q))
      have el : apLo ρ m p a b = min a b := if_neg y
      have eh : apHi ρ m p a b = max a b := if_neg y
      simp only [↓br_pos, ↓br_neg, ↓rF_I, ↓rF_L, ↓rF_R, ↓rF_N, rO_m, rB_m, ↓rI_m, wI_m, ↓rB2_m, ↓rB3_m, wB2_m, wB3_m, ↓rL_m, wL_m, ↓rQ_m, wQ_m, ↓lI_m, pI_m, pL_m, pR_m, sI_m, sBy_m, sBo_m, sL_m, sQ_m, fst_m, true_and, and_true, tg_some, ln_some, uI_1, uI_2, uL_1, uL_2, uL_3, uQ_1, uQ_2, uQ_3, rv_i, rv_l, rv_n, rv_b0, rv_b1, RMR, ne_eq, reduceCtorEq, not_false_eq_true, Option.getD_some, if_true, if_false, and_self, false_and, and_false, Nat.add_left_cancel_iff, Nat.add_eq_left, Nat.left_eq_add, Nat.one_ne_zero, Nat.reduceAdd, Nat.reduceLT, Nat.reduceLeDiff, Nat.reduceEqDiff, true_implies, false_implies, implies_true, Option.some.injEq, forall_eq', forall_eq, reduceCtorEq, brT, brF, br_s, i_10, i_01, ib_0_2, ib_1_2, tn_0, tn_1, Int32.le_refl, eq_self, rv_bN, rv_iM, RCX 0, RCG 2, RCT 4, RCT 15, RCT 25, RCS 35, RCS 49, RCH 63, RCP 67, RCB 72, RCR 77, RCM 81, RLY, lit_at hw, e52, y1, o53, x2]
      refine lp_122 hw hP hp hτ hv (by omega) (by omega) (by omega) ?_
      by_cases v : cellAt ρ (1 - m) + τ 3 < min a b ∨ max a b + τ 3 < cellAt ρ (1 - m)
      · rw [iB_t v]
        rw [iB_t (p := apP τ ρ m p a b) (fun q => q.2 (by rw [el, eh]; exact v))] at hQ
        exact hQ
      · rw [iB_f v]
        rw [iB_f (p := apP τ ρ m p a b) (fun q => q ⟨z, by rw [el, eh]; exact v⟩)] at hQ
        exact hQ
  · have x1 : (sP ρ (1 - m) = Int32.ofNat p) ↔ False := iff_false_intro (fun q => z ((sP_on hs2 hpp).mp q))
    rw [iB_t (p := apP τ ρ m p a b) (fun q => z q.1)] at hQ
    simp only [↓br_pos, ↓br_neg, ↓rF_I, ↓rF_L, ↓rF_R, ↓rF_N, rO_m, rB_m, ↓rI_m, wI_m, ↓rB2_m, ↓rB3_m, wB2_m, wB3_m, ↓rL_m, wL_m, ↓rQ_m, wQ_m, ↓lI_m, pI_m, pL_m, pR_m, sI_m, sBy_m, sBo_m, sL_m, sQ_m, fst_m, true_and, and_true, tg_some, ln_some, uI_1, uI_2, uL_1, uL_2, uL_3, uQ_1, uQ_2, uQ_3, rv_i, rv_l, rv_n, rv_b0, rv_b1, RMR, ne_eq, reduceCtorEq, not_false_eq_true, Option.getD_some, if_true, if_false, and_self, false_and, and_false, Nat.add_left_cancel_iff, Nat.add_eq_left, Nat.left_eq_add, Nat.one_ne_zero, Nat.reduceAdd, Nat.reduceLT, Nat.reduceLeDiff, Nat.reduceEqDiff, true_implies, false_implies, implies_true, Option.some.injEq, forall_eq', forall_eq, reduceCtorEq, brT, brF, br_s, i_10, i_01, ib_0_2, ib_1_2, tn_0, tn_1, Int32.le_refl, eq_self, rv_bN, rv_iM, RCX 0, RCG 2, RCT 4, RCT 15, RCT 25, RCS 35, RCS 49, RCH 63, RCP 67, RCB 72, RCR 77, RCM 81, RLY, lit_at hw, om_1 hm, o52, x1]
    exact hQ
/-- why a lot can't be laid so -/
def wlN (τ ρ : Rw) (p l a b t : Nat) : Nat := if ρ (12 + l) < t * (dist b a + 1) then 2 else if ¬ apP τ ρ 0 p a b then 4 else if 60 ≤ ρ (24 + p) then 5 else 0
theorem g_86z {w : mT} {σ : mS} {P D : Nat} {τ : Rw} {p l a b t : Int32} {K : Int32 → Hp → Prop} (hw : lit w) (hP : P = 15 ∨ P = 25) (hp : σ.2.2 0 3 = some P) (hτ : tTold σ P τ) (hv : vTold τ) (hc : ¬ cbP τ p l a b t) (hD : 4 ≤ D) : wpI D 86 [.ref 0, .int p, .int l, .int a, .int b, .int t] (mW w σ) K ↔ K 1 (mW w σ) := by
  refine cI_of (m := 3) (fun d hd Q hQ => ?_) rfl hD
  have ez : iB (cbP τ p l a b t) = 0 := iB_f hc
  refine b86_0 ?_
  simp only [↓br_pos, ↓br_neg, ↓rF_I, ↓rF_L, ↓rF_R, ↓rF_N, rO_m, rB_m, ↓rI_m, wI_m, ↓rB2_m, ↓rB3_m, wB2_m, wB3_m, ↓rL_m, wL_m, ↓rQ_m, wQ_m, ↓lI_m, pI_m, pL_m, pR_m, sI_m, sBy_m, sBo_m, sL_m, sQ_m, fst_m, true_and, and_true, tg_some, ln_some, uI_1, uI_2, uL_1, uL_2, uL_3, uQ_1, uQ_2, uQ_3, rv_i, rv_l, rv_n, rv_b0, rv_b1, RMR, ne_eq, reduceCtorEq, not_false_eq_true, Option.getD_some, if_true, if_false, and_self, false_and, and_false, Nat.add_left_cancel_iff, Nat.add_eq_left, Nat.left_eq_add, Nat.one_ne_zero, Nat.reduceAdd, Nat.reduceLT, Nat.reduceLeDiff, Nat.reduceEqDiff, true_implies, false_implies, implies_true, Option.some.injEq, forall_eq', forall_eq, reduceCtorEq, brT, brF, br_s, i_10, i_01, ib_0_2, ib_1_2, tn_0, tn_1, Int32.le_refl, eq_self, rv_bN, rv_iM, RCX 0, RCG 2, RCT 4, RCT 15, RCT 25, RCS 35, RCS 49, RCH 63, RCP 67, RCB 72, RCR 77, RCM 81, RLY, lit_at hw, g_121 hw hP hp hτ hv hd, ez]
  exact hQ
theorem cbP_of {τ : Rw} {p l a b t : Nat} (hv : vTold τ) (hp : p < τ 1) (hl : l < τ 0) (ha : a < τ (28 + p)) (hb : b < τ (28 + p)) (ht : 1 ≤ t ∧ t ≤ 99) : cbP τ (Int32.ofNat p) (Int32.ofNat l) (Int32.ofNat a) (Int32.ofNat b) (Int32.ofNat t) := by
  have v0 := hv.1
  refine ⟨bN_on hl (by omega), bC_t hp hv ha, bC_t hp hv hb, ?_, ?_⟩
  · rw [on_int (by omega)]; omega
  · rw [on_int (by omega)]; omega
theorem g_86 {w : mT} {σ : mS} {P p l a b t D : Nat} {τ ρ : Rw} {K : Int32 → Hp → Prop} (hw : lit w) (hP : P = 15 ∨ P = 25) (hp : σ.2.2 0 3 = some P) (hτ : tTold σ P τ) (hv : vTold τ) (hρ : tSt σ 35 τ ρ) (h : vRow τ ρ) (hpp : p < τ 1) (hl : l < τ 0) (ha : a < τ (28 + p)) (hb : b < τ (28 + p)) (ht : 1 ≤ t ∧ t ≤ 99) (hD : 4 ≤ D) : wpI D 86 [.ref 0, .int (Int32.ofNat p), .int (Int32.ofNat l), .int (Int32.ofNat a), .int (Int32.ofNat b), .int (Int32.ofNat t)] (mW w σ) K ↔ K (Int32.ofNat (wlN τ ρ p l a b t)) (mW w σ) := by
  refine cI_of (m := 3) (fun d hd Q hQ => ?_) rfl hD
  have hd1 : 1 ≤ d := by omega
  have hd2 : 2 ≤ d := by omega
  have hd3 : 3 ≤ d := by omega
  have v0 := hv.1
  have v1 := hv.2.1
  have v2 := (hv.2.2.2.2.2.1 p hpp).2
  have ez : iB (cbP τ (Int32.ofNat p) (Int32.ofNat l) (Int32.ofNat a) (Int32.ofNat b) (Int32.ofNat t)) = 1 := iB_t (cbP_of hv hpp hl ha hb ht)
  have ebl : inB (Int32.ofNat l) 12 = true := on_inB (by omega) (by omega)
  have enl := on_nat (i := l) (by omega)
  have elf : σ.1 36 l = Int32.ofNat (ρ (12 + l)) := tS_lf hρ hl
  have ebp : inB (Int32.ofNat p) 3 = true := on_inB (by omega) (by omega)
  have enp := on_nat (i := p) (by omega)
  have ela : σ.1 37 p = Int32.ofNat (ρ (24 + p)) := tS_la hρ (by omega)
  have hll := left_lt h hl
  have h60 := vR_la h p (by omega)
  have hd12 : dist b a < 12 := dist_lt (by omega) (by omega)
  have hmul : t * (dist b a + 1) ≤ 99 * 12 := Nat.mul_le_mul ht.2 (by omega)
  have ab := abs_of (a := b) (b := a) (by omega) (by omega)
  have cm := on_le (i := t * (dist b a + 1)) (j := ρ (12 + l)) (by omega) (by omega)
  have e122 : ∀ {K : Int32 → Hp → Prop}, wpI d 122 [.ref 0, .int (0 : Int32), .int (Int32.ofNat p), .int (Int32.ofNat a), .int (Int32.ofNat b)] (mW w σ) K ↔ K (iB (apP τ ρ 0 p a b)) (mW w σ) := fun {K} => g_122 (m := 0) hw hP hp hτ hv hρ h (by omega) (by omega) (by omega) (by omega) hd2
  have c6 : (Int32.ofNat (ρ (24 + p)) < (60 : Int32)) ↔ ρ (24 + p) < 60 := on_lt (j := 60) (by omega) (by omega)
  refine b86_0 ?_
  unfold wlN at hQ
  by_cases z : ρ (12 + l) < t * (dist b a + 1)
  · rw [if_pos z] at hQ
    have cm' := iff_false_intro (fun q => absurd (cm.mp q) (by omega))
    simp only [↓br_pos, ↓br_neg, ↓rF_I, ↓rF_L, ↓rF_R, ↓rF_N, rO_m, rB_m, ↓rI_m, wI_m, ↓rB2_m, ↓rB3_m, wB2_m, wB3_m, ↓rL_m, wL_m, ↓rQ_m, wQ_m, ↓lI_m, pI_m, pL_m, pR_m, sI_m, sBy_m, sBo_m, sL_m, sQ_m, fst_m, true_and, and_true, tg_some, ln_some, uI_1, uI_2, uL_1, uL_2, uL_3, uQ_1, uQ_2, uQ_3, rv_i, rv_l, rv_n, rv_b0, rv_b1, RMR, ne_eq, reduceCtorEq, not_false_eq_true, Option.getD_some, if_true, if_false, and_self, false_and, and_false, Nat.add_left_cancel_iff, Nat.add_eq_left, Nat.left_eq_add, Nat.one_ne_zero, Nat.reduceAdd, Nat.reduceLT, Nat.reduceLeDiff, Nat.reduceEqDiff, true_implies, false_implies, implies_true, Option.some.injEq, forall_eq', forall_eq, reduceCtorEq, brT, brF, br_s, i_10, i_01, ib_0_2, ib_1_2, tn_0, tn_1, Int32.le_refl, eq_self, rv_bN, rv_iM, RCX 0, RCG 2, RCT 4, RCT 15, RCT 25, RCS 35, RCS 49, RCH 63, RCP 67, RCB 72, RCR 77, RCM 81, RLY, lit_at hw, g_121 hw hP hp hτ hv hd3, ez, ebl, enl, elf, ab, on_succ, of_mul, cm']
    exact hQ
  · rw [if_neg z] at hQ
    have cm' := iff_true_intro (cm.mpr (by omega))
    by_cases y : apP τ ρ 0 p a b
    · rw [if_neg (fun q => q y)] at hQ
      have ey : iB (apP τ ρ 0 p a b) = 1 := iB_t y
      by_cases v : 60 ≤ ρ (24 + p)
      · rw [if_pos v] at hQ
        have c6' := iff_false_intro (fun q => absurd (c6.mp q) (by omega))
        simp only [↓br_pos, ↓br_neg, ↓rF_I, ↓rF_L, ↓rF_R, ↓rF_N, rO_m, rB_m, ↓rI_m, wI_m, ↓rB2_m, ↓rB3_m, wB2_m, wB3_m, ↓rL_m, wL_m, ↓rQ_m, wQ_m, ↓lI_m, pI_m, pL_m, pR_m, sI_m, sBy_m, sBo_m, sL_m, sQ_m, fst_m, true_and, and_true, tg_some, ln_some, uI_1, uI_2, uL_1, uL_2, uL_3, uQ_1, uQ_2, uQ_3, rv_i, rv_l, rv_n, rv_b0, rv_b1, RMR, ne_eq, reduceCtorEq, not_false_eq_true, Option.getD_some, if_true, if_false, and_self, false_and, and_false, Nat.add_left_cancel_iff, Nat.add_eq_left, Nat.left_eq_add, Nat.one_ne_zero, Nat.reduceAdd, Nat.reduceLT, Nat.reduceLeDiff, Nat.reduceEqDiff, true_implies, false_implies, implies_true, Option.some.injEq, forall_eq', forall_eq, reduceCtorEq, brT, brF, br_s, i_10, i_01, ib_0_2, ib_1_2, tn_0, tn_1, Int32.le_refl, eq_self, rv_bN, rv_iM, RCX 0, RCG 2, RCT 4, RCT 15, RCT 25, RCS 35, RCS 49, RCH 63, RCP 67, RCB 72, RCR 77, RCM 81, RLY, lit_at hw, g_121 hw hP hp hτ hv hd3, ez, ebl, enl, elf, ab, on_succ, of_mul, cm', e122, ey, ebp, enp, ela, c6']
        exact hQ
      · rw [if_neg v] at hQ
        have c6' := iff_true_intro (c6.mpr (by omega))
        simp only [↓br_pos, ↓br_neg, ↓rF_I, ↓rF_L, ↓rF_R, ↓rF_N, rO_m, rB_m, ↓rI_m, wI_m, ↓rB2_m, ↓rB3_m, wB2_m, wB3_m, ↓rL_m, wL_m, ↓rQ_m, wQ_m, ↓lI_m, pI_m, pL_m, pR_m, sI_m, sBy_m, sBo_m, sL_m, sQ_m, fst_m, true_and, and_true, tg_some, ln_some, uI_1, uI_2, uL_1, uL_2, uL_3, uQ_1, uQ_2, uQ_3, rv_i, rv_l, rv_n, rv_b0, rv_b1, RMR, ne_eq, reduceCtorEq, not_false_eq_true, Option.getD_some, if_true, if_false, and_self, false_and, and_false, Nat.add_left_cancel_iff, Nat.add_eq_left, Nat.left_eq_add, Nat.one_ne_zero, Nat.reduceAdd, Nat.reduceLT, Nat.reduceLeDiff, Nat.reduceEqDiff, true_implies, false_implies, implies_true, Option.some.injEq, forall_eq', forall_eq, reduceCtorEq, brT, brF, br_s, i_10, i_01, ib_0_2, ib_1_2, tn_0, tn_1, Int32.le_refl, eq_self, rv_bN, rv_iM, RCX 0, RCG 2, RCT 4, RCT 15, RCT 25, RCS 35, RCS 49, RCH 63, RCP 67, RCB 72, RCR 77, RCM 81, RLY, lit_at hw, g_121 hw hP hp hτ hv hd3, ez, ebl, enl, elf, ab, on_succ, of_mul, cm', e122, ey, ebp, enp, ela, c6']
        exact hQ
    · rw [if_pos y] at hQ
      have ey : iB (apP τ ρ 0 p a b) = 0 := iB_f y
      simp only [↓br_pos, ↓br_neg, ↓rF_I, ↓rF_L, ↓rF_R, ↓rF_N, rO_m, rB_m, ↓rI_m, wI_m, ↓rB2_m, ↓rB3_m, wB2_m, wB3_m, ↓rL_m, wL_m, ↓rQ_m, wQ_m, ↓lI_m, pI_m, pL_m, pR_m, sI_m, sBy_m, sBo_m, sL_m, sQ_m, fst_m, true_and, and_true, tg_some, ln_some, uI_1, uI_2, uL_1, uL_2, uL_3, uQ_1, uQ_2, uQ_3, rv_i, rv_l, rv_n, rv_b0, rv_b1, RMR, ne_eq, reduceCtorEq, not_false_eq_true, Option.getD_some, if_true, if_false, and_self, false_and, and_false, Nat.add_left_cancel_iff, Nat.add_eq_left, Nat.left_eq_add, Nat.one_ne_zero, Nat.reduceAdd, Nat.reduceLT, Nat.reduceLeDiff, Nat.reduceEqDiff, true_implies, false_implies, implies_true, Option.some.injEq, forall_eq', forall_eq, reduceCtorEq, brT, brF, br_s, i_10, i_01, ib_0_2, ib_1_2, tn_0, tn_1, Int32.le_refl, eq_self, rv_bN, rv_iM, RCX 0, RCG 2, RCT 4, RCT 15, RCT 25, RCS 35, RCS 49, RCH 63, RCP 67, RCB 72, RCR 77, RCM 81, RLY, lit_at hw, g_121 hw hP hp hτ hv hd3, ez, ebl, enl, elf, ab, on_succ, of_mul, cm', e122, ey]
      exact hQ
end
section
/-! the class's calls: days, machines, orders -/
theorem tSt_cz {σ : mS} {r m : Nat} {τ ρ : Rw} (h : tSt σ r τ ρ) (hb : bRow τ ρ) (hm : m < 2) : tSt (uI σ (r + 12) m 0) r τ (rSet ρ (10 + m) 0) := by
  obtain ⟨b1, b2, b3, b4, b5⟩ := hb
  have hb : bRow τ ρ := ⟨b1, b2, b3, b4, b5⟩
  have e10 : rSet ρ (10 + m) 0 10 ≤ ρ 10 := by rw [rSet_1]; split <;> omega
  have e11 : rSet ρ (10 + m) 0 11 ≤ ρ 11 := by rw [rSet_1]; split <;> omega
  have hb' : bRow τ (rSet ρ (10 + m) 0) := ⟨b1, b2, by omega, by omega, fun q hq => by rw [rS_ne (by omega)]; exact b5 q hq⟩
  refine tSt_up h hb hb' (fun j hj => ?_)
  have hin := dom_in hb' hj
  by_cases c : j = 10 + m
  · subst c
    refine Or.inr ?_
    rw [cv_eq (lA_or hm), tv_0 (by unfold isSh; omega), rS_eq]; rfl
  · refine Or.inl ⟨?_, cv_ne (lA_or hm) hin (by unfold in0; omega) c, rS_ne c⟩
    unfold dom at hj ⊢
    rcases hj with hj | hj | hj | hj | hj | hj | hj | hj | hj | hj
    · exact Or.inl hj
    · exact Or.inr (Or.inl hj)
    · exact Or.inr (Or.inr (Or.inl hj))
    · exact Or.inr (Or.inr (Or.inr (Or.inl hj)))
    · exact Or.inr (Or.inr (Or.inr (Or.inr (Or.inl hj))))
    · exact Or.inr (Or.inr (Or.inr (Or.inr (Or.inr (Or.inl hj)))))
    · exact Or.inr (Or.inr (Or.inr (Or.inr (Or.inr (Or.inr (Or.inl ⟨hj.1, by omega, hj.2.2⟩))))))
    · exact Or.inr (Or.inr (Or.inr (Or.inr (Or.inr (Or.inr (Or.inr (Or.inl ⟨hj.1, by omega⟩)))))))
    · rw [rS_ne (by omega)] at hj
      exact Or.inr (Or.inr (Or.inr (Or.inr (Or.inr (Or.inr (Or.inr (Or.inr (Or.inl hj))))))))
    · rw [rS_ne (by omega)] at hj
      exact Or.inr (Or.inr (Or.inr (Or.inr (Or.inr (Or.inr (Or.inr (Or.inr (Or.inr hj))))))))
theorem o66_0 {w : mT} {σ : mS} {p l a b t : Nat} {τ ρ : Rw} (hw : lit w) (hρ : tSt σ 35 τ ρ) (hb : bRow τ ρ) (hn : ρ 10 < 8) : ∃ σ', frR 35 49 σ σ' ∧ tSt σ' 35 τ (sO0 ρ p l a b t) ∧ ∀ {D : Nat} {K : Hp → Prop}, 2 ≤ D → (wpV D 66 [.ref 35, .int (0 : Int32), .int (Int32.ofNat p), .int (Int32.ofNat l), .int (Int32.ofNat a), .int (Int32.ofNat b), .int (Int32.ofNat t)] (mW w σ) K ↔ K (mW w σ')) :=
  ⟨_, frR_tr (frR_I (by omega)) (frR_tr (frR_I (by omega)) (frR_tr (frR_I (by omega)) (frR_tr (frR_I (by omega)) (frR_tr (frR_I (by omega)) (frR_tr (frR_I (by omega)) (frR_I (by omega))))))), sO0_st hρ hb hn, fun hD => g_66 (m := 0) (isS35 hw) (by omega) (tS_or hρ (by omega : 0 < 2)) hn hD⟩
theorem o66_1 {w : mT} {σ : mS} {p c s : Nat} {τ ρ : Rw} (hw : lit w) (hρ : tSt σ 35 τ ρ) (hb : bRow τ ρ) (hn : ρ 11 < 8) : ∃ σ', frR 35 49 σ σ' ∧ tSt σ' 35 τ (sO1 ρ p c s) ∧ ∀ {D : Nat} {K : Hp → Prop}, 2 ≤ D → (wpV D 66 [.ref 35, .int (1 : Int32), .int (Int32.ofNat p), .int (Int32.ofNat s), .int (Int32.ofNat c), .int (Int32.ofNat c), .int (0 : Int32)] (mW w σ) K ↔ K (mW w σ')) :=
  ⟨_, frR_tr (frR_I (by omega)) (frR_tr (frR_I (by omega)) (frR_tr (frR_I (by omega)) (frR_tr (frR_I (by omega)) (frR_tr (frR_I (by omega)) (frR_tr (frR_I (by omega)) (frR_I (by omega))))))), sO1_st hρ hb hn, fun hD => g_66 (m := 1) (isS35 hw) (by omega) (tS_or hρ (by omega : 1 < 2)) hn hD⟩
theorem m1_eq {a : Nat} (h : a < 1000000) : (Int32.ofNat a - 1 = -1) ↔ a = 0 := of_m1 (by omega)
theorem c_92z {w : mT} {σ : mS} {tp n : Nat} {t : Nat → Nat} {τ ρ : Rw} {bk : Nat → Rw} {has : Nat → Bool} {im : Nat → Rw} {a : Int32} {D : Nat} {K : Int32 → Hp → Prop} (h : cIn w σ tp t τ ρ n bk has im) (ha : ¬ (1 ≤ a.toInt ∧ a.toInt ≤ 99 ∧ (ρ 0 : Int) + a.toInt ≤ 999)) (hD : 4 ≤ D) : wpI D 92 [.ref 0, .int a] (mW w σ) K ↔ K (-1) (mW w σ) := by
  have h' := h
  obtain ⟨hw, hS, hH, ⟨P, hP, p3, p4, hτ⟩, hρ, hv, hr, h1, htp, htb, ht⟩ := h
  have hT := isTP hw hP
  have hT' := hT
  simp only [isT] at hT'
  refine cI_of (m := 3) (fun d hd Q hQ => ?_) rfl hD
  have v0 := vR_day hr
  have e0 : σ.1 35 0 = Int32.ofNat (ρ 0) := tS_d hρ
  refine b92_0 ?_
  by_cases z : a < 1
  · simp only [↓br_pos, ↓br_neg, ↓rF_I, ↓rF_L, ↓rF_R, ↓rF_N, rO_m, rB_m, ↓rI_m, wI_m, ↓rB2_m, ↓rB3_m, wB2_m, wB3_m, ↓rL_m, wL_m, ↓rQ_m, wQ_m, ↓lI_m, pI_m, pL_m, pR_m, sI_m, sBy_m, sBo_m, sL_m, sQ_m, fst_m, true_and, and_true, tg_some, ln_some, uI_1, uI_2, uL_1, uL_2, uL_3, uQ_1, uQ_2, uQ_3, rv_i, rv_l, rv_n, rv_b0, rv_b1, RMR, ne_eq, reduceCtorEq, not_false_eq_true, Option.getD_some, if_true, if_false, and_self, false_and, and_false, Nat.add_left_cancel_iff, Nat.add_eq_left, Nat.left_eq_add, Nat.one_ne_zero, Nat.reduceAdd, Nat.reduceLT, Nat.reduceLeDiff, Nat.reduceEqDiff, true_implies, false_implies, implies_true, Option.some.injEq, forall_eq', forall_eq, reduceCtorEq, brT, brF, br_s, i_10, i_01, ib_0_2, ib_1_2, tn_0, tn_1, Int32.le_refl, eq_self, rv_bN, rv_iM, z]
    exact hQ
  · by_cases y : (99 : Int32) < a
    · simp only [↓br_pos, ↓br_neg, ↓rF_I, ↓rF_L, ↓rF_R, ↓rF_N, rO_m, rB_m, ↓rI_m, wI_m, ↓rB2_m, ↓rB3_m, wB2_m, wB3_m, ↓rL_m, wL_m, ↓rQ_m, wQ_m, ↓lI_m, pI_m, pL_m, pR_m, sI_m, sBy_m, sBo_m, sL_m, sQ_m, fst_m, true_and, and_true, tg_some, ln_some, uI_1, uI_2, uL_1, uL_2, uL_3, uQ_1, uQ_2, uQ_3, rv_i, rv_l, rv_n, rv_b0, rv_b1, RMR, ne_eq, reduceCtorEq, not_false_eq_true, Option.getD_some, if_true, if_false, and_self, false_and, and_false, Nat.add_left_cancel_iff, Nat.add_eq_left, Nat.left_eq_add, Nat.one_ne_zero, Nat.reduceAdd, Nat.reduceLT, Nat.reduceLeDiff, Nat.reduceEqDiff, true_implies, false_implies, implies_true, Option.some.injEq, forall_eq', forall_eq, reduceCtorEq, brT, brF, br_s, i_10, i_01, ib_0_2, ib_1_2, tn_0, tn_1, Int32.le_refl, eq_self, rv_bN, rv_iM, z, y]
      exact hQ
    · have z' := z
      rw [i_lt, show (1 : Int32).toInt = 1 by decide] at z'
      have y' := y
      rw [i_lt, show (99 : Int32).toInt = 99 by decide] at y'
      obtain ⟨k, rfl, hk⟩ := ex_on (a := a) (n := 100) ⟨by omega, by omega⟩
      rw [on_int (by omega)] at ha z' y'
      have c : (Int32.ofNat (ρ 0 + k) ≤ (999 : Int32)) ↔ False := iff_false_intro (fun q => absurd ((on_le (j := 999) (by omega) (by omega)).mp q) (by omega))
      simp only [↓br_pos, ↓br_neg, ↓rF_I, ↓rF_L, ↓rF_R, ↓rF_N, rO_m, rB_m, ↓rI_m, wI_m, ↓rB2_m, ↓rB3_m, wB2_m, wB3_m, ↓rL_m, wL_m, ↓rQ_m, wQ_m, ↓lI_m, pI_m, pL_m, pR_m, sI_m, sBy_m, sBo_m, sL_m, sQ_m, fst_m, true_and, and_true, tg_some, ln_some, uI_1, uI_2, uL_1, uL_2, uL_3, uQ_1, uQ_2, uQ_3, rv_i, rv_l, rv_n, rv_b0, rv_b1, RMR, ne_eq, reduceCtorEq, not_false_eq_true, Option.getD_some, if_true, if_false, and_self, false_and, and_false, Nat.add_left_cancel_iff, Nat.add_eq_left, Nat.left_eq_add, Nat.one_ne_zero, Nat.reduceAdd, Nat.reduceLT, Nat.reduceLeDiff, Nat.reduceEqDiff, true_implies, false_implies, implies_true, Option.some.injEq, forall_eq', forall_eq, reduceCtorEq, brT, brF, br_s, i_10, i_01, ib_0_2, ib_1_2, tn_0, tn_1, Int32.le_refl, eq_self, rv_bN, rv_iM, RCX 0, RCG 2, RCT 4, RCT 15, RCT 25, RCS 35, RCS 49, RCH 63, RCP 67, RCB 72, RCR 77, RCM 81, RLY, lit_at hw, z, y, e0, of_add, c]
      exact hQ
theorem c_92 {w : mT} {σ : mS} {tp n : Nat} {t : Nat → Nat} {τ ρ : Rw} {bk : Nat → Rw} {has : Nat → Bool} {im : Nat → Rw} {k : Nat} (h : cIn w σ tp t τ ρ n bk has im) (hk : 1 ≤ k ∧ k ≤ 99) (hk2 : ρ 0 + k ≤ 999) : ∃ w' σ', wExt w w' ∧ frM σ σ' ∧ cIn w' σ' tp t τ (rSet ρ 0 (ρ 0 + k)) (nPh n) (bkPh n bk ρ) has im ∧ ∀ {D : Nat} {K : Int32 → Hp → Prop}, 4 ≤ D → (wpI D 92 [.ref 0, .int (Int32.ofNat k)] (mW w σ) K ↔ K (Int32.ofNat (ρ 0 + k)) (mW w' σ')) := by
  have h' := h
  obtain ⟨hw, hS, hH, ⟨P, hP, p3, p4, hτ⟩, hρ, hv, hr, h1, htp, htb, ht⟩ := h
  have hT := isTP hw hP
  have hT' := hT
  simp only [isT] at hT'
  obtain ⟨w1, σ1, x1, x2, C1, k1⟩ := k_11 h'
  have hw1 := C1.1
  have hρ1 : tSt σ1 35 τ ρ := C1.2.2.2.2.1
  obtain ⟨P1, hP1, p31, p41, hτ1⟩ := C1.2.2.2.1
  have hT1 := isTP hw1 hP1
  have hT1' := hT1
  simp only [isT] at hT1'
  have hb := vRow_b hv hr
  have ts : tSt (uI σ1 35 0 (Int32.ofNat (ρ 0 + k))) 35 τ (rSet ρ 0 (ρ 0 + k)) := tSt_w0 hρ1 hb (by unfold in0; omega) (by decide) (tv_0 (by decide)).symm (by omega)
  have vr : vRow τ (rSet ρ 0 (ρ 0 + k)) := vRow_s hv hr (by omega)
  refine ⟨w1, uI σ1 35 0 (Int32.ofNat (ρ 0 + k)), x1, frM_tr (frM_D x2 (by omega)) (frM_I (by omega)), cIn_mu C1 (frR_I (by omega)) ts vr, fun hD => cI_of (m := 3) (fun d hd Q hQ => ?_) rfl hD⟩
  have v0 := vR_day hr
  have e0 : σ.1 35 0 = Int32.ofNat (ρ 0) := tS_d hρ
  have e1 : σ1.1 35 0 = Int32.ofNat (ρ 0) := tS_d hρ1
  have c1 : (Int32.ofNat k < (1 : Int32)) ↔ False := iff_false_intro (fun q => absurd ((on_lt (j := 1) (by omega) (by omega)).mp q) (by omega))
  have c2 : ((99 : Int32) < Int32.ofNat k) ↔ False := iff_false_intro (fun q => absurd ((on_lt (i := 99) (by omega) (by omega)).mp q) (by omega))
  have c3 : (Int32.ofNat (ρ 0 + k) ≤ (999 : Int32)) ↔ True := iff_true_intro ((on_le (j := 999) (by omega) (by omega)).mpr hk2)
  refine b92_0 ?_
  simp only [↓br_pos, ↓br_neg, ↓rF_I, ↓rF_L, ↓rF_R, ↓rF_N, rO_m, rB_m, ↓rI_m, wI_m, ↓rB2_m, ↓rB3_m, wB2_m, wB3_m, ↓rL_m, wL_m, ↓rQ_m, wQ_m, ↓lI_m, pI_m, pL_m, pR_m, sI_m, sBy_m, sBo_m, sL_m, sQ_m, fst_m, true_and, and_true, tg_some, ln_some, uI_1, uI_2, uL_1, uL_2, uL_3, uQ_1, uQ_2, uQ_3, rv_i, rv_l, rv_n, rv_b0, rv_b1, RMR, ne_eq, reduceCtorEq, not_false_eq_true, Option.getD_some, if_true, if_false, and_self, false_and, and_false, Nat.add_left_cancel_iff, Nat.add_eq_left, Nat.left_eq_add, Nat.one_ne_zero, Nat.reduceAdd, Nat.reduceLT, Nat.reduceLeDiff, Nat.reduceEqDiff, true_implies, false_implies, implies_true, Option.some.injEq, forall_eq', forall_eq, reduceCtorEq, brT, brF, br_s, i_10, i_01, ib_0_2, ib_1_2, tn_0, tn_1, Int32.le_refl, eq_self, rv_bN, rv_iM, RCX 0, RCG 2, RCT 4, RCT 15, RCT 25, RCS 35, RCS 49, RCH 63, RCP 67, RCB 72, RCR 77, RCM 81, RLY, lit_at hw, c1, c2, e0, of_add, c3, k1 hd, lit_at hw1, e1]
  exact hQ
theorem c_90z {w : mT} {σ : mS} {tp n : Nat} {t : Nat → Nat} {τ ρ : Rw} {bk : Nat → Rw} {has : Nat → Bool} {im : Nat → Rw} {a : Int32} {D : Nat} {K : Int32 → Hp → Prop} (h : cIn w σ tp t τ ρ n bk has im) (ha : ¬ (bN a 2 = 1 ∧ ρ (2 + a.toNatClampNeg) ≠ 0)) (hD : 4 ≤ D) : wpI D 90 [.ref 0, .int a] (mW w σ) K ↔ K 0 (mW w σ) := by
  have h' := h
  obtain ⟨hw, hS, hH, ⟨P, hP, p3, p4, hτ⟩, hρ, hv, hr, h1, htp, htb, ht⟩ := h
  have hT := isTP hw hP
  have hT' := hT
  simp only [isT] at hT'
  refine cI_of (m := 3) (fun d hd Q hQ => ?_) rfl hD
  have hd1 : 1 ≤ d := by omega
  refine b90_0 ?_
  by_cases z : bN a 2 = 1
  · obtain ⟨m, rfl, hm⟩ := bN_ex z
    have en := on_nat (i := m) (by omega)
    rw [en] at ha
    have e : ρ (2 + m) = 0 := Decidable.not_not.mp (fun q => ha ⟨z, q⟩)
    have eb : inB (Int32.ofNat m) 2 = true := on_inB hm (by omega)
    have es : σ.1 43 m = Int32.ofNat (ρ (2 + m)) - 1 := tS_st hρ hm
    have es' : σ.1 43 m = -1 := by rw [es, e]; decide
    simp only [↓br_pos, ↓br_neg, ↓rF_I, ↓rF_L, ↓rF_R, ↓rF_N, rO_m, rB_m, ↓rI_m, wI_m, ↓rB2_m, ↓rB3_m, wB2_m, wB3_m, ↓rL_m, wL_m, ↓rQ_m, wQ_m, ↓lI_m, pI_m, pL_m, pR_m, sI_m, sBy_m, sBo_m, sL_m, sQ_m, fst_m, true_and, and_true, tg_some, ln_some, uI_1, uI_2, uL_1, uL_2, uL_3, uQ_1, uQ_2, uQ_3, rv_i, rv_l, rv_n, rv_b0, rv_b1, RMR, ne_eq, reduceCtorEq, not_false_eq_true, Option.getD_some, if_true, if_false, and_self, false_and, and_false, Nat.add_left_cancel_iff, Nat.add_eq_left, Nat.left_eq_add, Nat.one_ne_zero, Nat.reduceAdd, Nat.reduceLT, Nat.reduceLeDiff, Nat.reduceEqDiff, true_implies, false_implies, implies_true, Option.some.injEq, forall_eq', forall_eq, reduceCtorEq, brT, brF, br_s, i_10, i_01, ib_0_2, ib_1_2, tn_0, tn_1, Int32.le_refl, eq_self, rv_bN, rv_iM, RCX 0, RCG 2, RCT 4, RCT 15, RCT 25, RCS 35, RCS 49, RCH 63, RCP 67, RCB 72, RCR 77, RCM 81, RLY, lit_at hw, g_118 hd1, z, eb, en, es']
    exact hQ
  · have z' : bN a 2 = 0 := bN_01.resolve_right z
    simp only [↓br_pos, ↓br_neg, ↓rF_I, ↓rF_L, ↓rF_R, ↓rF_N, rO_m, rB_m, ↓rI_m, wI_m, ↓rB2_m, ↓rB3_m, wB2_m, wB3_m, ↓rL_m, wL_m, ↓rQ_m, wQ_m, ↓lI_m, pI_m, pL_m, pR_m, sI_m, sBy_m, sBo_m, sL_m, sQ_m, fst_m, true_and, and_true, tg_some, ln_some, uI_1, uI_2, uL_1, uL_2, uL_3, uQ_1, uQ_2, uQ_3, rv_i, rv_l, rv_n, rv_b0, rv_b1, RMR, ne_eq, reduceCtorEq, not_false_eq_true, Option.getD_some, if_true, if_false, and_self, false_and, and_false, Nat.add_left_cancel_iff, Nat.add_eq_left, Nat.left_eq_add, Nat.one_ne_zero, Nat.reduceAdd, Nat.reduceLT, Nat.reduceLeDiff, Nat.reduceEqDiff, true_implies, false_implies, implies_true, Option.some.injEq, forall_eq', forall_eq, reduceCtorEq, brT, brF, br_s, i_10, i_01, ib_0_2, ib_1_2, tn_0, tn_1, Int32.le_refl, eq_self, rv_bN, rv_iM, RCX 0, RCG 2, RCT 4, RCT 15, RCT 25, RCS 35, RCS 49, RCH 63, RCP 67, RCB 72, RCR 77, RCM 81, RLY, lit_at hw, g_118 hd1, z']
    exact hQ
theorem c_90 {w : mT} {σ : mS} {tp n : Nat} {t : Nat → Nat} {τ ρ : Rw} {bk : Nat → Rw} {has : Nat → Bool} {im : Nat → Rw} {m : Nat} (h : cIn w σ tp t τ ρ n bk has im) (hm : m < 2) (hs : ρ (2 + m) ≠ 0) : ∃ w' σ', wExt w w' ∧ frM σ σ' ∧ cIn w' σ' tp t τ (rSet (rSet ρ (2 + m) 0) (6 + m) 0) (nPh n) (bkPh n bk ρ) has im ∧ ∀ {D : Nat} {K : Int32 → Hp → Prop}, 4 ≤ D → (wpI D 90 [.ref 0, .int (Int32.ofNat m)] (mW w σ) K ↔ K 1 (mW w' σ')) := by
  have h' := h
  obtain ⟨hw, hS, hH, ⟨P, hP, p3, p4, hτ⟩, hρ, hv, hr, h1, htp, htb, ht⟩ := h
  have hT := isTP hw hP
  have hT' := hT
  simp only [isT] at hT'
  obtain ⟨w1, σ1, x1, x2, C1, k1⟩ := k_11 h'
  have hw1 := C1.1
  have hρ1 : tSt σ1 35 τ ρ := C1.2.2.2.2.1
  obtain ⟨P1, hP1, p31, p41, hτ1⟩ := C1.2.2.2.1
  have hT1 := isTP hw1 hP1
  have hT1' := hT1
  simp only [isT] at hT1'
  have hb := vRow_b hv hr
  have ts : tSt (uI (uI σ1 43 m (-1)) 45 m 0) 35 τ (rSet (rSet ρ (2 + m) 0) (6 + m) 0) := tSt_w (A := 10) (tSt_w (A := 8) hρ1 hb (by unfold in0; omega) (lA_st hm) (by rw [tv_1 (by unfold isSh; omega)]; decide) (by omega)) (bRow_c hb (cnt_set (by omega))) (by unfold in0; omega) (lA_wy hm) (tv_0 (by unfold isSh; omega)).symm (by omega)
  have vr : vRow τ (rSet (rSet ρ (2 + m) 0) (6 + m) 0) := vRow_s hv (vRow_s hv hr (by omega)) (by omega)
  refine ⟨w1, uI (uI σ1 43 m (-1)) 45 m 0, x1, frM_tr (frM_D x2 (by omega)) (frM_tr (frM_I (by omega)) (frM_I (by omega))), cIn_mu C1 (frR_tr (frR_I (by omega)) (frR_I (by omega))) ts vr, fun hD => cI_of (m := 3) (fun d hd Q hQ => ?_) rfl hD⟩
  have hd1 : 1 ≤ d := by omega
  have z : bN (Int32.ofNat m) 2 = 1 := bN_on hm (by omega)
  have en := on_nat (i := m) (by omega)
  have eb : inB (Int32.ofNat m) 2 = true := on_inB hm (by omega)
  have es : σ.1 43 m = Int32.ofNat (ρ (2 + m)) - 1 := tS_st hρ hm
  have hs2 := onP_lt hv (vR_on hr hm)
  have es' : (Int32.ofNat (ρ (2 + m)) - 1 = -1) ↔ False := iff_false_intro (fun q => hs ((m1_eq (by omega)).mp q))
  refine b90_0 ?_
  simp only [↓br_pos, ↓br_neg, ↓rF_I, ↓rF_L, ↓rF_R, ↓rF_N, rO_m, rB_m, ↓rI_m, wI_m, ↓rB2_m, ↓rB3_m, wB2_m, wB3_m, ↓rL_m, wL_m, ↓rQ_m, wQ_m, ↓lI_m, pI_m, pL_m, pR_m, sI_m, sBy_m, sBo_m, sL_m, sQ_m, fst_m, true_and, and_true, tg_some, ln_some, uI_1, uI_2, uL_1, uL_2, uL_3, uQ_1, uQ_2, uQ_3, rv_i, rv_l, rv_n, rv_b0, rv_b1, RMR, ne_eq, reduceCtorEq, not_false_eq_true, Option.getD_some, if_true, if_false, and_self, false_and, and_false, Nat.add_left_cancel_iff, Nat.add_eq_left, Nat.left_eq_add, Nat.one_ne_zero, Nat.reduceAdd, Nat.reduceLT, Nat.reduceLeDiff, Nat.reduceEqDiff, true_implies, false_implies, implies_true, Option.some.injEq, forall_eq', forall_eq, reduceCtorEq, brT, brF, br_s, i_10, i_01, ib_0_2, ib_1_2, tn_0, tn_1, Int32.le_refl, eq_self, rv_bN, rv_iM, RCX 0, RCG 2, RCT 4, RCT 15, RCT 25, RCS 35, RCS 49, RCH 63, RCP 67, RCB 72, RCR 77, RCM 81, RLY, lit_at hw, g_118 hd1, z, eb, en, es, es', k1 hd, lit_at hw1]
  exact hQ
theorem c_95z {w : mT} {σ : mS} {tp n : Nat} {t : Nat → Nat} {τ ρ : Rw} {bk : Nat → Rw} {has : Nat → Bool} {im : Nat → Rw} {a : Int32} {D : Nat} {K : Int32 → Hp → Prop} (h : cIn w σ tp t τ ρ n bk has im) (ha : ¬ (bN a 2 = 1 ∧ ρ (10 + a.toNatClampNeg) ≠ 0)) (hD : 4 ≤ D) : wpI D 95 [.ref 0, .int a] (mW w σ) K ↔ K (-1) (mW w σ) := by
  have h' := h
  obtain ⟨hw, hS, hH, ⟨P, hP, p3, p4, hτ⟩, hρ, hv, hr, h1, htp, htb, ht⟩ := h
  have hT := isTP hw hP
  have hT' := hT
  simp only [isT] at hT'
  refine cI_of (m := 3) (fun d hd Q hQ => ?_) rfl hD
  have hd1 : 1 ≤ d := by omega
  refine b95_0 ?_
  by_cases z : bN a 2 = 1
  · obtain ⟨m, rfl, hm⟩ := bN_ex z
    have en := on_nat (i := m) (by omega)
    rw [en] at ha
    have e : ρ (10 + m) = 0 := Decidable.not_not.mp (fun q => ha ⟨z, q⟩)
    have eb : inB (Int32.ofNat m) 2 = true := on_inB hm (by omega)
    have es : σ.1 47 m = Int32.ofNat (ρ (10 + m)) := tS_or hρ hm
    have es' : σ.1 47 m = 0 := by rw [es, e]; rfl
    simp only [↓br_pos, ↓br_neg, ↓rF_I, ↓rF_L, ↓rF_R, ↓rF_N, rO_m, rB_m, ↓rI_m, wI_m, ↓rB2_m, ↓rB3_m, wB2_m, wB3_m, ↓rL_m, wL_m, ↓rQ_m, wQ_m, ↓lI_m, pI_m, pL_m, pR_m, sI_m, sBy_m, sBo_m, sL_m, sQ_m, fst_m, true_and, and_true, tg_some, ln_some, uI_1, uI_2, uL_1, uL_2, uL_3, uQ_1, uQ_2, uQ_3, rv_i, rv_l, rv_n, rv_b0, rv_b1, RMR, ne_eq, reduceCtorEq, not_false_eq_true, Option.getD_some, if_true, if_false, and_self, false_and, and_false, Nat.add_left_cancel_iff, Nat.add_eq_left, Nat.left_eq_add, Nat.one_ne_zero, Nat.reduceAdd, Nat.reduceLT, Nat.reduceLeDiff, Nat.reduceEqDiff, true_implies, false_implies, implies_true, Option.some.injEq, forall_eq', forall_eq, reduceCtorEq, brT, brF, br_s, i_10, i_01, ib_0_2, ib_1_2, tn_0, tn_1, Int32.le_refl, eq_self, rv_bN, rv_iM, RCX 0, RCG 2, RCT 4, RCT 15, RCT 25, RCS 35, RCS 49, RCH 63, RCP 67, RCB 72, RCR 77, RCM 81, RLY, lit_at hw, g_118 hd1, z, eb, en, es']
    exact hQ
  · have z' : bN a 2 = 0 := bN_01.resolve_right z
    simp only [↓br_pos, ↓br_neg, ↓rF_I, ↓rF_L, ↓rF_R, ↓rF_N, rO_m, rB_m, ↓rI_m, wI_m, ↓rB2_m, ↓rB3_m, wB2_m, wB3_m, ↓rL_m, wL_m, ↓rQ_m, wQ_m, ↓lI_m, pI_m, pL_m, pR_m, sI_m, sBy_m, sBo_m, sL_m, sQ_m, fst_m, true_and, and_true, tg_some, ln_some, uI_1, uI_2, uL_1, uL_2, uL_3, uQ_1, uQ_2, uQ_3, rv_i, rv_l, rv_n, rv_b0, rv_b1, RMR, ne_eq, reduceCtorEq, not_false_eq_true, Option.getD_some, if_true, if_false, and_self, false_and, and_false, Nat.add_left_cancel_iff, Nat.add_eq_left, Nat.left_eq_add, Nat.one_ne_zero, Nat.reduceAdd, Nat.reduceLT, Nat.reduceLeDiff, Nat.reduceEqDiff, true_implies, false_implies, implies_true, Option.some.injEq, forall_eq', forall_eq, reduceCtorEq, brT, brF, br_s, i_10, i_01, ib_0_2, ib_1_2, tn_0, tn_1, Int32.le_refl, eq_self, rv_bN, rv_iM, RCX 0, RCG 2, RCT 4, RCT 15, RCT 25, RCS 35, RCS 49, RCH 63, RCP 67, RCB 72, RCR 77, RCM 81, RLY, lit_at hw, g_118 hd1, z']
    exact hQ
theorem c_95 {w : mT} {σ : mS} {tp n : Nat} {t : Nat → Nat} {τ ρ : Rw} {bk : Nat → Rw} {has : Nat → Bool} {im : Nat → Rw} {m : Nat} (h : cIn w σ tp t τ ρ n bk has im) (hm : m < 2) (hs : ρ (10 + m) ≠ 0) : ∃ w' σ', wExt w w' ∧ frM σ σ' ∧ cIn w' σ' tp t τ (rSet (rSet ρ (10 + m) 0) (6 + m) 0) (nPh n) (bkPh n bk ρ) has im ∧ ∀ {D : Nat} {K : Int32 → Hp → Prop}, 4 ≤ D → (wpI D 95 [.ref 0, .int (Int32.ofNat m)] (mW w σ) K ↔ K (Int32.ofNat (ρ (10 + m))) (mW w' σ')) := by
  have h' := h
  obtain ⟨hw, hS, hH, ⟨P, hP, p3, p4, hτ⟩, hρ, hv, hr, h1, htp, htb, ht⟩ := h
  have hT := isTP hw hP
  have hT' := hT
  simp only [isT] at hT'
  obtain ⟨w1, σ1, x1, x2, C1, k1⟩ := k_11 h'
  have hw1 := C1.1
  have hρ1 : tSt σ1 35 τ ρ := C1.2.2.2.2.1
  obtain ⟨P1, hP1, p31, p41, hτ1⟩ := C1.2.2.2.1
  have hT1 := isTP hw1 hP1
  have hT1' := hT1
  simp only [isT] at hT1'
  have hb := vRow_b hv hr
  have c8 : ρ (10 + m) ≤ 8 := by
    have : m = 0 ∨ m = 1 := by omega
    rcases this with rfl | rfl
    · exact vR_c0 hr
    · exact vR_c1 hr
  have v1 : vRow τ (rSet ρ (10 + m) 0) := vRow_s hv hr (by omega)
  have ts : tSt (uI (uI σ1 47 m 0) 45 m 0) 35 τ (rSet (rSet ρ (10 + m) 0) (6 + m) 0) := tSt_w (A := 10) (tSt_cz hρ1 hb hm) (vRow_b hv v1) (by unfold in0; omega) (lA_wy hm) (tv_0 (by unfold isSh; omega)).symm (by omega)
  have vr : vRow τ (rSet (rSet ρ (10 + m) 0) (6 + m) 0) := vRow_s hv v1 (by omega)
  refine ⟨w1, uI (uI σ1 47 m 0) 45 m 0, x1, frM_tr (frM_D x2 (by omega)) (frM_tr (frM_I (by omega)) (frM_I (by omega))), cIn_mu C1 (frR_tr (frR_I (by omega)) (frR_I (by omega))) ts vr, fun hD => cI_of (m := 3) (fun d hd Q hQ => ?_) rfl hD⟩
  have hd1 : 1 ≤ d := by omega
  have z : bN (Int32.ofNat m) 2 = 1 := bN_on hm (by omega)
  have en := on_nat (i := m) (by omega)
  have eb : inB (Int32.ofNat m) 2 = true := on_inB hm (by omega)
  have es : σ.1 47 m = Int32.ofNat (ρ (10 + m)) := tS_or hρ hm
  have es1 : σ1.1 47 m = Int32.ofNat (ρ (10 + m)) := tS_or hρ1 hm
  have es' : (Int32.ofNat (ρ (10 + m)) = 0) ↔ False := iff_false_intro (fun q => hs ((of_eq0 (by omega)).mp q))
  refine b95_0 ?_
  simp only [↓br_pos, ↓br_neg, ↓rF_I, ↓rF_L, ↓rF_R, ↓rF_N, rO_m, rB_m, ↓rI_m, wI_m, ↓rB2_m, ↓rB3_m, wB2_m, wB3_m, ↓rL_m, wL_m, ↓rQ_m, wQ_m, ↓lI_m, pI_m, pL_m, pR_m, sI_m, sBy_m, sBo_m, sL_m, sQ_m, fst_m, true_and, and_true, tg_some, ln_some, uI_1, uI_2, uL_1, uL_2, uL_3, uQ_1, uQ_2, uQ_3, rv_i, rv_l, rv_n, rv_b0, rv_b1, RMR, ne_eq, reduceCtorEq, not_false_eq_true, Option.getD_some, if_true, if_false, and_self, false_and, and_false, Nat.add_left_cancel_iff, Nat.add_eq_left, Nat.left_eq_add, Nat.one_ne_zero, Nat.reduceAdd, Nat.reduceLT, Nat.reduceLeDiff, Nat.reduceEqDiff, true_implies, false_implies, implies_true, Option.some.injEq, forall_eq', forall_eq, reduceCtorEq, brT, brF, br_s, i_10, i_01, ib_0_2, ib_1_2, tn_0, tn_1, Int32.le_refl, eq_self, rv_bN, rv_iM, RCX 0, RCG 2, RCT 4, RCT 15, RCT 25, RCS 35, RCS 49, RCH 63, RCP 67, RCB 72, RCR 77, RCM 81, RLY, lit_at hw, g_118 hd1, z, eb, en, es, es', k1 hd, lit_at hw1, es1]
  exact hQ
theorem c_93z {w : mT} {σ : mS} {tp n : Nat} {t : Nat → Nat} {τ ρ : Rw} {bk : Nat → Rw} {has : Nat → Bool} {im : Nat → Rw} {p l a b c : Int32} {D : Nat} {K : Int32 → Hp → Prop} (h : cIn w σ tp t τ ρ n bk has im) (ha : ¬ (cbP τ p l a b c ∧ ρ 10 < 8)) (hD : 4 ≤ D) : wpI D 93 [.ref 0, .int p, .int l, .int a, .int b, .int c] (mW w σ) K ↔ K (-1) (mW w σ) := by
  have h' := h
  obtain ⟨hw, hS, hH, ⟨P, hP, p3, p4, hτ⟩, hρ, hv, hr, h1, htp, htb, ht⟩ := h
  have hT := isTP hw hP
  have hT' := hT
  simp only [isT] at hT'
  refine cI_of (m := 3) (fun d hd Q hQ => ?_) rfl hD
  have c0 := vR_c0 hr
  have es : σ.1 47 0 = Int32.ofNat (ρ 10) := tS_or hρ (by omega : 0 < 2)
  refine b93_0 ?_
  by_cases z : cbP τ p l a b c
  · have ez : iB (cbP τ p l a b c) = 1 := iB_t z
    have c8 : (Int32.ofNat (ρ 10) < (8 : Int32)) ↔ False := iff_false_intro (fun q => ha ⟨z, (on_lt (j := 8) (by omega) (by omega)).mp q⟩)
    simp only [↓br_pos, ↓br_neg, ↓rF_I, ↓rF_L, ↓rF_R, ↓rF_N, rO_m, rB_m, ↓rI_m, wI_m, ↓rB2_m, ↓rB3_m, wB2_m, wB3_m, ↓rL_m, wL_m, ↓rQ_m, wQ_m, ↓lI_m, pI_m, pL_m, pR_m, sI_m, sBy_m, sBo_m, sL_m, sQ_m, fst_m, true_and, and_true, tg_some, ln_some, uI_1, uI_2, uL_1, uL_2, uL_3, uQ_1, uQ_2, uQ_3, rv_i, rv_l, rv_n, rv_b0, rv_b1, RMR, ne_eq, reduceCtorEq, not_false_eq_true, Option.getD_some, if_true, if_false, and_self, false_and, and_false, Nat.add_left_cancel_iff, Nat.add_eq_left, Nat.left_eq_add, Nat.one_ne_zero, Nat.reduceAdd, Nat.reduceLT, Nat.reduceLeDiff, Nat.reduceEqDiff, true_implies, false_implies, implies_true, Option.some.injEq, forall_eq', forall_eq, reduceCtorEq, brT, brF, br_s, i_10, i_01, ib_0_2, ib_1_2, tn_0, tn_1, Int32.le_refl, eq_self, rv_bN, rv_iM, RCX 0, RCG 2, RCT 4, RCT 15, RCT 25, RCS 35, RCS 49, RCH 63, RCP 67, RCB 72, RCR 77, RCM 81, RLY, lit_at hw, g_121 hw hP p3 hτ hv hd, ez, es, c8]
    exact hQ
  · have ez : iB (cbP τ p l a b c) = 0 := iB_f z
    simp only [↓br_pos, ↓br_neg, ↓rF_I, ↓rF_L, ↓rF_R, ↓rF_N, rO_m, rB_m, ↓rI_m, wI_m, ↓rB2_m, ↓rB3_m, wB2_m, wB3_m, ↓rL_m, wL_m, ↓rQ_m, wQ_m, ↓lI_m, pI_m, pL_m, pR_m, sI_m, sBy_m, sBo_m, sL_m, sQ_m, fst_m, true_and, and_true, tg_some, ln_some, uI_1, uI_2, uL_1, uL_2, uL_3, uQ_1, uQ_2, uQ_3, rv_i, rv_l, rv_n, rv_b0, rv_b1, RMR, ne_eq, reduceCtorEq, not_false_eq_true, Option.getD_some, if_true, if_false, and_self, false_and, and_false, Nat.add_left_cancel_iff, Nat.add_eq_left, Nat.left_eq_add, Nat.one_ne_zero, Nat.reduceAdd, Nat.reduceLT, Nat.reduceLeDiff, Nat.reduceEqDiff, true_implies, false_implies, implies_true, Option.some.injEq, forall_eq', forall_eq, reduceCtorEq, brT, brF, br_s, i_10, i_01, ib_0_2, ib_1_2, tn_0, tn_1, Int32.le_refl, eq_self, rv_bN, rv_iM, RCX 0, RCG 2, RCT 4, RCT 15, RCT 25, RCS 35, RCS 49, RCH 63, RCP 67, RCB 72, RCR 77, RCM 81, RLY, lit_at hw, g_121 hw hP p3 hτ hv hd, ez]
    exact hQ
theorem c_93 {w : mT} {σ : mS} {tp n : Nat} {t : Nat → Nat} {τ ρ : Rw} {bk : Nat → Rw} {has : Nat → Bool} {im : Nat → Rw} {p l a b c : Nat} (h : cIn w σ tp t τ ρ n bk has im) (hp : p < τ 1) (hl : l < τ 0) (ha : a < τ (28 + p)) (hb' : b < τ (28 + p)) (hc : 1 ≤ c ∧ c ≤ 99) (hn : ρ 10 < 8) : ∃ w' σ', wExt w w' ∧ frM σ σ' ∧ cIn w' σ' tp t τ (sO0 ρ p l a b c) (nPh n) (bkPh n bk ρ) has im ∧ ∀ {D : Nat} {K : Int32 → Hp → Prop}, 4 ≤ D → (wpI D 93 [.ref 0, .int (Int32.ofNat p), .int (Int32.ofNat l), .int (Int32.ofNat a), .int (Int32.ofNat b), .int (Int32.ofNat c)] (mW w σ) K ↔ K (Int32.ofNat (ρ 10 + 1)) (mW w' σ')) := by
  have h' := h
  obtain ⟨hw, hS, hH, ⟨P, hP, p3, p4, hτ⟩, hρ, hv, hr, h1, htp, htb, ht⟩ := h
  have hT := isTP hw hP
  have hT' := hT
  simp only [isT] at hT'
  obtain ⟨w1, σ1, x1, x2, C1, k1⟩ := k_11 h'
  have hw1 := C1.1
  have hρ1 : tSt σ1 35 τ ρ := C1.2.2.2.2.1
  obtain ⟨P1, hP1, p31, p41, hτ1⟩ := C1.2.2.2.1
  have hT1 := isTP hw1 hP1
  have hT1' := hT1
  simp only [isT] at hT1'
  have hb := vRow_b hv hr
  obtain ⟨σ2, f2, t2, e2⟩ := o66_0 (p := p) (l := l) (a := a) (b := b) (t := c) hw1 hρ1 hb hn
  refine ⟨w1, σ2, x1, frM_tr (frM_D x2 (by omega)) (frM_R f2 (by omega)), cIn_mu C1 f2 t2 (vRow_O0 hv hr hp hl ha hb' hc hn), fun hD => cI_of (m := 3) (fun d hd Q hQ => ?_) rfl hD⟩
  have hd2 : 2 ≤ d := by omega
  have ez : iB (cbP τ (Int32.ofNat p) (Int32.ofNat l) (Int32.ofNat a) (Int32.ofNat b) (Int32.ofNat c)) = 1 := iB_t (cbP_of hv hp hl ha hb' hc)
  have es : σ.1 47 0 = Int32.ofNat (ρ 10) := tS_or hρ (by omega : 0 < 2)
  have c8 : (Int32.ofNat (ρ 10) < (8 : Int32)) ↔ True := iff_true_intro ((on_lt (j := 8) (by omega) (by omega)).mpr hn)
  have es2 : σ2.1 47 0 = Int32.ofNat (ρ 10 + 1) := tS_or t2 (by omega : 0 < 2)
  refine b93_0 ?_
  simp only [↓br_pos, ↓br_neg, ↓rF_I, ↓rF_L, ↓rF_R, ↓rF_N, rO_m, rB_m, ↓rI_m, wI_m, ↓rB2_m, ↓rB3_m, wB2_m, wB3_m, ↓rL_m, wL_m, ↓rQ_m, wQ_m, ↓lI_m, pI_m, pL_m, pR_m, sI_m, sBy_m, sBo_m, sL_m, sQ_m, fst_m, true_and, and_true, tg_some, ln_some, uI_1, uI_2, uL_1, uL_2, uL_3, uQ_1, uQ_2, uQ_3, rv_i, rv_l, rv_n, rv_b0, rv_b1, RMR, ne_eq, reduceCtorEq, not_false_eq_true, Option.getD_some, if_true, if_false, and_self, false_and, and_false, Nat.add_left_cancel_iff, Nat.add_eq_left, Nat.left_eq_add, Nat.one_ne_zero, Nat.reduceAdd, Nat.reduceLT, Nat.reduceLeDiff, Nat.reduceEqDiff, true_implies, false_implies, implies_true, Option.some.injEq, forall_eq', forall_eq, reduceCtorEq, brT, brF, br_s, i_10, i_01, ib_0_2, ib_1_2, tn_0, tn_1, Int32.le_refl, eq_self, rv_bN, rv_iM, RCX 0, RCG 2, RCT 4, RCT 15, RCT 25, RCS 35, RCS 49, RCH 63, RCP 67, RCB 72, RCR 77, RCM 81, RLY, lit_at hw, g_121 hw hP p3 hτ hv hd, ez, es, c8, k1 hd, lit_at hw1, e2 hd2, es2]
  exact hQ
theorem c_94z {w : mT} {σ : mS} {tp n : Nat} {t : Nat → Nat} {τ ρ : Rw} {bk : Nat → Rw} {has : Nat → Bool} {im : Nat → Rw} {p c s : Int32} {D : Nat} {K : Int32 → Hp → Prop} (h : cIn w σ tp t τ ρ n bk has im) (ha : ¬ (bC τ p c = 1 ∧ bN s (τ 2) = 1 ∧ ρ 11 < 8)) (hD : 4 ≤ D) : wpI D 94 [.ref 0, .int p, .int c, .int s] (mW w σ) K ↔ K (-1) (mW w σ) := by
  have h' := h
  obtain ⟨hw, hS, hH, ⟨P, hP, p3, p4, hτ⟩, hρ, hv, hr, h1, htp, htb, ht⟩ := h
  have hT := isTP hw hP
  have hT' := hT
  simp only [isT] at hT'
  refine cI_of (m := 3) (fun d hd Q hQ => ?_) rfl hD
  have hd1 : 1 ≤ d := by omega
  have hd2 : 2 ≤ d := by omega
  have hd3 : 3 ≤ d := by omega
  have c1 := vR_c1 hr
  have v2 := hv.2.2.1
  have es : σ.1 47 1 = Int32.ofNat (ρ 11) := tS_or hρ (by omega : 1 < 2)
  refine b94_0 ?_
  by_cases z : bC τ p c = 1
  · by_cases y : bN s (τ 2) = 1
    · have c8 : (Int32.ofNat (ρ 11) < (8 : Int32)) ↔ False := iff_false_intro (fun q => ha ⟨z, y, (on_lt (j := 8) (by omega) (by omega)).mp q⟩)
      simp only [↓br_pos, ↓br_neg, ↓rF_I, ↓rF_L, ↓rF_R, ↓rF_N, rO_m, rB_m, ↓rI_m, wI_m, ↓rB2_m, ↓rB3_m, wB2_m, wB3_m, ↓rL_m, wL_m, ↓rQ_m, wQ_m, ↓lI_m, pI_m, pL_m, pR_m, sI_m, sBy_m, sBo_m, sL_m, sQ_m, fst_m, true_and, and_true, tg_some, ln_some, uI_1, uI_2, uL_1, uL_2, uL_3, uQ_1, uQ_2, uQ_3, rv_i, rv_l, rv_n, rv_b0, rv_b1, RMR, ne_eq, reduceCtorEq, not_false_eq_true, Option.getD_some, if_true, if_false, and_self, false_and, and_false, Nat.add_left_cancel_iff, Nat.add_eq_left, Nat.left_eq_add, Nat.one_ne_zero, Nat.reduceAdd, Nat.reduceLT, Nat.reduceLeDiff, Nat.reduceEqDiff, true_implies, false_implies, implies_true, Option.some.injEq, forall_eq', forall_eq, reduceCtorEq, brT, brF, br_s, i_10, i_01, ib_0_2, ib_1_2, tn_0, tn_1, Int32.le_refl, eq_self, rv_bN, rv_iM, RCX 0, RCG 2, RCT 4, RCT 15, RCT 25, RCS 35, RCS 49, RCH 63, RCP 67, RCB 72, RCR 77, RCM 81, RLY, lit_at hw, RCT P, hT', p3, g_72 hT hτ hv hd2, z, g_73 hT hτ.2.2.2.1 (by omega : τ 2 < 2147483648) hd1, y, es, c8]
      exact hQ
    · have y' : bN s (τ 2) = 0 := bN_01.resolve_right y
      simp only [↓br_pos, ↓br_neg, ↓rF_I, ↓rF_L, ↓rF_R, ↓rF_N, rO_m, rB_m, ↓rI_m, wI_m, ↓rB2_m, ↓rB3_m, wB2_m, wB3_m, ↓rL_m, wL_m, ↓rQ_m, wQ_m, ↓lI_m, pI_m, pL_m, pR_m, sI_m, sBy_m, sBo_m, sL_m, sQ_m, fst_m, true_and, and_true, tg_some, ln_some, uI_1, uI_2, uL_1, uL_2, uL_3, uQ_1, uQ_2, uQ_3, rv_i, rv_l, rv_n, rv_b0, rv_b1, RMR, ne_eq, reduceCtorEq, not_false_eq_true, Option.getD_some, if_true, if_false, and_self, false_and, and_false, Nat.add_left_cancel_iff, Nat.add_eq_left, Nat.left_eq_add, Nat.one_ne_zero, Nat.reduceAdd, Nat.reduceLT, Nat.reduceLeDiff, Nat.reduceEqDiff, true_implies, false_implies, implies_true, Option.some.injEq, forall_eq', forall_eq, reduceCtorEq, brT, brF, br_s, i_10, i_01, ib_0_2, ib_1_2, tn_0, tn_1, Int32.le_refl, eq_self, rv_bN, rv_iM, RCX 0, RCG 2, RCT 4, RCT 15, RCT 25, RCS 35, RCS 49, RCH 63, RCP 67, RCB 72, RCR 77, RCM 81, RLY, lit_at hw, RCT P, hT', p3, g_72 hT hτ hv hd2, z, g_73 hT hτ.2.2.2.1 (by omega : τ 2 < 2147483648) hd1, y']
      exact hQ
  · have z' : bC τ p c = 0 := bC_01.resolve_right z
    simp only [↓br_pos, ↓br_neg, ↓rF_I, ↓rF_L, ↓rF_R, ↓rF_N, rO_m, rB_m, ↓rI_m, wI_m, ↓rB2_m, ↓rB3_m, wB2_m, wB3_m, ↓rL_m, wL_m, ↓rQ_m, wQ_m, ↓lI_m, pI_m, pL_m, pR_m, sI_m, sBy_m, sBo_m, sL_m, sQ_m, fst_m, true_and, and_true, tg_some, ln_some, uI_1, uI_2, uL_1, uL_2, uL_3, uQ_1, uQ_2, uQ_3, rv_i, rv_l, rv_n, rv_b0, rv_b1, RMR, ne_eq, reduceCtorEq, not_false_eq_true, Option.getD_some, if_true, if_false, and_self, false_and, and_false, Nat.add_left_cancel_iff, Nat.add_eq_left, Nat.left_eq_add, Nat.one_ne_zero, Nat.reduceAdd, Nat.reduceLT, Nat.reduceLeDiff, Nat.reduceEqDiff, true_implies, false_implies, implies_true, Option.some.injEq, forall_eq', forall_eq, reduceCtorEq, brT, brF, br_s, i_10, i_01, ib_0_2, ib_1_2, tn_0, tn_1, Int32.le_refl, eq_self, rv_bN, rv_iM, RCX 0, RCG 2, RCT 4, RCT 15, RCT 25, RCS 35, RCS 49, RCH 63, RCP 67, RCB 72, RCR 77, RCM 81, RLY, lit_at hw, RCT P, hT', p3, g_72 hT hτ hv hd2, z']
    exact hQ
theorem c_94 {w : mT} {σ : mS} {tp n : Nat} {t : Nat → Nat} {τ ρ : Rw} {bk : Nat → Rw} {has : Nat → Bool} {im : Nat → Rw} {p c s : Nat} (h : cIn w σ tp t τ ρ n bk has im) (hp : p < τ 1) (hc : c < τ (28 + p)) (hs : s < τ 2) (hn : ρ 11 < 8) : ∃ w' σ', wExt w w' ∧ frM σ σ' ∧ cIn w' σ' tp t τ (sO1 ρ p c s) (nPh n) (bkPh n bk ρ) has im ∧ ∀ {D : Nat} {K : Int32 → Hp → Prop}, 4 ≤ D → (wpI D 94 [.ref 0, .int (Int32.ofNat p), .int (Int32.ofNat c), .int (Int32.ofNat s)] (mW w σ) K ↔ K (Int32.ofNat (ρ 11 + 1)) (mW w' σ')) := by
  have h' := h
  obtain ⟨hw, hS, hH, ⟨P, hP, p3, p4, hτ⟩, hρ, hv, hr, h1, htp, htb, ht⟩ := h
  have hT := isTP hw hP
  have hT' := hT
  simp only [isT] at hT'
  obtain ⟨w1, σ1, x1, x2, C1, k1⟩ := k_11 h'
  have hw1 := C1.1
  have hρ1 : tSt σ1 35 τ ρ := C1.2.2.2.2.1
  obtain ⟨P1, hP1, p31, p41, hτ1⟩ := C1.2.2.2.1
  have hT1 := isTP hw1 hP1
  have hT1' := hT1
  simp only [isT] at hT1'
  have hb := vRow_b hv hr
  obtain ⟨σ2, f2, t2, e2⟩ := o66_1 (p := p) (c := c) (s := s) hw1 hρ1 hb hn
  refine ⟨w1, σ2, x1, frM_tr (frM_D x2 (by omega)) (frM_R f2 (by omega)), cIn_mu C1 f2 t2 (vRow_O1 hv hr hp hc hs hn), fun hD => cI_of (m := 3) (fun d hd Q hQ => ?_) rfl hD⟩
  have hd1 : 1 ≤ d := by omega
  have hd2 : 2 ≤ d := by omega
  have hd3 : 3 ≤ d := by omega
  have v2 := hv.2.2.1
  have z := bC_t hp hv hc
  have y := bN_on hs (by omega : τ 2 < 2147483648)
  have es : σ.1 47 1 = Int32.ofNat (ρ 11) := tS_or hρ (by omega : 1 < 2)
  have c8 : (Int32.ofNat (ρ 11) < (8 : Int32)) ↔ True := iff_true_intro ((on_lt (j := 8) (by omega) (by omega)).mpr hn)
  have es2 : σ2.1 47 1 = Int32.ofNat (ρ 11 + 1) := tS_or t2 (by omega : 1 < 2)
  refine b94_0 ?_
  simp only [↓br_pos, ↓br_neg, ↓rF_I, ↓rF_L, ↓rF_R, ↓rF_N, rO_m, rB_m, ↓rI_m, wI_m, ↓rB2_m, ↓rB3_m, wB2_m, wB3_m, ↓rL_m, wL_m, ↓rQ_m, wQ_m, ↓lI_m, pI_m, pL_m, pR_m, sI_m, sBy_m, sBo_m, sL_m, sQ_m, fst_m, true_and, and_true, tg_some, ln_some, uI_1, uI_2, uL_1, uL_2, uL_3, uQ_1, uQ_2, uQ_3, rv_i, rv_l, rv_n, rv_b0, rv_b1, RMR, ne_eq, reduceCtorEq, not_false_eq_true, Option.getD_some, if_true, if_false, and_self, false_and, and_false, Nat.add_left_cancel_iff, Nat.add_eq_left, Nat.left_eq_add, Nat.one_ne_zero, Nat.reduceAdd, Nat.reduceLT, Nat.reduceLeDiff, Nat.reduceEqDiff, true_implies, false_implies, implies_true, Option.some.injEq, forall_eq', forall_eq, reduceCtorEq, brT, brF, br_s, i_10, i_01, ib_0_2, ib_1_2, tn_0, tn_1, Int32.le_refl, eq_self, rv_bN, rv_iM, RCX 0, RCG 2, RCT 4, RCT 15, RCT 25, RCS 35, RCS 49, RCH 63, RCP 67, RCB 72, RCR 77, RCM 81, RLY, lit_at hw, RCT P, hT', p3, g_72 hT hτ hv hd2, z, g_73 hT hτ.2.2.2.1 (by omega : τ 2 < 2147483648) hd1, y, es, c8, k1 hd, lit_at hw1, e2 hd2, es2]
  exact hQ
def wcN (τ ρ : Rw) (p c s : Nat) : Nat := if tOn ρ p c = 0 then 2 else if ¬ tkP τ ρ s then 3 else if ¬ apP τ ρ 1 p c c then 4 else 0
theorem g_88z {w : mT} {σ : mS} {P D : Nat} {τ : Rw} {p c s : Int32} {K : Int32 → Hp → Prop} (hw : lit w) (hP : P = 15 ∨ P = 25) (p3 : σ.2.2 0 3 = some P) (hτ : tTold σ P τ) (hv : vTold τ) (hc : ¬ (bC τ p c = 1 ∧ bN s (τ 2) = 1)) (hD : 3 ≤ D) : wpI D 88 [.ref 0, .int p, .int c, .int s] (mW w σ) K ↔ K 1 (mW w σ) := by
  have hT := isTP hw hP
  have hT' := hT
  simp only [isT] at hT'
  refine cI_of (m := 2) (fun d hd Q hQ => ?_) rfl hD
  have hd1 : 1 ≤ d := by omega
  have hd2 : 2 ≤ d := by omega
  have v2 := hv.2.2.1
  refine b88_0 ?_
  by_cases z : bC τ p c = 1
  · have y' : bN s (τ 2) = 0 := bN_01.resolve_right (fun q => hc ⟨z, q⟩)
    simp only [↓br_pos, ↓br_neg, ↓rF_I, ↓rF_L, ↓rF_R, ↓rF_N, rO_m, rB_m, ↓rI_m, wI_m, ↓rB2_m, ↓rB3_m, wB2_m, wB3_m, ↓rL_m, wL_m, ↓rQ_m, wQ_m, ↓lI_m, pI_m, pL_m, pR_m, sI_m, sBy_m, sBo_m, sL_m, sQ_m, fst_m, true_and, and_true, tg_some, ln_some, uI_1, uI_2, uL_1, uL_2, uL_3, uQ_1, uQ_2, uQ_3, rv_i, rv_l, rv_n, rv_b0, rv_b1, RMR, ne_eq, reduceCtorEq, not_false_eq_true, Option.getD_some, if_true, if_false, and_self, false_and, and_false, Nat.add_left_cancel_iff, Nat.add_eq_left, Nat.left_eq_add, Nat.one_ne_zero, Nat.reduceAdd, Nat.reduceLT, Nat.reduceLeDiff, Nat.reduceEqDiff, true_implies, false_implies, implies_true, Option.some.injEq, forall_eq', forall_eq, reduceCtorEq, brT, brF, br_s, i_10, i_01, ib_0_2, ib_1_2, tn_0, tn_1, Int32.le_refl, eq_self, rv_bN, rv_iM, RCX 0, RCG 2, RCT 4, RCT 15, RCT 25, RCS 35, RCS 49, RCH 63, RCP 67, RCB 72, RCR 77, RCM 81, RLY, lit_at hw, RCT P, hT', p3, g_72 hT hτ hv hd2, z, g_73 hT hτ.2.2.2.1 (by omega : τ 2 < 2147483648) hd1, y']
    exact hQ
  · have z' : bC τ p c = 0 := bC_01.resolve_right z
    simp only [↓br_pos, ↓br_neg, ↓rF_I, ↓rF_L, ↓rF_R, ↓rF_N, rO_m, rB_m, ↓rI_m, wI_m, ↓rB2_m, ↓rB3_m, wB2_m, wB3_m, ↓rL_m, wL_m, ↓rQ_m, wQ_m, ↓lI_m, pI_m, pL_m, pR_m, sI_m, sBy_m, sBo_m, sL_m, sQ_m, fst_m, true_and, and_true, tg_some, ln_some, uI_1, uI_2, uL_1, uL_2, uL_3, uQ_1, uQ_2, uQ_3, rv_i, rv_l, rv_n, rv_b0, rv_b1, RMR, ne_eq, reduceCtorEq, not_false_eq_true, Option.getD_some, if_true, if_false, and_self, false_and, and_false, Nat.add_left_cancel_iff, Nat.add_eq_left, Nat.left_eq_add, Nat.one_ne_zero, Nat.reduceAdd, Nat.reduceLT, Nat.reduceLeDiff, Nat.reduceEqDiff, true_implies, false_implies, implies_true, Option.some.injEq, forall_eq', forall_eq, reduceCtorEq, brT, brF, br_s, i_10, i_01, ib_0_2, ib_1_2, tn_0, tn_1, Int32.le_refl, eq_self, rv_bN, rv_iM, RCX 0, RCG 2, RCT 4, RCT 15, RCT 25, RCS 35, RCS 49, RCH 63, RCP 67, RCB 72, RCR 77, RCM 81, RLY, lit_at hw, RCT P, hT', p3, g_72 hT hτ hv hd2, z']
    exact hQ
theorem g_88 {w : mT} {σ : mS} {P p c s D : Nat} {τ ρ : Rw} {K : Int32 → Hp → Prop} (hw : lit w) (hP : P = 15 ∨ P = 25) (p3 : σ.2.2 0 3 = some P) (hτ : tTold σ P τ) (hv : vTold τ) (hρ : tSt σ 35 τ ρ) (hr : vRow τ ρ) (hp : p < τ 1) (hc : c < τ (28 + p)) (hs : s < τ 2) (hD : 3 ≤ D) : wpI D 88 [.ref 0, .int (Int32.ofNat p), .int (Int32.ofNat c), .int (Int32.ofNat s)] (mW w σ) K ↔ K (Int32.ofNat (wcN τ ρ p c s)) (mW w σ) := by
  have hT := isTP hw hP
  have hT' := hT
  simp only [isT] at hT'
  refine cI_of (m := 2) (fun d hd Q hQ => ?_) rfl hD
  have hd1 : 1 ≤ d := by omega
  have hd2 : 2 ≤ d := by omega
  have v1 := hv.2.1
  have v2 := hv.2.2.1
  have v3 := (hv.2.2.2.2.2.1 p hp).2
  have z := bC_t hp hv hc
  have y := bN_on hs (by omega : τ 2 < 2147483648)
  have tl := tOn_lt hr (by omega : p < 3) (by omega : c < 12)
  have e56 := fun {K : Int32 → Hp → Prop} => g_56 (K := K) (isS35 hw) hρ hr (by omega : p < 3) (by omega : c < 12) hd2
  have e62 := fun {K : Int32 → Hp → Prop} => g_62 (K := K) (isS35 hw) hT hρ hτ hv hr hs hd1
  have e122 : ∀ {K : Int32 → Hp → Prop}, wpI d 122 [.ref 0, .int (1 : Int32), .int (Int32.ofNat p), .int (Int32.ofNat c), .int (Int32.ofNat c)] (mW w σ) K ↔ K (iB (apP τ ρ 1 p c c)) (mW w σ) := fun {K} => g_122 (m := 1) hw hP p3 hτ hv hρ hr (by omega) (by omega) (by omega) (by omega) hd2
  have c0 := of_eq0 (a := tOn ρ p c) (by omega)
  refine b88_0 ?_
  unfold wcN at hQ
  by_cases a : tOn ρ p c = 0
  · rw [if_pos a] at hQ
    have c0' := iff_true_intro (c0.mpr a)
    simp only [↓br_pos, ↓br_neg, ↓rF_I, ↓rF_L, ↓rF_R, ↓rF_N, rO_m, rB_m, ↓rI_m, wI_m, ↓rB2_m, ↓rB3_m, wB2_m, wB3_m, ↓rL_m, wL_m, ↓rQ_m, wQ_m, ↓lI_m, pI_m, pL_m, pR_m, sI_m, sBy_m, sBo_m, sL_m, sQ_m, fst_m, true_and, and_true, tg_some, ln_some, uI_1, uI_2, uL_1, uL_2, uL_3, uQ_1, uQ_2, uQ_3, rv_i, rv_l, rv_n, rv_b0, rv_b1, RMR, ne_eq, reduceCtorEq, not_false_eq_true, Option.getD_some, if_true, if_false, and_self, false_and, and_false, Nat.add_left_cancel_iff, Nat.add_eq_left, Nat.left_eq_add, Nat.one_ne_zero, Nat.reduceAdd, Nat.reduceLT, Nat.reduceLeDiff, Nat.reduceEqDiff, true_implies, false_implies, implies_true, Option.some.injEq, forall_eq', forall_eq, reduceCtorEq, brT, brF, br_s, i_10, i_01, ib_0_2, ib_1_2, tn_0, tn_1, Int32.le_refl, eq_self, rv_bN, rv_iM, RCX 0, RCG 2, RCT 4, RCT 15, RCT 25, RCS 35, RCS 49, RCH 63, RCP 67, RCB 72, RCR 77, RCM 81, RLY, lit_at hw, RCT P, hT', p3, g_72 hT hτ hv hd2, z, g_73 hT hτ.2.2.2.1 (by omega : τ 2 < 2147483648) hd1, y, e56, c0']
    exact hQ
  · rw [if_neg a] at hQ
    have c0' := iff_false_intro (fun q => a (c0.mp q))
    by_cases b : tkP τ ρ s
    · rw [if_neg (fun q => q b)] at hQ
      have eb : iB (tkP τ ρ s) = 1 := iB_t b
      by_cases e : apP τ ρ 1 p c c
      · rw [if_neg (fun q => q e)] at hQ
        have ee : iB (apP τ ρ 1 p c c) = 1 := iB_t e
        simp only [↓br_pos, ↓br_neg, ↓rF_I, ↓rF_L, ↓rF_R, ↓rF_N, rO_m, rB_m, ↓rI_m, wI_m, ↓rB2_m, ↓rB3_m, wB2_m, wB3_m, ↓rL_m, wL_m, ↓rQ_m, wQ_m, ↓lI_m, pI_m, pL_m, pR_m, sI_m, sBy_m, sBo_m, sL_m, sQ_m, fst_m, true_and, and_true, tg_some, ln_some, uI_1, uI_2, uL_1, uL_2, uL_3, uQ_1, uQ_2, uQ_3, rv_i, rv_l, rv_n, rv_b0, rv_b1, RMR, ne_eq, reduceCtorEq, not_false_eq_true, Option.getD_some, if_true, if_false, and_self, false_and, and_false, Nat.add_left_cancel_iff, Nat.add_eq_left, Nat.left_eq_add, Nat.one_ne_zero, Nat.reduceAdd, Nat.reduceLT, Nat.reduceLeDiff, Nat.reduceEqDiff, true_implies, false_implies, implies_true, Option.some.injEq, forall_eq', forall_eq, reduceCtorEq, brT, brF, br_s, i_10, i_01, ib_0_2, ib_1_2, tn_0, tn_1, Int32.le_refl, eq_self, rv_bN, rv_iM, RCX 0, RCG 2, RCT 4, RCT 15, RCT 25, RCS 35, RCS 49, RCH 63, RCP 67, RCB 72, RCR 77, RCM 81, RLY, lit_at hw, RCT P, hT', p3, g_72 hT hτ hv hd2, z, g_73 hT hτ.2.2.2.1 (by omega : τ 2 < 2147483648) hd1, y, e56, c0', e62, eb, e122, ee]
        exact hQ
      · rw [if_pos e] at hQ
        have ee : iB (apP τ ρ 1 p c c) = 0 := iB_f e
        simp only [↓br_pos, ↓br_neg, ↓rF_I, ↓rF_L, ↓rF_R, ↓rF_N, rO_m, rB_m, ↓rI_m, wI_m, ↓rB2_m, ↓rB3_m, wB2_m, wB3_m, ↓rL_m, wL_m, ↓rQ_m, wQ_m, ↓lI_m, pI_m, pL_m, pR_m, sI_m, sBy_m, sBo_m, sL_m, sQ_m, fst_m, true_and, and_true, tg_some, ln_some, uI_1, uI_2, uL_1, uL_2, uL_3, uQ_1, uQ_2, uQ_3, rv_i, rv_l, rv_n, rv_b0, rv_b1, RMR, ne_eq, reduceCtorEq, not_false_eq_true, Option.getD_some, if_true, if_false, and_self, false_and, and_false, Nat.add_left_cancel_iff, Nat.add_eq_left, Nat.left_eq_add, Nat.one_ne_zero, Nat.reduceAdd, Nat.reduceLT, Nat.reduceLeDiff, Nat.reduceEqDiff, true_implies, false_implies, implies_true, Option.some.injEq, forall_eq', forall_eq, reduceCtorEq, brT, brF, br_s, i_10, i_01, ib_0_2, ib_1_2, tn_0, tn_1, Int32.le_refl, eq_self, rv_bN, rv_iM, RCX 0, RCG 2, RCT 4, RCT 15, RCT 25, RCS 35, RCS 49, RCH 63, RCP 67, RCB 72, RCR 77, RCM 81, RLY, lit_at hw, RCT P, hT', p3, g_72 hT hτ hv hd2, z, g_73 hT hτ.2.2.2.1 (by omega : τ 2 < 2147483648) hd1, y, e56, c0', e62, eb, e122, ee]
        exact hQ
    · rw [if_pos b] at hQ
      have eb : iB (tkP τ ρ s) = 0 := iB_f b
      simp only [↓br_pos, ↓br_neg, ↓rF_I, ↓rF_L, ↓rF_R, ↓rF_N, rO_m, rB_m, ↓rI_m, wI_m, ↓rB2_m, ↓rB3_m, wB2_m, wB3_m, ↓rL_m, wL_m, ↓rQ_m, wQ_m, ↓lI_m, pI_m, pL_m, pR_m, sI_m, sBy_m, sBo_m, sL_m, sQ_m, fst_m, true_and, and_true, tg_some, ln_some, uI_1, uI_2, uL_1, uL_2, uL_3, uQ_1, uQ_2, uQ_3, rv_i, rv_l, rv_n, rv_b0, rv_b1, RMR, ne_eq, reduceCtorEq, not_false_eq_true, Option.getD_some, if_true, if_false, and_self, false_and, and_false, Nat.add_left_cancel_iff, Nat.add_eq_left, Nat.left_eq_add, Nat.one_ne_zero, Nat.reduceAdd, Nat.reduceLT, Nat.reduceLeDiff, Nat.reduceEqDiff, true_implies, false_implies, implies_true, Option.some.injEq, forall_eq', forall_eq, reduceCtorEq, brT, brF, br_s, i_10, i_01, ib_0_2, ib_1_2, tn_0, tn_1, Int32.le_refl, eq_self, rv_bN, rv_iM, RCX 0, RCG 2, RCT 4, RCT 15, RCT 25, RCS 35, RCS 49, RCH 63, RCP 67, RCB 72, RCR 77, RCM 81, RLY, lit_at hw, RCT P, hT', p3, g_72 hT hτ hv hd2, z, g_73 hT hτ.2.2.2.1 (by omega : τ 2 < 2147483648) hd1, y, e56, c0', e62, eb]
      exact hQ
theorem wc_lt {τ ρ : Rw} {p c s : Nat} : wcN τ ρ p c s < 5 := by
  unfold wcN
  split
  · omega
  split
  · omega
  split <;> omega
theorem c_89z {w : mT} {σ : mS} {tp n : Nat} {t : Nat → Nat} {τ ρ : Rw} {bk : Nat → Rw} {has : Nat → Bool} {im : Nat → Rw} {p c s : Int32} {D : Nat} {K : Int32 → Hp → Prop} (h : cIn w σ tp t τ ρ n bk has im) (ha : ¬ (bC τ p c = 1 ∧ bN s (τ 2) = 1)) (hD : 4 ≤ D) : wpI D 89 [.ref 0, .int p, .int c, .int s] (mW w σ) K ↔ K (-1) (mW w σ) := by
  have h' := h
  obtain ⟨hw, hS, hH, ⟨P, hP, p3, p4, hτ⟩, hρ, hv, hr, h1, htp, htb, ht⟩ := h
  have hT := isTP hw hP
  have hT' := hT
  simp only [isT] at hT'
  refine cI_of (m := 3) (fun d hd Q hQ => ?_) rfl hD
  refine b89_0 ?_
  simp only [↓br_pos, ↓br_neg, ↓rF_I, ↓rF_L, ↓rF_R, ↓rF_N, rO_m, rB_m, ↓rI_m, wI_m, ↓rB2_m, ↓rB3_m, wB2_m, wB3_m, ↓rL_m, wL_m, ↓rQ_m, wQ_m, ↓lI_m, pI_m, pL_m, pR_m, sI_m, sBy_m, sBo_m, sL_m, sQ_m, fst_m, true_and, and_true, tg_some, ln_some, uI_1, uI_2, uL_1, uL_2, uL_3, uQ_1, uQ_2, uQ_3, rv_i, rv_l, rv_n, rv_b0, rv_b1, RMR, ne_eq, reduceCtorEq, not_false_eq_true, Option.getD_some, if_true, if_false, and_self, false_and, and_false, Nat.add_left_cancel_iff, Nat.add_eq_left, Nat.left_eq_add, Nat.one_ne_zero, Nat.reduceAdd, Nat.reduceLT, Nat.reduceLeDiff, Nat.reduceEqDiff, true_implies, false_implies, implies_true, Option.some.injEq, forall_eq', forall_eq, reduceCtorEq, brT, brF, br_s, i_10, i_01, ib_0_2, ib_1_2, tn_0, tn_1, Int32.le_refl, eq_self, rv_bN, rv_iM, RCX 0, RCG 2, RCT 4, RCT 15, RCT 25, RCS 35, RCS 49, RCH 63, RCP 67, RCB 72, RCR 77, RCM 81, RLY, lit_at hw, g_88z hw hP p3 hτ hv ha hd]
  exact hQ
theorem c_89n {w : mT} {σ : mS} {tp n : Nat} {t : Nat → Nat} {τ ρ : Rw} {bk : Nat → Rw} {has : Nat → Bool} {im : Nat → Rw} {p c s : Nat} {D : Nat} {K : Int32 → Hp → Prop} (h : cIn w σ tp t τ ρ n bk has im) (hp : p < τ 1) (hc : c < τ (28 + p)) (hs : s < τ 2) (hn : wcN τ ρ p c s ≠ 0) (hD : 4 ≤ D) : wpI D 89 [.ref 0, .int (Int32.ofNat p), .int (Int32.ofNat c), .int (Int32.ofNat s)] (mW w σ) K ↔ K (-1) (mW w σ) := by
  have h' := h
  obtain ⟨hw, hS, hH, ⟨P, hP, p3, p4, hτ⟩, hρ, hv, hr, h1, htp, htb, ht⟩ := h
  have hT := isTP hw hP
  have hT' := hT
  simp only [isT] at hT'
  refine cI_of (m := 3) (fun d hd Q hQ => ?_) rfl hD
  have lt := wc_lt (τ := τ) (ρ := ρ) (p := p) (c := c) (s := s)
  have e0 : (Int32.ofNat (wcN τ ρ p c s) = 0) ↔ False := iff_false_intro (fun q => hn ((of_eq0 (by omega)).mp q))
  refine b89_0 ?_
  simp only [↓br_pos, ↓br_neg, ↓rF_I, ↓rF_L, ↓rF_R, ↓rF_N, rO_m, rB_m, ↓rI_m, wI_m, ↓rB2_m, ↓rB3_m, wB2_m, wB3_m, ↓rL_m, wL_m, ↓rQ_m, wQ_m, ↓lI_m, pI_m, pL_m, pR_m, sI_m, sBy_m, sBo_m, sL_m, sQ_m, fst_m, true_and, and_true, tg_some, ln_some, uI_1, uI_2, uL_1, uL_2, uL_3, uQ_1, uQ_2, uQ_3, rv_i, rv_l, rv_n, rv_b0, rv_b1, RMR, ne_eq, reduceCtorEq, not_false_eq_true, Option.getD_some, if_true, if_false, and_self, false_and, and_false, Nat.add_left_cancel_iff, Nat.add_eq_left, Nat.left_eq_add, Nat.one_ne_zero, Nat.reduceAdd, Nat.reduceLT, Nat.reduceLeDiff, Nat.reduceEqDiff, true_implies, false_implies, implies_true, Option.some.injEq, forall_eq', forall_eq, reduceCtorEq, brT, brF, br_s, i_10, i_01, ib_0_2, ib_1_2, tn_0, tn_1, Int32.le_refl, eq_self, rv_bN, rv_iM, RCX 0, RCG 2, RCT 4, RCT 15, RCT 25, RCS 35, RCS 49, RCH 63, RCP 67, RCB 72, RCR 77, RCM 81, RLY, lit_at hw, g_88 hw hP p3 hτ hv hρ hr hp hc hs hd, e0]
  exact hQ
def sCutA (τ ρ : Rw) (p c s : Nat) : Rw := sMove τ (rSet (sGo ρ 1 p c) 7 0) p c s
theorem c_89 {w : mT} {σ : mS} {tp n : Nat} {t : Nat → Nat} {τ ρ : Rw} {bk : Nat → Rw} {has : Nat → Bool} {im : Nat → Rw} {p c s : Nat} (h : cIn w σ tp t τ ρ n bk has im) (hp : p < τ 1) (hc : c < τ (28 + p)) (hs : s < τ 2) (hn : wcN τ ρ p c s = 0) : ∃ w' σ', wExt w w' ∧ frM σ σ' ∧ cIn w' σ' tp t τ (sCutA τ ρ p c s) (nPh n) (bkPh n bk ρ) has im ∧ ∀ {D : Nat} {K : Int32 → Hp → Prop}, 4 ≤ D → (wpI D 89 [.ref 0, .int (Int32.ofNat p), .int (Int32.ofNat c), .int (Int32.ofNat s)] (mW w σ) K ↔ K (Int32.ofNat (tOn ρ p c)) (mW w' σ')) := by
  have h' := h
  obtain ⟨hw, hS, hH, ⟨P, hP, p3, p4, hτ⟩, hρ, hv, hr, h1, htp, htb, ht⟩ := h
  have hT := isTP hw hP
  have hT' := hT
  simp only [isT] at hT'
  obtain ⟨w1, σ1, x1, x2, C1, k1⟩ := k_11 h'
  have hw1 := C1.1
  have hρ1 : tSt σ1 35 τ ρ := C1.2.2.2.2.1
  obtain ⟨P1, hP1, p31, p41, hτ1⟩ := C1.2.2.2.1
  have hT1 := isTP hw1 hP1
  have hT1' := hT1
  simp only [isT] at hT1'
  have hb := vRow_b hv hr
  have v1 := hv.2.1
  have v3 := (hv.2.2.2.2.2.1 p hp).2
  obtain ⟨σ2, f2, t2, e2⟩ := g_54 (m := 1) (p := p) (c := c) (isS35 hw1) hρ1 hb (by omega) (onP_lt hv (vR_on hr (by omega : 1 < 2))) (by omega) (by omega)
  have r2 : vRow τ (sGo ρ 1 p c) := vRow_go hv hr (by omega) hp hc
  have t3 : tSt (uI σ2 45 1 0) 35 τ (rSet (sGo ρ 1 p c) 7 0) := tSt_w (A := 10) t2 (vRow_b hv r2) (by unfold in0; omega) (by decide) (tv_0 (by decide)).symm (by omega)
  have r3 : vRow τ (rSet (sGo ρ 1 p c) 7 0) := vRow_s hv r2 (by omega)
  have f3 : frR 35 49 σ2 (uI σ2 45 1 0) := frR_I (by omega)
  have T3 : tTold (uI σ2 45 1 0) P1 τ := tTold_R (tTold_R hτ1 f2 (by omega)) f3 (by omega)
  have p33 : σ2.2.2 0 3 = some P1 := by rw [f2.2]; exact p31
  obtain ⟨σ4, f4, t4, e4⟩ := g_63 (c := c) (isS35 hw1) hT1 t3 T3 hv r3 (by omega : p < 3) (by omega) hs
  have et : tOn (rSet (sGo ρ 1 p c) 7 0) p c = tOn ρ p c := tOn_c (by rw [rS_ne (by omega)]; unfold sGo; rw [rS_ne (by omega), rS_ne (by omega)]) (fun k _ => by rw [rS_ne (by unfold li; omega)]; unfold sGo; rw [rS_ne (by unfold li; omega), rS_ne (by unfold li; omega)])
  rw [et] at e4
  refine ⟨w1, σ4, x1, frM_tr (frM_D x2 (by omega)) (frM_R (frR_tr f2 (frR_tr f3 f4)) (by omega)), cIn_mu C1 (frR_tr f2 (frR_tr f3 f4)) t4 (vRow_move hv r3 (by omega) (by omega) hs), fun hD => cI_of (m := 3) (fun d hd Q hQ => ?_) rfl hD⟩
  have hd1 : 1 ≤ d := by omega
  have hd2 : 2 ≤ d := by omega
  have hd3 : 3 ≤ d := by omega
  have e0 : (Int32.ofNat (wcN τ ρ p c s) = 0) ↔ True := iff_true_intro (by rw [hn]; rfl)
  have e2' : ∀ {K : Hp → Prop}, wpV d 54 [.ref 35, .int (1 : Int32), .int (Int32.ofNat p), .int (Int32.ofNat c)] (mW w1 σ1) K ↔ K (mW w1 σ2) := fun {K} => e2 hd2
  refine b89_0 ?_
  simp only [↓br_pos, ↓br_neg, ↓rF_I, ↓rF_L, ↓rF_R, ↓rF_N, rO_m, rB_m, ↓rI_m, wI_m, ↓rB2_m, ↓rB3_m, wB2_m, wB3_m, ↓rL_m, wL_m, ↓rQ_m, wQ_m, ↓lI_m, pI_m, pL_m, pR_m, sI_m, sBy_m, sBo_m, sL_m, sQ_m, fst_m, true_and, and_true, tg_some, ln_some, uI_1, uI_2, uL_1, uL_2, uL_3, uQ_1, uQ_2, uQ_3, rv_i, rv_l, rv_n, rv_b0, rv_b1, RMR, ne_eq, reduceCtorEq, not_false_eq_true, Option.getD_some, if_true, if_false, and_self, false_and, and_false, Nat.add_left_cancel_iff, Nat.add_eq_left, Nat.left_eq_add, Nat.one_ne_zero, Nat.reduceAdd, Nat.reduceLT, Nat.reduceLeDiff, Nat.reduceEqDiff, true_implies, false_implies, implies_true, Option.some.injEq, forall_eq', forall_eq, reduceCtorEq, brT, brF, br_s, i_10, i_01, ib_0_2, ib_1_2, tn_0, tn_1, Int32.le_refl, eq_self, rv_bN, rv_iM, RCX 0, RCG 2, RCT 4, RCT 15, RCT 25, RCS 35, RCS 49, RCH 63, RCP 67, RCB 72, RCR 77, RCM 81, RLY, lit_at hw, g_88 hw hP p3 hτ hv hρ hr hp hc hs hd, e0, k1 hd, lit_at hw1, e2', p33, e4 hd]
  exact hQ
end
section
/-! the class's calls: sail, undo, image, minutes, ends, lay -/
abbrev saP (τ ρ : Rw) (s : Nat) : Prop := ρ (43 + s) = 0 ∧ ¬ tkP τ ρ s ∧ wiP τ s (ρ (27 + s)) (ρ (35 + s))
theorem c_91z {w : mT} {σ : mS} {tp n : Nat} {t : Nat → Nat} {τ ρ : Rw} {bk : Nat → Rw} {has : Nat → Bool} {im : Nat → Rw} {a : Int32} {D : Nat} {K : Int32 → Hp → Prop} (h : cIn w σ tp t τ ρ n bk has im) (ha : ¬ (bN a (τ 2) = 1 ∧ saP τ ρ a.toNatClampNeg)) (hD : 4 ≤ D) : wpI D 91 [.ref 0, .int a] (mW w σ) K ↔ K (-1) (mW w σ) := by
  have h' := h
  obtain ⟨hw, hS, hH, ⟨P, hP, p3, p4, hτ⟩, hρ, hv, hr, h1, htp, htb, ht⟩ := h
  have hT := isTP hw hP
  have hT' := hT
  simp only [isT] at hT'
  refine cI_of (m := 3) (fun d hd Q hQ => ?_) rfl hD
  have hd1 : 1 ≤ d := by omega
  have hd2 : 2 ≤ d := by omega
  have hd3 : 3 ≤ d := by omega
  have v2 := hv.2.2.1
  refine b91_0 ?_
  by_cases z : bN a (τ 2) = 1
  · obtain ⟨s, rfl, hs⟩ := bN_ex z
    have en := on_nat (i := s) (by omega)
    rw [en] at ha
    have eb : inB (Int32.ofNat s) 8 = true := on_inB (by omega) (by omega)
    have es : σ.1 42 s = Int32.ofNat (ρ (43 + s)) - 1 := tS_sa hρ hs
    have b1 := vR_sa hr s hs
    have b2 := hold_lt hr hs
    have b3 := vR_ore hr s hs
    have e5 : σ.1 40 s = Int32.ofNat (ρ (27 + s)) := tS_hT hρ hs
    have e6 : σ.1 41 s = Int32.ofNat (ρ (35 + s)) := tS_hO hρ hs
    have e62 := fun {K : Int32 → Hp → Prop} => g_62 (K := K) (isS35 hw) hT hρ hτ hv hr hs hd1
    have e74 := fun {K : Int32 → Hp → Prop} => g_74 (w := w) (σ := σ) (K := K) hT hτ hv hs (by omega : ρ (27 + s) ≤ 2000000) (by omega : ρ (35 + s) < 2147483648) hd1
    by_cases y : ρ (43 + s) = 0
    · have es' : σ.1 42 s = -1 := by rw [es, y]; decide
      by_cases x : tkP τ ρ s
      · have ex : iB (tkP τ ρ s) = 1 := iB_t x
        simp only [↓br_pos, ↓br_neg, ↓rF_I, ↓rF_L, ↓rF_R, ↓rF_N, rO_m, rB_m, ↓rI_m, wI_m, ↓rB2_m, ↓rB3_m, wB2_m, wB3_m, ↓rL_m, wL_m, ↓rQ_m, wQ_m, ↓lI_m, pI_m, pL_m, pR_m, sI_m, sBy_m, sBo_m, sL_m, sQ_m, fst_m, true_and, and_true, tg_some, ln_some, uI_1, uI_2, uL_1, uL_2, uL_3, uQ_1, uQ_2, uQ_3, rv_i, rv_l, rv_n, rv_b0, rv_b1, RMR, ne_eq, reduceCtorEq, not_false_eq_true, Option.getD_some, if_true, if_false, and_self, false_and, and_false, Nat.add_left_cancel_iff, Nat.add_eq_left, Nat.left_eq_add, Nat.one_ne_zero, Nat.reduceAdd, Nat.reduceLT, Nat.reduceLeDiff, Nat.reduceEqDiff, true_implies, false_implies, implies_true, Option.some.injEq, forall_eq', forall_eq, reduceCtorEq, brT, brF, br_s, i_10, i_01, ib_0_2, ib_1_2, tn_0, tn_1, Int32.le_refl, eq_self, rv_bN, rv_iM, RCX 0, RCG 2, RCT 4, RCT 15, RCT 25, RCS 35, RCS 49, RCH 63, RCP 67, RCB 72, RCR 77, RCM 81, RLY, lit_at hw, RCT P, hT', p3, g_73 hT hτ.2.2.2.1 (by omega : τ 2 < 2147483648) hd1, z, eb, en, es', e62, ex]
        exact hQ
      · have ex : iB (tkP τ ρ s) = 0 := iB_f x
        have ev : iB (wiP τ s (ρ (27 + s)) (ρ (35 + s))) = 0 := iB_f (fun q => ha ⟨z, y, x, q⟩)
        simp only [↓br_pos, ↓br_neg, ↓rF_I, ↓rF_L, ↓rF_R, ↓rF_N, rO_m, rB_m, ↓rI_m, wI_m, ↓rB2_m, ↓rB3_m, wB2_m, wB3_m, ↓rL_m, wL_m, ↓rQ_m, wQ_m, ↓lI_m, pI_m, pL_m, pR_m, sI_m, sBy_m, sBo_m, sL_m, sQ_m, fst_m, true_and, and_true, tg_some, ln_some, uI_1, uI_2, uL_1, uL_2, uL_3, uQ_1, uQ_2, uQ_3, rv_i, rv_l, rv_n, rv_b0, rv_b1, RMR, ne_eq, reduceCtorEq, not_false_eq_true, Option.getD_some, if_true, if_false, and_self, false_and, and_false, Nat.add_left_cancel_iff, Nat.add_eq_left, Nat.left_eq_add, Nat.one_ne_zero, Nat.reduceAdd, Nat.reduceLT, Nat.reduceLeDiff, Nat.reduceEqDiff, true_implies, false_implies, implies_true, Option.some.injEq, forall_eq', forall_eq, reduceCtorEq, brT, brF, br_s, i_10, i_01, ib_0_2, ib_1_2, tn_0, tn_1, Int32.le_refl, eq_self, rv_bN, rv_iM, RCX 0, RCG 2, RCT 4, RCT 15, RCT 25, RCS 35, RCS 49, RCH 63, RCP 67, RCB 72, RCR 77, RCM 81, RLY, lit_at hw, RCT P, hT', p3, g_73 hT hτ.2.2.2.1 (by omega : τ 2 < 2147483648) hd1, z, eb, en, es', e62, ex, e5, e6, e74, ev]
        exact hQ
    · have es' : (Int32.ofNat (ρ (43 + s)) - 1 = -1) ↔ False := iff_false_intro (fun q => y ((of_m1 (by omega)).mp q))
      simp only [↓br_pos, ↓br_neg, ↓rF_I, ↓rF_L, ↓rF_R, ↓rF_N, rO_m, rB_m, ↓rI_m, wI_m, ↓rB2_m, ↓rB3_m, wB2_m, wB3_m, ↓rL_m, wL_m, ↓rQ_m, wQ_m, ↓lI_m, pI_m, pL_m, pR_m, sI_m, sBy_m, sBo_m, sL_m, sQ_m, fst_m, true_and, and_true, tg_some, ln_some, uI_1, uI_2, uL_1, uL_2, uL_3, uQ_1, uQ_2, uQ_3, rv_i, rv_l, rv_n, rv_b0, rv_b1, RMR, ne_eq, reduceCtorEq, not_false_eq_true, Option.getD_some, if_true, if_false, and_self, false_and, and_false, Nat.add_left_cancel_iff, Nat.add_eq_left, Nat.left_eq_add, Nat.one_ne_zero, Nat.reduceAdd, Nat.reduceLT, Nat.reduceLeDiff, Nat.reduceEqDiff, true_implies, false_implies, implies_true, Option.some.injEq, forall_eq', forall_eq, reduceCtorEq, brT, brF, br_s, i_10, i_01, ib_0_2, ib_1_2, tn_0, tn_1, Int32.le_refl, eq_self, rv_bN, rv_iM, RCX 0, RCG 2, RCT 4, RCT 15, RCT 25, RCS 35, RCS 49, RCH 63, RCP 67, RCB 72, RCR 77, RCM 81, RLY, lit_at hw, RCT P, hT', p3, g_73 hT hτ.2.2.2.1 (by omega : τ 2 < 2147483648) hd1, z, eb, en, es, es']
      exact hQ
  · have z' : bN a (τ 2) = 0 := bN_01.resolve_right z
    simp only [↓br_pos, ↓br_neg, ↓rF_I, ↓rF_L, ↓rF_R, ↓rF_N, rO_m, rB_m, ↓rI_m, wI_m, ↓rB2_m, ↓rB3_m, wB2_m, wB3_m, ↓rL_m, wL_m, ↓rQ_m, wQ_m, ↓lI_m, pI_m, pL_m, pR_m, sI_m, sBy_m, sBo_m, sL_m, sQ_m, fst_m, true_and, and_true, tg_some, ln_some, uI_1, uI_2, uL_1, uL_2, uL_3, uQ_1, uQ_2, uQ_3, rv_i, rv_l, rv_n, rv_b0, rv_b1, RMR, ne_eq, reduceCtorEq, not_false_eq_true, Option.getD_some, if_true, if_false, and_self, false_and, and_false, Nat.add_left_cancel_iff, Nat.add_eq_left, Nat.left_eq_add, Nat.one_ne_zero, Nat.reduceAdd, Nat.reduceLT, Nat.reduceLeDiff, Nat.reduceEqDiff, true_implies, false_implies, implies_true, Option.some.injEq, forall_eq', forall_eq, reduceCtorEq, brT, brF, br_s, i_10, i_01, ib_0_2, ib_1_2, tn_0, tn_1, Int32.le_refl, eq_self, rv_bN, rv_iM, RCX 0, RCG 2, RCT 4, RCT 15, RCT 25, RCS 35, RCS 49, RCH 63, RCP 67, RCB 72, RCR 77, RCM 81, RLY, lit_at hw, RCT P, hT', p3, g_73 hT hτ.2.2.2.1 (by omega : τ 2 < 2147483648) hd1, z']
    exact hQ
theorem vRow_sa {τ ρ : Rw} {s x : Nat} (hv : vTold τ) (h : vRow τ ρ) (hs : s < τ 2) (hx : x ≤ 1000) : vRow τ (rSet ρ (43 + s) x) := by
  have v0 := hv.1
  have v2 := hv.2.2.1
  have g : ∀ j, j ≠ 43 + s → rSet ρ (43 + s) x j = ρ j := fun j hj => rS_ne hj
  have c0 := vR_c0 h
  have c1 := vR_c1 h
  refine vR_mk (by rw [g _ (by omega)]; exact vR_day h) (fun m hm => onP_c (vR_on h hm) (g _ (by omega))) (fun m hm => by rw [g _ (by omega)]; exact vR_way h hm) (by rw [g _ (by omega)]; exact c0) (by rw [g _ (by omega)]; exact c1) (fun p hp => by rw [g _ (by omega)]; exact vR_la h p hp) (fun p hp k hk => ?_) (fun p hp k hk hk2 c hc => ?_) ?_ (fun s' hs' => ?_) (fun s' hs' => ?_) (fun i hi => ?_) (fun i hi => ?_)
  · rw [g _ (by omega)] at hk
    rw [g _ (by unfold lo; omega)]; exact vR_lo h p hp k hk
  · rw [g _ (by omega)] at hk
    rw [g _ (by unfold li; omega)]; exact vR_z h p hp k hk hk2 c hc
  · rw [allT_c (fun l _ => g _ (by omega)) (fun p hp c _ => tOn_c (g _ (by omega)) (fun k _ => g _ (by unfold li; omega))) (fun s' _ => g _ (by omega))]
    exact vR_all h
  · rw [g _ (by omega), g _ (by omega)]; exact vR_ore h s' hs'
  · rw [rSet_1]; split
    · exact hx
    · exact vR_sa h s' hs'
  · rw [g _ (by omega)] at hi
    exact vO0_c hv (vR_o0 h i hi) (fun f _ _ => g _ (by omega)) (fun q hq => by rw [g _ (by omega)]; exact Nat.le_refl _) (fun q hq k _ => g _ (by unfold lo; omega))
  · rw [g _ (by omega)] at hi
    exact vO1_c (vR_o1 h i hi) (fun f _ => g _ (by omega))
theorem c_91 {w : mT} {σ : mS} {tp n : Nat} {t : Nat → Nat} {τ ρ : Rw} {bk : Nat → Rw} {has : Nat → Bool} {im : Nat → Rw} {s : Nat} (h : cIn w σ tp t τ ρ n bk has im) (hs : s < τ 2) (hy : saP τ ρ s) : ∃ w' σ', wExt w w' ∧ frM σ σ' ∧ cIn w' σ' tp t τ (rSet ρ (43 + s) (ρ 0 + 1)) (nPh n) (bkPh n bk ρ) has im ∧ ∀ {D : Nat} {K : Int32 → Hp → Prop}, 4 ≤ D → (wpI D 91 [.ref 0, .int (Int32.ofNat s)] (mW w σ) K ↔ K (Int32.ofNat (lateD τ (rSet ρ (43 + s) (ρ 0 + 1)) s)) (mW w' σ')) := by
  have h' := h
  obtain ⟨hw, hS, hH, ⟨P, hP, p3, p4, hτ⟩, hρ, hv, hr, h1, htp, htb, ht⟩ := h
  have hT := isTP hw hP
  have hT' := hT
  simp only [isT] at hT'
  obtain ⟨w1, σ1, x1, x2, C1, k1⟩ := k_11 h'
  have hw1 := C1.1
  have hρ1 : tSt σ1 35 τ ρ := C1.2.2.2.2.1
  obtain ⟨P1, hP1, p31, p41, hτ1⟩ := C1.2.2.2.1
  have hT1 := isTP hw1 hP1
  have hT1' := hT1
  simp only [isT] at hT1'
  have hb := vRow_b hv hr
  have v2 := hv.2.2.1
  have v0 := vR_day hr
  have ts : tSt (uI σ1 42 s (Int32.ofNat (ρ 0))) 35 τ (rSet ρ (43 + s) (ρ 0 + 1)) := tSt_w (A := 7) hρ1 hb (by unfold in0; omega) (lA_sa (by omega)) (by rw [tv_1 (by unfold isSh; omega), st_m1 (by omega)]; rfl) (by omega)
  have vr : vRow τ (rSet ρ (43 + s) (ρ 0 + 1)) := vRow_sa hv hr hs (by omega)
  have fr : frR 35 49 σ1 (uI σ1 42 s (Int32.ofNat (ρ 0))) := frR_I (by omega)
  refine ⟨w1, uI σ1 42 s (Int32.ofNat (ρ 0)), x1, frM_tr (frM_D x2 (by omega)) (frM_I (by omega)), cIn_mu C1 fr ts vr, fun hD => cI_of (m := 3) (fun d hd Q hQ => ?_) rfl hD⟩
  have hd1 : 1 ≤ d := by omega
  have hd2 : 2 ≤ d := by omega
  have hd3 : 3 ≤ d := by omega
  have z := bN_on hs (by omega : τ 2 < 2147483648)
  have en := on_nat (i := s) (by omega)
  have eb : inB (Int32.ofNat s) 8 = true := on_inB (by omega) (by omega)
  have es : σ.1 42 s = Int32.ofNat (ρ (43 + s)) - 1 := tS_sa hρ hs
  have b2 := hold_lt hr hs
  have b3 := vR_ore hr s hs
  have e5 : σ.1 40 s = Int32.ofNat (ρ (27 + s)) := tS_hT hρ hs
  have e6 : σ.1 41 s = Int32.ofNat (ρ (35 + s)) := tS_hO hρ hs
  have e62 := fun {K : Int32 → Hp → Prop} => g_62 (K := K) (isS35 hw) hT hρ hτ hv hr hs hd1
  have e74 := fun {K : Int32 → Hp → Prop} => g_74 (w := w) (σ := σ) (K := K) hT hτ hv hs (by omega : ρ (27 + s) ≤ 2000000) (by omega : ρ (35 + s) < 2147483648) hd1
  have es' : σ.1 42 s = -1 := by rw [es, hy.1]; decide
  have ex : iB (tkP τ ρ s) = 0 := iB_f hy.2.1
  have ev : iB (wiP τ s (ρ (27 + s)) (ρ (35 + s))) = 1 := iB_t hy.2.2
  have e0 : σ1.1 35 0 = Int32.ofNat (ρ 0) := tS_d hρ1
  have p32 : (uI σ1 42 s (Int32.ofNat (ρ 0))).2.2 0 3 = some P1 := p31
  have e125 := fun {K : Int32 → Hp → Prop} => g_125 (K := K) hw1 hP1 p32 (tTold_R hτ1 fr (by omega)) hv ts vr hs hd1
  refine b91_0 ?_
  simp only [↓br_pos, ↓br_neg, ↓rF_I, ↓rF_L, ↓rF_R, ↓rF_N, rO_m, rB_m, ↓rI_m, wI_m, ↓rB2_m, ↓rB3_m, wB2_m, wB3_m, ↓rL_m, wL_m, ↓rQ_m, wQ_m, ↓lI_m, pI_m, pL_m, pR_m, sI_m, sBy_m, sBo_m, sL_m, sQ_m, fst_m, true_and, and_true, tg_some, ln_some, uI_1, uI_2, uL_1, uL_2, uL_3, uQ_1, uQ_2, uQ_3, rv_i, rv_l, rv_n, rv_b0, rv_b1, RMR, ne_eq, reduceCtorEq, not_false_eq_true, Option.getD_some, if_true, if_false, and_self, false_and, and_false, Nat.add_left_cancel_iff, Nat.add_eq_left, Nat.left_eq_add, Nat.one_ne_zero, Nat.reduceAdd, Nat.reduceLT, Nat.reduceLeDiff, Nat.reduceEqDiff, true_implies, false_implies, implies_true, Option.some.injEq, forall_eq', forall_eq, reduceCtorEq, brT, brF, br_s, i_10, i_01, ib_0_2, ib_1_2, tn_0, tn_1, Int32.le_refl, eq_self, rv_bN, rv_iM, RCX 0, RCG 2, RCT 4, RCT 15, RCT 25, RCS 35, RCS 49, RCH 63, RCP 67, RCB 72, RCR 77, RCM 81, RLY, lit_at hw, RCT P, hT', p3, g_73 hT hτ.2.2.2.1 (by omega : τ 2 < 2147483648) hd1, z, eb, en, es', e62, ex, e5, e6, e74, ev, k1 hd, lit_at hw1, e0, e125]
  exact hQ
theorem c_98z {w : mT} {σ : mS} {tp : Nat} {t : Nat → Nat} {τ ρ : Rw} {bk : Nat → Rw} {has : Nat → Bool} {im : Nat → Rw} {D : Nat} {K : Int32 → Hp → Prop} (h : cIn w σ tp t τ ρ 0 bk has im) (hD : 4 ≤ D) : wpI D 98 [.ref 0] (mW w σ) K ↔ K (-1) (mW w σ) := by
  obtain ⟨hw, hS, ⟨oo, hH⟩, r⟩ := h
  refine cI_of (m := 3) (fun d hd Q hQ => ?_) rfl hD
  refine b98_0 ?_
  simp only [↓br_pos, ↓br_neg, ↓rF_I, ↓rF_L, ↓rF_R, ↓rF_N, rO_m, rB_m, ↓rI_m, wI_m, ↓rB2_m, ↓rB3_m, wB2_m, wB3_m, ↓rL_m, wL_m, ↓rQ_m, wQ_m, ↓lI_m, pI_m, pL_m, pR_m, sI_m, sBy_m, sBo_m, sL_m, sQ_m, fst_m, true_and, and_true, tg_some, ln_some, uI_1, uI_2, uL_1, uL_2, uL_3, uQ_1, uQ_2, uQ_3, rv_i, rv_l, rv_n, rv_b0, rv_b1, RMR, ne_eq, reduceCtorEq, not_false_eq_true, Option.getD_some, if_true, if_false, and_self, false_and, and_false, Nat.add_left_cancel_iff, Nat.add_eq_left, Nat.left_eq_add, Nat.one_ne_zero, Nat.reduceAdd, Nat.reduceLT, Nat.reduceLeDiff, Nat.reduceEqDiff, true_implies, false_implies, implies_true, Option.some.injEq, forall_eq', forall_eq, reduceCtorEq, brT, brF, br_s, i_10, i_01, ib_0_2, ib_1_2, tn_0, tn_1, Int32.le_refl, eq_self, rv_bN, rv_iM, RCX 0, RCG 2, RCT 4, RCT 15, RCT 25, RCS 35, RCS 49, RCH 63, RCP 67, RCB 72, RCR 77, RCM 81, RLY, lit_at hw, g_12z hw hH hd]
  exact hQ
theorem cIn_st {w : mT} {σ σ' : mS} {tp n : Nat} {t : Nat → Nat} {τ ρ : Rw} {bk : Nat → Rw} {has : Nat → Bool} {im : Nat → Rw} {n' o : Nat} {ρ' : Rw} (h : cIn w σ tp t τ ρ n bk has im) (hf : frD 35 66 σ σ') (hS' : hiS w σ') (hH' : hiT σ' τ n' o bk has im) (ht' : tSt σ' 35 τ ρ') (hr' : vRow τ ρ') : cIn w σ' tp t τ ρ' n' bk has im := by
  obtain ⟨a1, a2, a3, ⟨P, b1, b2, b3, b4⟩, a5, a6, a7, a8, a9, a10, a11⟩ := h
  have r : ∀ a, a < 35 → σ'.1 a = σ.1 a := fun a ha => (hf a (by omega) (by omega)).1
  have q : ∀ a, a < 35 → σ'.2.2 a = σ.2.2 a := fun a ha => (hf a (by omega) (by omega)).2.2
  exact ⟨a1, hS', ⟨o, hH'⟩, ⟨P, b1, by rw [q 0 (by omega)]; exact b2, by rw [q 0 (by omega)]; exact b3, tTold_fr b4 (fun a y1 y2 => r a (by omega))⟩, ht', a6, hr', by rw [r 0 (by omega)]; exact a8, a9, fun i hi => by rw [r 1 (by omega)]; exact a10 i hi, a11⟩
theorem c_98 {w : mT} {σ : mS} {tp n : Nat} {t : Nat → Nat} {τ ρ : Rw} {bk : Nat → Rw} {has : Nat → Bool} {im : Nat → Rw} (h : cIn w σ tp t τ ρ n bk has im) (hn : 0 < n) : ∃ σ', frM σ σ' ∧ cIn w σ' tp t τ (bk (n - 1)) (n - 1) bk has im ∧ ∀ {D : Nat} {K : Int32 → Hp → Prop}, 4 ≤ D → (wpI D 98 [.ref 0] (mW w σ) K ↔ K (Int32.ofNat (n - 1)) (mW w σ')) := by
  have h' := h
  obtain ⟨hw, hS, ⟨oo, hH⟩, hP, hρ, hv, r⟩ := h
  obtain ⟨σ1, f1, -, S1, H1, t1, e1⟩ := g_12 hw hS hH hv hn
  have vb : vRow τ (bk (n - 1)) := (hH.2.2.2.2.1 (n - 1) (by omega)).1
  refine ⟨σ1, frM_D f1 (by omega), cIn_st h' f1 S1 H1 t1 vb, fun hD => cI_of (m := 3) (fun d hd Q hQ => ?_) rfl hD⟩
  have en : σ1.1 63 2 = Int32.ofNat (n - 1) := H1.2.2.1
  refine b98_0 ?_
  simp only [↓br_pos, ↓br_neg, ↓rF_I, ↓rF_L, ↓rF_R, ↓rF_N, rO_m, rB_m, ↓rI_m, wI_m, ↓rB2_m, ↓rB3_m, wB2_m, wB3_m, ↓rL_m, wL_m, ↓rQ_m, wQ_m, ↓lI_m, pI_m, pL_m, pR_m, sI_m, sBy_m, sBo_m, sL_m, sQ_m, fst_m, true_and, and_true, tg_some, ln_some, uI_1, uI_2, uL_1, uL_2, uL_3, uQ_1, uQ_2, uQ_3, rv_i, rv_l, rv_n, rv_b0, rv_b1, RMR, ne_eq, reduceCtorEq, not_false_eq_true, Option.getD_some, if_true, if_false, and_self, false_and, and_false, Nat.add_left_cancel_iff, Nat.add_eq_left, Nat.left_eq_add, Nat.one_ne_zero, Nat.reduceAdd, Nat.reduceLT, Nat.reduceLeDiff, Nat.reduceEqDiff, true_implies, false_implies, implies_true, Option.some.injEq, forall_eq', forall_eq, reduceCtorEq, brT, brF, br_s, i_10, i_01, ib_0_2, ib_1_2, tn_0, tn_1, Int32.le_refl, eq_self, rv_bN, rv_iM, RCX 0, RCG 2, RCT 4, RCT 15, RCT 25, RCS 35, RCS 49, RCH 63, RCP 67, RCB 72, RCR 77, RCM 81, RLY, lit_at hw, e1 hd, en]
  exact hQ
theorem c_99z {w : mT} {σ : mS} {a b : Int32} {D : Nat} {K : Int32 → Hp → Prop} (hw : lit w) (ha : ¬ (0 ≤ a.toInt ∧ a.toInt < 2)) (hD : 4 ≤ D) : wpI D 99 [.ref 0, .int a, .int b] (mW w σ) K ↔ K 0 (mW w σ) := by
  refine cI_of (m := 3) (fun d hd Q hQ => ?_) rfl hD
  refine b99_0 ?_
  by_cases z : b = 0
  · simp only [↓br_pos, ↓br_neg, ↓rF_I, ↓rF_L, ↓rF_R, ↓rF_N, rO_m, rB_m, ↓rI_m, wI_m, ↓rB2_m, ↓rB3_m, wB2_m, wB3_m, ↓rL_m, wL_m, ↓rQ_m, wQ_m, ↓lI_m, pI_m, pL_m, pR_m, sI_m, sBy_m, sBo_m, sL_m, sQ_m, fst_m, true_and, and_true, tg_some, ln_some, uI_1, uI_2, uL_1, uL_2, uL_3, uQ_1, uQ_2, uQ_3, rv_i, rv_l, rv_n, rv_b0, rv_b1, RMR, ne_eq, reduceCtorEq, not_false_eq_true, Option.getD_some, if_true, if_false, and_self, false_and, and_false, Nat.add_left_cancel_iff, Nat.add_eq_left, Nat.left_eq_add, Nat.one_ne_zero, Nat.reduceAdd, Nat.reduceLT, Nat.reduceLeDiff, Nat.reduceEqDiff, true_implies, false_implies, implies_true, Option.some.injEq, forall_eq', forall_eq, reduceCtorEq, brT, brF, br_s, i_10, i_01, ib_0_2, ib_1_2, tn_0, tn_1, Int32.le_refl, eq_self, rv_bN, rv_iM, RCX 0, RCG 2, RCT 4, RCT 15, RCT 25, RCS 35, RCS 49, RCH 63, RCP 67, RCB 72, RCR 77, RCM 81, RLY, lit_at hw, z, g_13z ha hd]
    exact hQ
  · simp only [↓br_pos, ↓br_neg, ↓rF_I, ↓rF_L, ↓rF_R, ↓rF_N, rO_m, rB_m, ↓rI_m, wI_m, ↓rB2_m, ↓rB3_m, wB2_m, wB3_m, ↓rL_m, wL_m, ↓rQ_m, wQ_m, ↓lI_m, pI_m, pL_m, pR_m, sI_m, sBy_m, sBo_m, sL_m, sQ_m, fst_m, true_and, and_true, tg_some, ln_some, uI_1, uI_2, uL_1, uL_2, uL_3, uQ_1, uQ_2, uQ_3, rv_i, rv_l, rv_n, rv_b0, rv_b1, RMR, ne_eq, reduceCtorEq, not_false_eq_true, Option.getD_some, if_true, if_false, and_self, false_and, and_false, Nat.add_left_cancel_iff, Nat.add_eq_left, Nat.left_eq_add, Nat.one_ne_zero, Nat.reduceAdd, Nat.reduceLT, Nat.reduceLeDiff, Nat.reduceEqDiff, true_implies, false_implies, implies_true, Option.some.injEq, forall_eq', forall_eq, reduceCtorEq, brT, brF, br_s, i_10, i_01, ib_0_2, ib_1_2, tn_0, tn_1, Int32.le_refl, eq_self, rv_bN, rv_iM, RCX 0, RCG 2, RCT 4, RCT 15, RCT 25, RCS 35, RCS 49, RCH 63, RCP 67, RCB 72, RCR 77, RCM 81, RLY, lit_at hw, z, g_14z ha hd]
    exact hQ
theorem c_99l {w : mT} {σ : mS} {tp n : Nat} {t : Nat → Nat} {τ ρ : Rw} {bk : Nat → Rw} {has : Nat → Bool} {im : Nat → Rw} {k : Nat} (h : cIn w σ tp t τ ρ n bk has im) (hk : k < 2) : ∃ w' σ', wExt w w' ∧ frM σ σ' ∧ cIn w' σ' tp t τ ρ n bk (hasS has k) (imS im k ρ) ∧ ∀ {D : Nat} {K : Int32 → Hp → Prop}, 4 ≤ D → (wpI D 99 [.ref 0, .int (Int32.ofNat k), .int 0] (mW w σ) K ↔ K 1 (mW w' σ')) := by
  have h' := h
  obtain ⟨hw, hS, ⟨oo, hH⟩, ⟨P, b1, b2, b3, b4⟩, hρ, hv, hr, a8, a9, a10, a11⟩ := h
  obtain ⟨w1, σ1, x1, x2, S1, H1, e1⟩ := g_13 hw hS hH hρ hv hr hk
  have r : ∀ a, a < 63 → σ1.1 a = σ.1 a := fun a ha => (x2 a (by omega) (by omega)).1
  have q : ∀ a, a < 63 → σ1.2.2 a = σ.2.2 a := fun a ha => (x2 a (by omega) (by omega)).2.2
  refine ⟨w1, σ1, x1, frM_D x2 (by omega), ⟨lit_E x1 hS.2.2.1 hw, S1, ⟨oo, H1⟩, ⟨P, b1, by rw [q 0 (by omega)]; exact b2, by rw [q 0 (by omega)]; exact b3, tTold_fr b4 (fun a y1 y2 => r a (by omega))⟩, tSt_fr hρ (fun a y1 y2 => r a (by omega)), hv, hr, by rw [r 0 (by omega)]; exact a8, a9, fun i hi => by rw [r 1 (by omega)]; exact a10 i hi, a11⟩, fun hD => cI_of (m := 3) (fun d hd Q hQ => ?_) rfl hD⟩
  refine b99_0 ?_
  simp only [↓br_pos, ↓br_neg, ↓rF_I, ↓rF_L, ↓rF_R, ↓rF_N, rO_m, rB_m, ↓rI_m, wI_m, ↓rB2_m, ↓rB3_m, wB2_m, wB3_m, ↓rL_m, wL_m, ↓rQ_m, wQ_m, ↓lI_m, pI_m, pL_m, pR_m, sI_m, sBy_m, sBo_m, sL_m, sQ_m, fst_m, true_and, and_true, tg_some, ln_some, uI_1, uI_2, uL_1, uL_2, uL_3, uQ_1, uQ_2, uQ_3, rv_i, rv_l, rv_n, rv_b0, rv_b1, RMR, ne_eq, reduceCtorEq, not_false_eq_true, Option.getD_some, if_true, if_false, and_self, false_and, and_false, Nat.add_left_cancel_iff, Nat.add_eq_left, Nat.left_eq_add, Nat.one_ne_zero, Nat.reduceAdd, Nat.reduceLT, Nat.reduceLeDiff, Nat.reduceEqDiff, true_implies, false_implies, implies_true, Option.some.injEq, forall_eq', forall_eq, reduceCtorEq, brT, brF, br_s, i_10, i_01, ib_0_2, ib_1_2, tn_0, tn_1, Int32.le_refl, eq_self, rv_bN, rv_iM, RCX 0, RCG 2, RCT 4, RCT 15, RCT 25, RCS 35, RCS 49, RCH 63, RCP 67, RCB 72, RCR 77, RCM 81, RLY, lit_at hw, e1 hd]
  exact hQ
theorem c_99f {w : mT} {σ : mS} {tp n : Nat} {t : Nat → Nat} {τ ρ : Rw} {bk : Nat → Rw} {has : Nat → Bool} {im : Nat → Rw} {k : Nat} {b : Int32} {D : Nat} {K : Int32 → Hp → Prop} (h : cIn w σ tp t τ ρ n bk has im) (hk : k < 2) (hb : b ≠ 0) (hh : has k = false) (hD : 4 ≤ D) : wpI D 99 [.ref 0, .int (Int32.ofNat k), .int b] (mW w σ) K ↔ K 0 (mW w σ) := by
  obtain ⟨hw, hS, ⟨oo, hH⟩, r⟩ := h
  refine cI_of (m := 3) (fun d hd Q hQ => ?_) rfl hD
  refine b99_0 ?_
  simp only [↓br_pos, ↓br_neg, ↓rF_I, ↓rF_L, ↓rF_R, ↓rF_N, rO_m, rB_m, ↓rI_m, wI_m, ↓rB2_m, ↓rB3_m, wB2_m, wB3_m, ↓rL_m, wL_m, ↓rQ_m, wQ_m, ↓lI_m, pI_m, pL_m, pR_m, sI_m, sBy_m, sBo_m, sL_m, sQ_m, fst_m, true_and, and_true, tg_some, ln_some, uI_1, uI_2, uL_1, uL_2, uL_3, uQ_1, uQ_2, uQ_3, rv_i, rv_l, rv_n, rv_b0, rv_b1, RMR, ne_eq, reduceCtorEq, not_false_eq_true, Option.getD_some, if_true, if_false, and_self, false_and, and_false, Nat.add_left_cancel_iff, Nat.add_eq_left, Nat.left_eq_add, Nat.one_ne_zero, Nat.reduceAdd, Nat.reduceLT, Nat.reduceLeDiff, Nat.reduceEqDiff, true_implies, false_implies, implies_true, Option.some.injEq, forall_eq', forall_eq, reduceCtorEq, brT, brF, br_s, i_10, i_01, ib_0_2, ib_1_2, tn_0, tn_1, Int32.le_refl, eq_self, rv_bN, rv_iM, RCX 0, RCG 2, RCT 4, RCT 15, RCT 25, RCS 35, RCS 49, RCH 63, RCP 67, RCB 72, RCR 77, RCM 81, RLY, lit_at hw, hb, g_14f hw hH hk hh hd]
  exact hQ
theorem c_99r {w : mT} {σ : mS} {tp n : Nat} {t : Nat → Nat} {τ ρ : Rw} {bk : Nat → Rw} {has : Nat → Bool} {im : Nat → Rw} {k : Nat} {b : Int32} (h : cIn w σ tp t τ ρ n bk has im) (hk : k < 2) (hb : b ≠ 0) (hh : has k = true) : ∃ σ', frM σ σ' ∧ cIn w σ' tp t τ (im k) 0 bk has im ∧ ∀ {D : Nat} {K : Int32 → Hp → Prop}, 4 ≤ D → (wpI D 99 [.ref 0, .int (Int32.ofNat k), .int b] (mW w σ) K ↔ K 1 (mW w σ')) := by
  have h' := h
  obtain ⟨hw, hS, ⟨oo, hH⟩, hP, hρ, hv, r⟩ := h
  obtain ⟨σ1, f1, -, S1, H1, t1, e1⟩ := g_14 hw hS hH hv hk hh
  have vb : vRow τ (im k) := ((hH.2.2.2.2.2 k hk).2 hh).1
  refine ⟨σ1, frM_D f1 (by omega), cIn_st h' f1 S1 H1 t1 vb, fun hD => cI_of (m := 3) (fun d hd Q hQ => ?_) rfl hD⟩
  refine b99_0 ?_
  simp only [↓br_pos, ↓br_neg, ↓rF_I, ↓rF_L, ↓rF_R, ↓rF_N, rO_m, rB_m, ↓rI_m, wI_m, ↓rB2_m, ↓rB3_m, wB2_m, wB3_m, ↓rL_m, wL_m, ↓rQ_m, wQ_m, ↓lI_m, pI_m, pL_m, pR_m, sI_m, sBy_m, sBo_m, sL_m, sQ_m, fst_m, true_and, and_true, tg_some, ln_some, uI_1, uI_2, uL_1, uL_2, uL_3, uQ_1, uQ_2, uQ_3, rv_i, rv_l, rv_n, rv_b0, rv_b1, RMR, ne_eq, reduceCtorEq, not_false_eq_true, Option.getD_some, if_true, if_false, and_self, false_and, and_false, Nat.add_left_cancel_iff, Nat.add_eq_left, Nat.left_eq_add, Nat.one_ne_zero, Nat.reduceAdd, Nat.reduceLT, Nat.reduceLeDiff, Nat.reduceEqDiff, true_implies, false_implies, implies_true, Option.some.injEq, forall_eq', forall_eq, reduceCtorEq, brT, brF, br_s, i_10, i_01, ib_0_2, ib_1_2, tn_0, tn_1, Int32.le_refl, eq_self, rv_bN, rv_iM, RCX 0, RCG 2, RCT 4, RCT 15, RCT 25, RCS 35, RCS 49, RCH 63, RCP 67, RCB 72, RCR 77, RCM 81, RLY, lit_at hw, hb, e1 hd]
  exact hQ
/-- many minutes -/
def mnR (τ ρ : Rw) : Nat → Rw
  | 0 => ρ
  | k + 1 => sMin τ (mnR τ ρ k)
def mnC (τ ρ : Rw) (k : Nat) : Nat := sm k (fun i => if mPs τ (mnR τ ρ i) then 1 else 0)
theorem vRow_mn {τ ρ : Rw} (hv : vTold τ) (h : vRow τ ρ) : ∀ k, vRow τ (mnR τ ρ k) := by
  intro k
  induction k with
  | zero => exact h
  | succ k ih => exact vRow_min hv ih
theorem lp_96 {w : mT} {P N : Nat} {τ ρ : Rw} (hw : lit w) (hP : P = 15 ∨ P = 25) (hv : vTold τ) (hr : vRow τ ρ) (hN : N ≤ 200) : ∀ (k i : Nat) (σ : mS), i + k = N → σ.2.2 0 3 = some P → tTold σ P τ → tSt σ 35 τ (mnR τ ρ i) → ∃ σ', frR 35 49 σ σ' ∧ tSt σ' 35 τ (mnR τ ρ N) ∧ ∀ {Q : Option (Option Value) → Hp → Prop} {d : Nat}, 6 ≤ d → Q (some (some (.int (Int32.ofNat (mnC τ ρ N))))) (mW w σ') → Wp 96 29 [.ref 0, .int (Int32.ofNat N), .int (Int32.ofNat (mnC τ ρ i)), .int (Int32.ofNat i)] [] (mW w σ) Q d := by
  have hT := isTP hw hP
  intro k
  induction k with
  | zero =>
    intro i σ hi p3 hτ ts
    have hi' : i = N := by omega
    subst hi'
    refine ⟨σ, frR_rf, ts, fun hd hQ => ?_⟩
    refine b96_29 ?_
    simp only [↓br_pos, ↓br_neg, ↓rF_I, ↓rF_L, ↓rF_R, ↓rF_N, rO_m, rB_m, ↓rI_m, wI_m, ↓rB2_m, ↓rB3_m, wB2_m, wB3_m, ↓rL_m, wL_m, ↓rQ_m, wQ_m, ↓lI_m, pI_m, pL_m, pR_m, sI_m, sBy_m, sBo_m, sL_m, sQ_m, fst_m, true_and, and_true, tg_some, ln_some, uI_1, uI_2, uL_1, uL_2, uL_3, uQ_1, uQ_2, uQ_3, rv_i, rv_l, rv_n, rv_b0, rv_b1, RMR, ne_eq, reduceCtorEq, not_false_eq_true, Option.getD_some, if_true, if_false, and_self, false_and, and_false, Nat.add_left_cancel_iff, Nat.add_eq_left, Nat.left_eq_add, Nat.one_ne_zero, Nat.reduceAdd, Nat.reduceLT, Nat.reduceLeDiff, Nat.reduceEqDiff, true_implies, false_implies, implies_true, Option.some.injEq, forall_eq', forall_eq, reduceCtorEq, brT, brF, br_s, i_10, i_01, ib_0_2, ib_1_2, tn_0, tn_1, Int32.le_refl, eq_self, rv_bN, rv_iM, Int32.le_refl]
    exact hQ
  | succ k ih =>
    intro i σ hi p3 hτ ts
    obtain ⟨σ1, f1, t1, e1⟩ := g_20 (isS35 hw) hT (by omega) ts hτ hv (vRow_mn hv hr i)
    obtain ⟨σ2, f2, t2, e2⟩ := ih (i + 1) σ1 (by omega) (by rw [f1.2]; exact p3) (tTold_R hτ f1 (by omega)) t1
    refine ⟨σ2, frR_tr f1 f2, t2, fun hd hQ => ?_⟩
    have l1 : (Int32.ofNat N ≤ Int32.ofNat i) ↔ False := iff_false_intro (fun q => absurd ((on_le (by omega) (by omega)).mp q) (by omega))
    have es : mnC τ ρ (i + 1) = mnC τ ρ i + (if mPs τ (mnR τ ρ i) then 1 else 0) := rfl
    have nx := e2 hd hQ
    rw [es] at nx
    refine b96_29 ?_
    by_cases z : mPs τ (mnR τ ρ i)
    · have ez : iB (mPs τ (mnR τ ρ i)) = 1 := iB_t z
      rw [if_pos z] at nx
      simp only [↓br_pos, ↓br_neg, ↓rF_I, ↓rF_L, ↓rF_R, ↓rF_N, rO_m, rB_m, ↓rI_m, wI_m, ↓rB2_m, ↓rB3_m, wB2_m, wB3_m, ↓rL_m, wL_m, ↓rQ_m, wQ_m, ↓lI_m, pI_m, pL_m, pR_m, sI_m, sBy_m, sBo_m, sL_m, sQ_m, fst_m, true_and, and_true, tg_some, ln_some, uI_1, uI_2, uL_1, uL_2, uL_3, uQ_1, uQ_2, uQ_3, rv_i, rv_l, rv_n, rv_b0, rv_b1, RMR, ne_eq, reduceCtorEq, not_false_eq_true, Option.getD_some, if_true, if_false, and_self, false_and, and_false, Nat.add_left_cancel_iff, Nat.add_eq_left, Nat.left_eq_add, Nat.one_ne_zero, Nat.reduceAdd, Nat.reduceLT, Nat.reduceLeDiff, Nat.reduceEqDiff, true_implies, false_implies, implies_true, Option.some.injEq, forall_eq', forall_eq, reduceCtorEq, brT, brF, br_s, i_10, i_01, ib_0_2, ib_1_2, tn_0, tn_1, Int32.le_refl, eq_self, rv_bN, rv_iM, RCX 0, RCG 2, RCT 4, RCT 15, RCT 25, RCS 35, RCS 49, RCH 63, RCP 67, RCB 72, RCR 77, RCM 81, RLY, lit_at hw, p3, l1, e1 hd, ez, on_succ]
      exact nx
    · have ez : iB (mPs τ (mnR τ ρ i)) = 0 := iB_f z
      rw [if_neg z] at nx
      simp only [↓br_pos, ↓br_neg, ↓rF_I, ↓rF_L, ↓rF_R, ↓rF_N, rO_m, rB_m, ↓rI_m, wI_m, ↓rB2_m, ↓rB3_m, wB2_m, wB3_m, ↓rL_m, wL_m, ↓rQ_m, wQ_m, ↓lI_m, pI_m, pL_m, pR_m, sI_m, sBy_m, sBo_m, sL_m, sQ_m, fst_m, true_and, and_true, tg_some, ln_some, uI_1, uI_2, uL_1, uL_2, uL_3, uQ_1, uQ_2, uQ_3, rv_i, rv_l, rv_n, rv_b0, rv_b1, RMR, ne_eq, reduceCtorEq, not_false_eq_true, Option.getD_some, if_true, if_false, and_self, false_and, and_false, Nat.add_left_cancel_iff, Nat.add_eq_left, Nat.left_eq_add, Nat.one_ne_zero, Nat.reduceAdd, Nat.reduceLT, Nat.reduceLeDiff, Nat.reduceEqDiff, true_implies, false_implies, implies_true, Option.some.injEq, forall_eq', forall_eq, reduceCtorEq, brT, brF, br_s, i_10, i_01, ib_0_2, ib_1_2, tn_0, tn_1, Int32.le_refl, eq_self, rv_bN, rv_iM, RCX 0, RCG 2, RCT 4, RCT 15, RCT 25, RCS 35, RCS 49, RCH 63, RCP 67, RCB 72, RCR 77, RCM 81, RLY, lit_at hw, p3, l1, e1 hd, ez, on_succ]
      exact nx
theorem c_96z {w : mT} {σ : mS} {a : Int32} {D : Nat} {K : Int32 → Hp → Prop} (ha : ¬ (1 ≤ a.toInt ∧ a.toInt ≤ 200)) (hD : 7 ≤ D) : wpI D 96 [.ref 0, .int a] (mW w σ) K ↔ K (-1) (mW w σ) := by
  refine cI_of (m := 6) (fun d hd Q hQ => ?_) rfl hD
  refine b96_0 ?_
  by_cases z : a < 1
  · simp only [↓br_pos, ↓br_neg, ↓rF_I, ↓rF_L, ↓rF_R, ↓rF_N, rO_m, rB_m, ↓rI_m, wI_m, ↓rB2_m, ↓rB3_m, wB2_m, wB3_m, ↓rL_m, wL_m, ↓rQ_m, wQ_m, ↓lI_m, pI_m, pL_m, pR_m, sI_m, sBy_m, sBo_m, sL_m, sQ_m, fst_m, true_and, and_true, tg_some, ln_some, uI_1, uI_2, uL_1, uL_2, uL_3, uQ_1, uQ_2, uQ_3, rv_i, rv_l, rv_n, rv_b0, rv_b1, RMR, ne_eq, reduceCtorEq, not_false_eq_true, Option.getD_some, if_true, if_false, and_self, false_and, and_false, Nat.add_left_cancel_iff, Nat.add_eq_left, Nat.left_eq_add, Nat.one_ne_zero, Nat.reduceAdd, Nat.reduceLT, Nat.reduceLeDiff, Nat.reduceEqDiff, true_implies, false_implies, implies_true, Option.some.injEq, forall_eq', forall_eq, reduceCtorEq, brT, brF, br_s, i_10, i_01, ib_0_2, ib_1_2, tn_0, tn_1, Int32.le_refl, eq_self, rv_bN, rv_iM, z]
    exact hQ
  · have z2 : ¬ a ≤ 200 := by
      intro q
      rw [i_lt, show (1 : Int32).toInt = 1 by decide] at z
      rw [i_le, show (200 : Int32).toInt = 200 by decide] at q
      omega
    simp only [↓br_pos, ↓br_neg, ↓rF_I, ↓rF_L, ↓rF_R, ↓rF_N, rO_m, rB_m, ↓rI_m, wI_m, ↓rB2_m, ↓rB3_m, wB2_m, wB3_m, ↓rL_m, wL_m, ↓rQ_m, wQ_m, ↓lI_m, pI_m, pL_m, pR_m, sI_m, sBy_m, sBo_m, sL_m, sQ_m, fst_m, true_and, and_true, tg_some, ln_some, uI_1, uI_2, uL_1, uL_2, uL_3, uQ_1, uQ_2, uQ_3, rv_i, rv_l, rv_n, rv_b0, rv_b1, RMR, ne_eq, reduceCtorEq, not_false_eq_true, Option.getD_some, if_true, if_false, and_self, false_and, and_false, Nat.add_left_cancel_iff, Nat.add_eq_left, Nat.left_eq_add, Nat.one_ne_zero, Nat.reduceAdd, Nat.reduceLT, Nat.reduceLeDiff, Nat.reduceEqDiff, true_implies, false_implies, implies_true, Option.some.injEq, forall_eq', forall_eq, reduceCtorEq, brT, brF, br_s, i_10, i_01, ib_0_2, ib_1_2, tn_0, tn_1, Int32.le_refl, eq_self, rv_bN, rv_iM, z, z2]
    exact hQ
theorem c_96 {w : mT} {σ : mS} {tp n : Nat} {t : Nat → Nat} {τ ρ : Rw} {bk : Nat → Rw} {has : Nat → Bool} {im : Nat → Rw} {N : Nat} (h : cIn w σ tp t τ ρ n bk has im) (hN : 1 ≤ N ∧ N ≤ 200) : ∃ w' σ', wExt w w' ∧ frM σ σ' ∧ cIn w' σ' tp t τ (mnR τ ρ N) (nPh n) (bkPh n bk ρ) has im ∧ ∀ {D : Nat} {K : Int32 → Hp → Prop}, 7 ≤ D → (wpI D 96 [.ref 0, .int (Int32.ofNat N)] (mW w σ) K ↔ K (Int32.ofNat (mnC τ ρ N)) (mW w' σ')) := by
  have h' := h
  obtain ⟨hw, hS, hH, ⟨P, hP, p3, p4, hτ⟩, hρ, hv, hr, h1, htp, htb, ht⟩ := h
  have hT := isTP hw hP
  have hT' := hT
  simp only [isT] at hT'
  obtain ⟨w1, σ1, x1, x2, C1, k1⟩ := k_11 h'
  have hw1 := C1.1
  have hρ1 : tSt σ1 35 τ ρ := C1.2.2.2.2.1
  obtain ⟨P1, hP1, p31, p41, hτ1⟩ := C1.2.2.2.1
  have hT1 := isTP hw1 hP1
  have hT1' := hT1
  simp only [isT] at hT1'
  obtain ⟨σ2, f2, t2, e2⟩ := lp_96 hw1 hP1 hv hr hN.2 N 0 σ1 (Nat.zero_add _) p31 hτ1 hρ1
  refine ⟨w1, σ2, x1, frM_tr (frM_D x2 (by omega)) (frM_R f2 (by omega)), cIn_mu C1 f2 t2 (vRow_mn hv hr N), fun hD => cI_of (m := 6) (fun d hd Q hQ => ?_) rfl hD⟩
  have hd3 : 3 ≤ d := by omega
  have c1 : (Int32.ofNat N < (1 : Int32)) ↔ False := iff_false_intro (fun q => absurd ((on_lt (j := 1) (by omega) (by omega)).mp q) (by omega))
  have c2 : (Int32.ofNat N ≤ (200 : Int32)) ↔ True := iff_true_intro ((on_le (j := 200) (by omega) (by omega)).mpr hN.2)
  refine b96_0 ?_
  simp only [↓br_pos, ↓br_neg, ↓rF_I, ↓rF_L, ↓rF_R, ↓rF_N, rO_m, rB_m, ↓rI_m, wI_m, ↓rB2_m, ↓rB3_m, wB2_m, wB3_m, ↓rL_m, wL_m, ↓rQ_m, wQ_m, ↓lI_m, pI_m, pL_m, pR_m, sI_m, sBy_m, sBo_m, sL_m, sQ_m, fst_m, true_and, and_true, tg_some, ln_some, uI_1, uI_2, uL_1, uL_2, uL_3, uQ_1, uQ_2, uQ_3, rv_i, rv_l, rv_n, rv_b0, rv_b1, RMR, ne_eq, reduceCtorEq, not_false_eq_true, Option.getD_some, if_true, if_false, and_self, false_and, and_false, Nat.add_left_cancel_iff, Nat.add_eq_left, Nat.left_eq_add, Nat.one_ne_zero, Nat.reduceAdd, Nat.reduceLT, Nat.reduceLeDiff, Nat.reduceEqDiff, true_implies, false_implies, implies_true, Option.some.injEq, forall_eq', forall_eq, reduceCtorEq, brT, brF, br_s, i_10, i_01, ib_0_2, ib_1_2, tn_0, tn_1, Int32.le_refl, eq_self, rv_bN, rv_iM, RCX 0, RCG 2, RCT 4, RCT 15, RCT 25, RCS 35, RCS 49, RCH 63, RCP 67, RCB 72, RCR 77, RCM 81, RLY, lit_at hw, c1, c2, k1 hd3]
  exact e2 hd hQ
/-- how many minutes until all orders are done -/
def enN (τ : Rw) : Nat → Nat → Rw → Int32
  | 0, _, ρ => if 0 < ρ 10 ∨ 0 < ρ 11 then -2 else 500
  | k + 1, n, ρ => if 0 < ρ 10 ∨ 0 < ρ 11 then enN τ k (n + 1) (sMin τ ρ) else Int32.ofNat n
theorem lp_97 {w : mT} {P : Nat} {τ : Rw} (hw : lit w) (hP : P = 15 ∨ P = 25) (hv : vTold τ) : ∀ (k i : Nat) (σ : mS) (ρ : Rw), i + k = 500 → σ.2.2 0 3 = some P → tTold σ P τ → tSt σ 49 τ ρ → vRow τ ρ → ∃ σ', frR 49 63 σ σ' ∧ ∀ {Q : Option (Option Value) → Hp → Prop} {d : Nat}, 6 ≤ d → Q (some (some (.int (enN τ k i ρ)))) (mW w σ') → Wp 97 13 [.ref 0, .int (Int32.ofNat i)] [] (mW w σ) Q d := by
  have hT := isTP hw hP
  intro k
  induction k with
  | zero =>
    intro i σ ρ hi p3 hτ ts hr
    have hi' : i = 500 := by omega
    subst hi'
    refine ⟨σ, frR_rf, fun hd hQ => ?_⟩
    have l1 : ((500 : Int32) ≤ Int32.ofNat 500) ↔ True := by decide
    have e64 := fun {K : Int32 → Hp → Prop} => g_64 (K := K) (isS49 hw) ts (vRow_b hv hr) (Nat.le_trans (by omega : 1 ≤ 6) hd)
    unfold enN at hQ
    refine b97_13 ?_
    by_cases z : 0 < ρ 10 ∨ 0 < ρ 11
    · have ez : iB (0 < ρ 10 ∨ 0 < ρ 11) = 1 := iB_t z
      rw [if_pos z] at hQ
      simp only [↓br_pos, ↓br_neg, ↓rF_I, ↓rF_L, ↓rF_R, ↓rF_N, rO_m, rB_m, ↓rI_m, wI_m, ↓rB2_m, ↓rB3_m, wB2_m, wB3_m, ↓rL_m, wL_m, ↓rQ_m, wQ_m, ↓lI_m, pI_m, pL_m, pR_m, sI_m, sBy_m, sBo_m, sL_m, sQ_m, fst_m, true_and, and_true, tg_some, ln_some, uI_1, uI_2, uL_1, uL_2, uL_3, uQ_1, uQ_2, uQ_3, rv_i, rv_l, rv_n, rv_b0, rv_b1, RMR, ne_eq, reduceCtorEq, not_false_eq_true, Option.getD_some, if_true, if_false, and_self, false_and, and_false, Nat.add_left_cancel_iff, Nat.add_eq_left, Nat.left_eq_add, Nat.one_ne_zero, Nat.reduceAdd, Nat.reduceLT, Nat.reduceLeDiff, Nat.reduceEqDiff, true_implies, false_implies, implies_true, Option.some.injEq, forall_eq', forall_eq, reduceCtorEq, brT, brF, br_s, i_10, i_01, ib_0_2, ib_1_2, tn_0, tn_1, Int32.le_refl, eq_self, rv_bN, rv_iM, RCX 0, RCG 2, RCT 4, RCT 15, RCT 25, RCS 35, RCS 49, RCH 63, RCP 67, RCB 72, RCR 77, RCM 81, RLY, lit_at hw, l1, e64, ez]
      exact hQ
    · have ez : iB (0 < ρ 10 ∨ 0 < ρ 11) = 0 := iB_f z
      rw [if_neg z] at hQ
      simp only [↓br_pos, ↓br_neg, ↓rF_I, ↓rF_L, ↓rF_R, ↓rF_N, rO_m, rB_m, ↓rI_m, wI_m, ↓rB2_m, ↓rB3_m, wB2_m, wB3_m, ↓rL_m, wL_m, ↓rQ_m, wQ_m, ↓lI_m, pI_m, pL_m, pR_m, sI_m, sBy_m, sBo_m, sL_m, sQ_m, fst_m, true_and, and_true, tg_some, ln_some, uI_1, uI_2, uL_1, uL_2, uL_3, uQ_1, uQ_2, uQ_3, rv_i, rv_l, rv_n, rv_b0, rv_b1, RMR, ne_eq, reduceCtorEq, not_false_eq_true, Option.getD_some, if_true, if_false, and_self, false_and, and_false, Nat.add_left_cancel_iff, Nat.add_eq_left, Nat.left_eq_add, Nat.one_ne_zero, Nat.reduceAdd, Nat.reduceLT, Nat.reduceLeDiff, Nat.reduceEqDiff, true_implies, false_implies, implies_true, Option.some.injEq, forall_eq', forall_eq, reduceCtorEq, brT, brF, br_s, i_10, i_01, ib_0_2, ib_1_2, tn_0, tn_1, Int32.le_refl, eq_self, rv_bN, rv_iM, RCX 0, RCG 2, RCT 4, RCT 15, RCT 25, RCS 35, RCS 49, RCH 63, RCP 67, RCB 72, RCR 77, RCM 81, RLY, lit_at hw, l1, e64, ez]
      exact hQ
  | succ k ih =>
    intro i σ ρ hi p3 hτ ts hr
    have l1 : ((500 : Int32) ≤ Int32.ofNat i) ↔ False := iff_false_intro (fun q => absurd ((on_le (i := 500) (by omega) (by omega)).mp q) (by omega))
    by_cases z : 0 < ρ 10 ∨ 0 < ρ 11
    · have ez : iB (0 < ρ 10 ∨ 0 < ρ 11) = 1 := iB_t z
      obtain ⟨σ1, f1, t1, e1⟩ := g_20 (isS49 hw) hT (by omega) ts hτ hv hr
      obtain ⟨σ2, f2, e2⟩ := ih (i + 1) σ1 (sMin τ ρ) (by omega) (by rw [f1.2]; exact p3) (tTold_R hτ f1 (by omega)) t1 (vRow_min hv hr)
      refine ⟨σ2, frR_tr f1 f2, fun hd hQ => ?_⟩
      have e64 := fun {K : Int32 → Hp → Prop} => g_64 (K := K) (isS49 hw) ts (vRow_b hv hr) (Nat.le_trans (by omega : 1 ≤ 6) hd)
      unfold enN at hQ
      rw [if_pos z] at hQ
      refine b97_13 ?_
      simp only [↓br_pos, ↓br_neg, ↓rF_I, ↓rF_L, ↓rF_R, ↓rF_N, rO_m, rB_m, ↓rI_m, wI_m, ↓rB2_m, ↓rB3_m, wB2_m, wB3_m, ↓rL_m, wL_m, ↓rQ_m, wQ_m, ↓lI_m, pI_m, pL_m, pR_m, sI_m, sBy_m, sBo_m, sL_m, sQ_m, fst_m, true_and, and_true, tg_some, ln_some, uI_1, uI_2, uL_1, uL_2, uL_3, uQ_1, uQ_2, uQ_3, rv_i, rv_l, rv_n, rv_b0, rv_b1, RMR, ne_eq, reduceCtorEq, not_false_eq_true, Option.getD_some, if_true, if_false, and_self, false_and, and_false, Nat.add_left_cancel_iff, Nat.add_eq_left, Nat.left_eq_add, Nat.one_ne_zero, Nat.reduceAdd, Nat.reduceLT, Nat.reduceLeDiff, Nat.reduceEqDiff, true_implies, false_implies, implies_true, Option.some.injEq, forall_eq', forall_eq, reduceCtorEq, brT, brF, br_s, i_10, i_01, ib_0_2, ib_1_2, tn_0, tn_1, Int32.le_refl, eq_self, rv_bN, rv_iM, RCX 0, RCG 2, RCT 4, RCT 15, RCT 25, RCS 35, RCS 49, RCH 63, RCP 67, RCB 72, RCR 77, RCM 81, RLY, lit_at hw, p3, l1, e64, ez, e1 hd, on_succ]
      exact e2 hd hQ
    · have ez : iB (0 < ρ 10 ∨ 0 < ρ 11) = 0 := iB_f z
      refine ⟨σ, frR_rf, fun hd hQ => ?_⟩
      have e64 := fun {K : Int32 → Hp → Prop} => g_64 (K := K) (isS49 hw) ts (vRow_b hv hr) (Nat.le_trans (by omega : 1 ≤ 6) hd)
      unfold enN at hQ
      rw [if_neg z] at hQ
      refine b97_13 ?_
      simp only [↓br_pos, ↓br_neg, ↓rF_I, ↓rF_L, ↓rF_R, ↓rF_N, rO_m, rB_m, ↓rI_m, wI_m, ↓rB2_m, ↓rB3_m, wB2_m, wB3_m, ↓rL_m, wL_m, ↓rQ_m, wQ_m, ↓lI_m, pI_m, pL_m, pR_m, sI_m, sBy_m, sBo_m, sL_m, sQ_m, fst_m, true_and, and_true, tg_some, ln_some, uI_1, uI_2, uL_1, uL_2, uL_3, uQ_1, uQ_2, uQ_3, rv_i, rv_l, rv_n, rv_b0, rv_b1, RMR, ne_eq, reduceCtorEq, not_false_eq_true, Option.getD_some, if_true, if_false, and_self, false_and, and_false, Nat.add_left_cancel_iff, Nat.add_eq_left, Nat.left_eq_add, Nat.one_ne_zero, Nat.reduceAdd, Nat.reduceLT, Nat.reduceLeDiff, Nat.reduceEqDiff, true_implies, false_implies, implies_true, Option.some.injEq, forall_eq', forall_eq, reduceCtorEq, brT, brF, br_s, i_10, i_01, ib_0_2, ib_1_2, tn_0, tn_1, Int32.le_refl, eq_self, rv_bN, rv_iM, RCX 0, RCG 2, RCT 4, RCT 15, RCT 25, RCS 35, RCS 49, RCH 63, RCP 67, RCB 72, RCR 77, RCM 81, RLY, lit_at hw, l1, e64, ez]
      exact hQ
theorem c_97 {w : mT} {σ : mS} {tp n : Nat} {t : Nat → Nat} {τ ρ : Rw} {bk : Nat → Rw} {has : Nat → Bool} {im : Nat → Rw} (h : cIn w σ tp t τ ρ n bk has im) : ∃ σ', frM σ σ' ∧ cIn w σ' tp t τ ρ n bk has im ∧ ∀ {D : Nat} {K : Int32 → Hp → Prop}, 7 ≤ D → (wpI D 97 [.ref 0] (mW w σ) K ↔ K (enN τ 500 0 ρ) (mW w σ')) := by
  have h' := h
  obtain ⟨hw, hS, hH, ⟨P, hP, p3, p4, hτ⟩, hρ, hv, hr, h1, htp, htb, ht⟩ := h
  have hT := isTP hw hP
  have hT' := hT
  simp only [isT] at hT'
  have hb := vRow_b hv hr
  obtain ⟨σ1, f1, t1, e1⟩ := g_49 (isS49 hw) (isS35 hw) hb hρ (by omega)
  obtain ⟨σ2, f2, e2⟩ := lp_97 hw hP hv 500 0 σ1 ρ rfl (by rw [f1.2]; exact p3) (tTold_R hτ f1 (by omega)) t1 hr
  have ff := frR_tr f1 f2
  refine ⟨σ2, frM_R ff (by omega), cIn_fr h' (fun j _ => by rw [ff.1 0 (by omega)]) (fun a ha => ff.1 a (by omega)) (fun a ha => by rw [ff.2]), fun hD => cI_of (m := 6) (fun d hd Q hQ => ?_) rfl hD⟩
  have hd2 : 2 ≤ d := by omega
  refine b97_0 ?_
  simp only [↓br_pos, ↓br_neg, ↓rF_I, ↓rF_L, ↓rF_R, ↓rF_N, rO_m, rB_m, ↓rI_m, wI_m, ↓rB2_m, ↓rB3_m, wB2_m, wB3_m, ↓rL_m, wL_m, ↓rQ_m, wQ_m, ↓lI_m, pI_m, pL_m, pR_m, sI_m, sBy_m, sBo_m, sL_m, sQ_m, fst_m, true_and, and_true, tg_some, ln_some, uI_1, uI_2, uL_1, uL_2, uL_3, uQ_1, uQ_2, uQ_3, rv_i, rv_l, rv_n, rv_b0, rv_b1, RMR, ne_eq, reduceCtorEq, not_false_eq_true, Option.getD_some, if_true, if_false, and_self, false_and, and_false, Nat.add_left_cancel_iff, Nat.add_eq_left, Nat.left_eq_add, Nat.one_ne_zero, Nat.reduceAdd, Nat.reduceLT, Nat.reduceLeDiff, Nat.reduceEqDiff, true_implies, false_implies, implies_true, Option.some.injEq, forall_eq', forall_eq, reduceCtorEq, brT, brF, br_s, i_10, i_01, ib_0_2, ib_1_2, tn_0, tn_1, Int32.le_refl, eq_self, rv_bN, rv_iM, RCX 0, RCG 2, RCT 4, RCT 15, RCT 25, RCS 35, RCS 49, RCH 63, RCP 67, RCB 72, RCR 77, RCM 81, RLY, lit_at hw, e1 hd2]
  exact e2 hd hQ
/-- a lot is laid -/
def pours (ρ : Rw) (p k lo' t : Nat) : Nat → Rw
  | 0 => ρ
  | j + 1 => sPour (pours ρ p k lo' t j) p k (lo' + j) t
theorem pours_g {ρ : Rw} {p k lo' t : Nat} (hp : p < 3) (hk : k < 60) (hl : ρ (lo p k) < 12) : ∀ j, (∀ i, (i < 12 ∨ 24 ≤ i ∧ i < 311) → pours ρ p k lo' t j i = ρ i) ∧ pours ρ p k lo' t j (12 + ρ (lo p k)) = ρ (12 + ρ (lo p k)) - j * t := by
  intro j
  induction j with
  | zero => exact ⟨fun i _ => rfl, by show ρ (12 + ρ (lo p k)) = _; omega⟩
  | succ j ih =>
    have e : pours ρ p k lo' t j (lo p k) = ρ (lo p k) := ih.1 _ (by unfold lo; omega)
    refine ⟨fun i hi => ?_, ?_⟩
    · show sPour (pours ρ p k lo' t j) p k (lo' + j) t i = _
      rw [sPour_1, e, if_neg (by omega), if_neg (by unfold li; omega)]
      exact ih.1 i hi
    · show sPour (pours ρ p k lo' t j) p k (lo' + j) t (12 + ρ (lo p k)) = _
      rw [sPour_1, e, if_pos rfl, ih.2, Nat.succ_mul]; omega
theorem vRow_ps {τ ρ : Rw} {p k lo' t N : Nat} (hv : vTold τ) (h : vRow τ ρ) (hp : p < 3) (hk : k < ρ (24 + p)) (hN : lo' + N ≤ 12) (ht : N * t ≤ ρ (12 + ρ (lo p k))) : ∀ j, j ≤ N → vRow τ (pours ρ p k lo' t j) := by
  have h60 := vR_la h p hp
  have hl := vR_lo h p hp k hk
  have v0 := hv.1
  have g := pours_g (ρ := ρ) (p := p) (k := k) (lo' := lo') (t := t) hp (by omega) (by omega)
  intro j
  induction j with
  | zero => intro _; exact h
  | succ j ih =>
    intro hj
    refine vRow_pour hv (ih (by omega)) hp (by rw [(g j).1 _ (by omega)]; exact hk) (by omega) ?_
    rw [(g j).1 (lo p k) (by unfold lo; omega), (g j).2]
    have : (j + 1) * t ≤ N * t := Nat.mul_le_mul_right _ hj
    rw [Nat.succ_mul] at this
    omega
theorem lp_87 {w : mT} {p k lo' hi t N : Nat} {τ ρ : Rw} {a2 a3 a4 a6 : Int32} (hw : lit w) (hv : vTold τ) (h : vRow τ ρ) (hp : p < 3) (hk : k < ρ (24 + p)) (hN : lo' + N ≤ 12) (hNh : lo' + N = hi + 1) (ht : N * t ≤ ρ (12 + ρ (lo p k))) : ∀ (r j : Nat) (σ : mS), j + r = N → tSt σ 35 τ (pours ρ p k lo' t j) → ∃ σ', frR 35 49 σ σ' ∧ tSt σ' 35 τ (rSet (pours ρ p k lo' t N) 6 0) ∧ ∀ {Q : Option (Option Value) → Hp → Prop} {d : Nat}, 2 ≤ d → Q (some (some (.int (Int32.ofNat (ρ 4) - a6)))) (mW w σ') → Wp 87 86 [.ref 0, .int (Int32.ofNat p), .int a2, .int a3, .int a4, .int (Int32.ofNat t), .int a6, .int (Int32.ofNat k), .int (Int32.ofNat hi), .int (Int32.ofNat (lo' + j))] [] (mW w σ) Q d := by
  have h60 := vR_la h p hp
  have hl := vR_lo h p hp k hk
  have v0 := hv.1
  have g := pours_g (ρ := ρ) (p := p) (k := k) (lo' := lo') (t := t) hp (by omega) (by omega)
  intro r
  induction r with
  | zero =>
    intro j σ hj ts
    have hj' : j = N := by omega
    subst hj'
    have vr := vRow_ps (lo' := lo') hv h hp hk hN ht j (Nat.le_refl _)
    have ts2 : tSt (uI σ 45 0 0) 35 τ (rSet (pours ρ p k lo' t j) 6 0) := tSt_w (A := 10) ts (vRow_b hv vr) (by unfold in0; omega) (by decide) (tv_0 (by decide)).symm (by omega)
    refine ⟨uI σ 45 0 0, frR_I (by omega), ts2, fun hd hQ => ?_⟩
    have l1 : (Int32.ofNat hi < Int32.ofNat (lo' + j)) ↔ True := iff_true_intro ((on_lt (by omega) (by omega)).mpr (by omega))
    have e4 : σ.1 44 0 = Int32.ofNat (ρ 4) := by
      have := tS_wk ts (by omega : 0 < 2)
      rw [(g j).1 _ (by omega)] at this; exact this
    refine b87_86 ?_
    simp only [↓br_pos, ↓br_neg, ↓rF_I, ↓rF_L, ↓rF_R, ↓rF_N, rO_m, rB_m, ↓rI_m, wI_m, ↓rB2_m, ↓rB3_m, wB2_m, wB3_m, ↓rL_m, wL_m, ↓rQ_m, wQ_m, ↓lI_m, pI_m, pL_m, pR_m, sI_m, sBy_m, sBo_m, sL_m, sQ_m, fst_m, true_and, and_true, tg_some, ln_some, uI_1, uI_2, uL_1, uL_2, uL_3, uQ_1, uQ_2, uQ_3, rv_i, rv_l, rv_n, rv_b0, rv_b1, RMR, ne_eq, reduceCtorEq, not_false_eq_true, Option.getD_some, if_true, if_false, and_self, false_and, and_false, Nat.add_left_cancel_iff, Nat.add_eq_left, Nat.left_eq_add, Nat.one_ne_zero, Nat.reduceAdd, Nat.reduceLT, Nat.reduceLeDiff, Nat.reduceEqDiff, true_implies, false_implies, implies_true, Option.some.injEq, forall_eq', forall_eq, reduceCtorEq, brT, brF, br_s, i_10, i_01, ib_0_2, ib_1_2, tn_0, tn_1, Int32.le_refl, eq_self, rv_bN, rv_iM, RCX 0, RCG 2, RCT 4, RCT 15, RCT 25, RCS 35, RCS 49, RCH 63, RCP 67, RCB 72, RCR 77, RCM 81, RLY, lit_at hw, l1, e4]
    exact hQ
  | succ r ih =>
    intro j σ hj ts
    have vr := vRow_ps (lo' := lo') hv h hp hk hN ht j (by omega)
    have hle : (j + 1) * t ≤ N * t := Nat.mul_le_mul_right _ (by omega)
    rw [Nat.succ_mul] at hle
    obtain ⟨σ1, f1, t1, e1⟩ := g_61 (w := w) (c := lo' + j) (t := t) (isS35 hw) ts hv vr hp (by rw [(g j).1 _ (by omega)]; exact hk) (by omega) (by rw [(g j).1 (lo p k) (by unfold lo; omega), (g j).2]; omega)
    obtain ⟨σ2, f2, t2, e2⟩ := ih (j + 1) σ1 (by omega) t1
    refine ⟨σ2, frR_tr f1 f2, t2, fun hd hQ => ?_⟩
    have l1 : (Int32.ofNat hi < Int32.ofNat (lo' + j)) ↔ False := iff_false_intro (fun q => absurd ((on_lt (by omega) (by omega)).mp q) (by omega))
    refine b87_86 ?_
    simp only [↓br_pos, ↓br_neg, ↓rF_I, ↓rF_L, ↓rF_R, ↓rF_N, rO_m, rB_m, ↓rI_m, wI_m, ↓rB2_m, ↓rB3_m, wB2_m, wB3_m, ↓rL_m, wL_m, ↓rQ_m, wQ_m, ↓lI_m, pI_m, pL_m, pR_m, sI_m, sBy_m, sBo_m, sL_m, sQ_m, fst_m, true_and, and_true, tg_some, ln_some, uI_1, uI_2, uL_1, uL_2, uL_3, uQ_1, uQ_2, uQ_3, rv_i, rv_l, rv_n, rv_b0, rv_b1, RMR, ne_eq, reduceCtorEq, not_false_eq_true, Option.getD_some, if_true, if_false, and_self, false_and, and_false, Nat.add_left_cancel_iff, Nat.add_eq_left, Nat.left_eq_add, Nat.one_ne_zero, Nat.reduceAdd, Nat.reduceLT, Nat.reduceLeDiff, Nat.reduceEqDiff, true_implies, false_implies, implies_true, Option.some.injEq, forall_eq', forall_eq, reduceCtorEq, brT, brF, br_s, i_10, i_01, ib_0_2, ib_1_2, tn_0, tn_1, Int32.le_refl, eq_self, rv_bN, rv_iM, RCX 0, RCG 2, RCT 4, RCT 15, RCT 25, RCS 35, RCS 49, RCH 63, RCP 67, RCB 72, RCR 77, RCM 81, RLY, lit_at hw, l1, e1 hd, on_succ]
    exact e2 hd hQ
theorem wl_lt {τ ρ : Rw} {p l a b t : Nat} : wlN τ ρ p l a b t < 6 := by
  unfold wlN
  split
  · omega
  split
  · omega
  split <;> omega
theorem c_87z {w : mT} {σ : mS} {tp n : Nat} {t : Nat → Nat} {τ ρ : Rw} {bk : Nat → Rw} {has : Nat → Bool} {im : Nat → Rw} {p l a b c : Int32} {D : Nat} {K : Int32 → Hp → Prop} (h : cIn w σ tp t τ ρ n bk has im) (ha : ¬ cbP τ p l a b c) (hD : 5 ≤ D) : wpI D 87 [.ref 0, .int p, .int l, .int a, .int b, .int c] (mW w σ) K ↔ K (-1) (mW w σ) := by
  have h' := h
  obtain ⟨hw, hS, hH, ⟨P, hP, p3, p4, hτ⟩, hρ, hv, hr, h1, htp, htb, ht⟩ := h
  have hT := isTP hw hP
  have hT' := hT
  simp only [isT] at hT'
  refine cI_of (m := 4) (fun d hd Q hQ => ?_) rfl hD
  refine b87_0 ?_
  simp only [↓br_pos, ↓br_neg, ↓rF_I, ↓rF_L, ↓rF_R, ↓rF_N, rO_m, rB_m, ↓rI_m, wI_m, ↓rB2_m, ↓rB3_m, wB2_m, wB3_m, ↓rL_m, wL_m, ↓rQ_m, wQ_m, ↓lI_m, pI_m, pL_m, pR_m, sI_m, sBy_m, sBo_m, sL_m, sQ_m, fst_m, true_and, and_true, tg_some, ln_some, uI_1, uI_2, uL_1, uL_2, uL_3, uQ_1, uQ_2, uQ_3, rv_i, rv_l, rv_n, rv_b0, rv_b1, RMR, ne_eq, reduceCtorEq, not_false_eq_true, Option.getD_some, if_true, if_false, and_self, false_and, and_false, Nat.add_left_cancel_iff, Nat.add_eq_left, Nat.left_eq_add, Nat.one_ne_zero, Nat.reduceAdd, Nat.reduceLT, Nat.reduceLeDiff, Nat.reduceEqDiff, true_implies, false_implies, implies_true, Option.some.injEq, forall_eq', forall_eq, reduceCtorEq, brT, brF, br_s, i_10, i_01, ib_0_2, ib_1_2, tn_0, tn_1, Int32.le_refl, eq_self, rv_bN, rv_iM, RCX 0, RCG 2, RCT 4, RCT 15, RCT 25, RCS 35, RCS 49, RCH 63, RCP 67, RCB 72, RCR 77, RCM 81, RLY, lit_at hw, g_86z hw hP p3 hτ hv ha hd]
  exact hQ
theorem c_87n {w : mT} {σ : mS} {tp n : Nat} {t : Nat → Nat} {τ ρ : Rw} {bk : Nat → Rw} {has : Nat → Bool} {im : Nat → Rw} {p l a b c : Nat} {D : Nat} {K : Int32 → Hp → Prop} (h : cIn w σ tp t τ ρ n bk has im) (hp : p < τ 1) (hl : l < τ 0) (ha : a < τ (28 + p)) (hb : b < τ (28 + p)) (hc : 1 ≤ c ∧ c ≤ 99) (hn : wlN τ ρ p l a b c ≠ 0) (hD : 5 ≤ D) : wpI D 87 [.ref 0, .int (Int32.ofNat p), .int (Int32.ofNat l), .int (Int32.ofNat a), .int (Int32.ofNat b), .int (Int32.ofNat c)] (mW w σ) K ↔ K (-1) (mW w σ) := by
  have h' := h
  obtain ⟨hw, hS, hH, ⟨P, hP, p3, p4, hτ⟩, hρ, hv, hr, h1, htp, htb, ht⟩ := h
  have hT := isTP hw hP
  have hT' := hT
  simp only [isT] at hT'
  refine cI_of (m := 4) (fun d hd Q hQ => ?_) rfl hD
  have lt := wl_lt (τ := τ) (ρ := ρ) (p := p) (l := l) (a := a) (b := b) (t := c)
  have e0 : (Int32.ofNat (wlN τ ρ p l a b c) = 0) ↔ False := iff_false_intro (fun q => hn ((of_eq0 (by omega)).mp q))
  refine b87_0 ?_
  simp only [↓br_pos, ↓br_neg, ↓rF_I, ↓rF_L, ↓rF_R, ↓rF_N, rO_m, rB_m, ↓rI_m, wI_m, ↓rB2_m, ↓rB3_m, wB2_m, wB3_m, ↓rL_m, wL_m, ↓rQ_m, wQ_m, ↓lI_m, pI_m, pL_m, pR_m, sI_m, sBy_m, sBo_m, sL_m, sQ_m, fst_m, true_and, and_true, tg_some, ln_some, uI_1, uI_2, uL_1, uL_2, uL_3, uQ_1, uQ_2, uQ_3, rv_i, rv_l, rv_n, rv_b0, rv_b1, RMR, ne_eq, reduceCtorEq, not_false_eq_true, Option.getD_some, if_true, if_false, and_self, false_and, and_false, Nat.add_left_cancel_iff, Nat.add_eq_left, Nat.left_eq_add, Nat.one_ne_zero, Nat.reduceAdd, Nat.reduceLT, Nat.reduceLeDiff, Nat.reduceEqDiff, true_implies, false_implies, implies_true, Option.some.injEq, forall_eq', forall_eq, reduceCtorEq, brT, brF, br_s, i_10, i_01, ib_0_2, ib_1_2, tn_0, tn_1, Int32.le_refl, eq_self, rv_bN, rv_iM, RCX 0, RCG 2, RCT 4, RCT 15, RCT 25, RCS 35, RCS 49, RCH 63, RCP 67, RCB 72, RCR 77, RCM 81, RLY, lit_at hw, g_86 hw hP p3 hτ hv hρ hr hp hl ha hb hc hd, e0]
  exact hQ
def sTo (ρ : Rw) (p l a b : Nat) : Rw := sAdd (sGo (sGo ρ 0 p a) 0 p b) p l
def sLayA (ρ : Rw) (p l a b t : Nat) : Rw := rSet (pours (sTo ρ p l a b) p (ρ (24 + p)) (min a b) t (dist b a + 1)) 6 0
theorem sGo_g {ρ : Rw} {m p c j : Nat} (h1 : j ≠ 2 + m) (h2 : j ≠ 4 + m) : sGo ρ m p c j = ρ j := by unfold sGo; rw [rS_ne h1, rS_ne h2]
theorem c_87 {w : mT} {σ : mS} {tp n : Nat} {t : Nat → Nat} {τ ρ : Rw} {bk : Nat → Rw} {has : Nat → Bool} {im : Nat → Rw} {p l a b c : Nat} (h : cIn w σ tp t τ ρ n bk has im) (hp : p < τ 1) (hl : l < τ 0) (ha : a < τ (28 + p)) (hb' : b < τ (28 + p)) (hc : 1 ≤ c ∧ c ≤ 99) (hn : wlN τ ρ p l a b c = 0) : ∃ w' σ', wExt w w' ∧ frM σ σ' ∧ cIn w' σ' tp t τ (sLayA ρ p l a b c) (nPh n) (bkPh n bk ρ) has im ∧ ∀ {D : Nat} {K : Int32 → Hp → Prop}, 5 ≤ D → (wpI D 87 [.ref 0, .int (Int32.ofNat p), .int (Int32.ofNat l), .int (Int32.ofNat a), .int (Int32.ofNat b), .int (Int32.ofNat c)] (mW w σ) K ↔ K (Int32.ofNat (sTo ρ p l a b 4) - Int32.ofNat (ρ 4)) (mW w' σ')) := by
  have h' := h
  obtain ⟨hw, hS, hH, ⟨P, hP, p3, p4, hτ⟩, hρ, hv, hr, h1, htp, htb, ht⟩ := h
  have hT := isTP hw hP
  have hT' := hT
  simp only [isT] at hT'
  obtain ⟨w1, σ1, x1, x2, C1, k1⟩ := k_11 h'
  have hw1 := C1.1
  have hρ1 : tSt σ1 35 τ ρ := C1.2.2.2.2.1
  obtain ⟨P1, hP1, p31, p41, hτ1⟩ := C1.2.2.2.1
  have hT1 := isTP hw1 hP1
  have hT1' := hT1
  simp only [isT] at hT1'
  have hb := vRow_b hv hr
  have v0 := hv.1
  have v1 := hv.2.1
  have v3 := (hv.2.2.2.2.2.1 p hp).2
  have hs1 := onP_lt hv (vR_on hr (by omega : 0 < 2))
  have hle : c * (dist b a + 1) ≤ ρ (12 + l) := by
    unfold wlN at hn
    by_cases z : ρ (12 + l) < c * (dist b a + 1)
    · rw [if_pos z] at hn; omega
    · omega
  have h60 : ρ (24 + p) < 60 := by
    unfold wlN at hn
    rw [if_neg (by omega)] at hn
    by_cases z : ¬ apP τ ρ 0 p a b
    · rw [if_pos z] at hn; omega
    · rw [if_neg z] at hn
      by_cases y : 60 ≤ ρ (24 + p)
      · rw [if_pos y] at hn; omega
      · omega
  have r1 := vRow_go (m := 0) hv hr (by omega) hp ha
  have r2 := vRow_go (m := 0) hv r1 (by omega) hp hb'
  have gg : ∀ j, j ≠ 2 → j ≠ 4 → sGo (sGo ρ 0 p a) 0 p b j = ρ j := fun j j2 j4 => by rw [sGo_g (by omega) (by omega), sGo_g (by omega) (by omega)]
  have r3 : vRow τ (sTo ρ p l a b) := vRow_add hv r2 (by omega) hl (by rw [gg _ (by omega) (by omega)]; exact h60)
  have a24 : sTo ρ p l a b (24 + p) = ρ (24 + p) + 1 := by
    unfold sTo
    rw [sAdd_1, if_pos rfl, gg _ (by omega) (by omega)]
  have alo : sTo ρ p l a b (lo p (ρ (24 + p))) = l := by
    unfold sTo
    rw [sAdd_1, if_neg (by unfold lo; omega), gg (24 + p) (by omega) (by omega), if_pos rfl]
  have al : sTo ρ p l a b (12 + l) = ρ (12 + l) := by
    unfold sTo
    rw [sAdd_1, if_neg (by omega), if_neg (by unfold lo; omega), gg _ (by omega) (by omega)]
  obtain ⟨σ2, f2, t2, e2⟩ := g_54 (m := 0) (p := p) (c := a) (isS35 hw1) hρ1 hb (by omega) hs1 (by omega) (by omega)
  obtain ⟨σ3, f3, t3, e3⟩ := g_54 (w := w1) (m := 0) (p := p) (c := b) (isS35 hw1) t2 (vRow_b hv r1) (by omega) (onP_lt hv (vR_on r1 (by omega : 0 < 2))) (by omega) (by omega)
  obtain ⟨σ4, f4, t4, e4⟩ := g_60 (w := w1) (l := l) (isS35 hw1) t3 hv r2 (by omega : p < 3) (by rw [gg _ (by omega) (by omega)]; exact h60)
  rw [gg (24 + p) (by omega) (by omega)] at e4
  have dd : min a b + (dist b a + 1) = max a b + 1 := by unfold dist; omega
  have hmc : (dist b a + 1) * c ≤ sTo ρ p l a b (12 + sTo ρ p l a b (lo p (ρ (24 + p)))) := by rw [alo, al, Nat.mul_comm]; exact hle
  obtain ⟨σ5, f5, t5, e5⟩ := lp_87 (w := w1) (k := ρ (24 + p)) (lo' := min a b) (hi := max a b) (t := c) (N := dist b a + 1) (a2 := Int32.ofNat l) (a3 := Int32.ofNat a) (a4 := Int32.ofNat b) (a6 := Int32.ofNat (ρ 4)) hw1 hv r3 (by omega) (by rw [a24]; omega) (by unfold dist; omega) dd hmc (dist b a + 1) 0 σ4 (Nat.zero_add _) t4
  have ff := frR_tr f2 (frR_tr f3 (frR_tr f4 f5))
  refine ⟨w1, σ5, x1, frM_tr (frM_D x2 (by omega)) (frM_R ff (by omega)), cIn_mu C1 ff t5 (vRow_s hv (vRow_ps hv r3 (by omega) (by rw [a24]; omega) (by unfold dist; omega) hmc _ (Nat.le_refl _)) (by omega)), fun hD => cI_of (m := 4) (fun d hd Q hQ => ?_) rfl hD⟩
  have hd1 : 1 ≤ d := by omega
  have hd2 : 2 ≤ d := by omega
  have hd3 : 3 ≤ d := by omega
  have hd4 : 4 ≤ d := by omega
  have e0 : (Int32.ofNat (wlN τ ρ p l a b c) = 0) ↔ True := iff_true_intro (by rw [hn]; rfl)
  have w4 : σ1.1 44 0 = Int32.ofNat (ρ 4) := tS_wk hρ1 (by omega : 0 < 2)
  have e2' : ∀ {K : Hp → Prop}, wpV d 54 [.ref 35, .int (0 : Int32), .int (Int32.ofNat p), .int (Int32.ofNat a)] (mW w1 σ1) K ↔ K (mW w1 σ2) := fun {K} => e2 hd2
  have e3' : ∀ {K : Hp → Prop}, wpV d 54 [.ref 35, .int (0 : Int32), .int (Int32.ofNat p), .int (Int32.ofNat b)] (mW w1 σ2) K ↔ K (mW w1 σ3) := fun {K} => e3 hd2
  have mx := max_2 (a := a) (b := b) (by omega) (by omega)
  have mn := min_of (a := b) (b := a) (by omega) (by omega)
  refine b87_0 ?_
  simp only [↓br_pos, ↓br_neg, ↓rF_I, ↓rF_L, ↓rF_R, ↓rF_N, rO_m, rB_m, ↓rI_m, wI_m, ↓rB2_m, ↓rB3_m, wB2_m, wB3_m, ↓rL_m, wL_m, ↓rQ_m, wQ_m, ↓lI_m, pI_m, pL_m, pR_m, sI_m, sBy_m, sBo_m, sL_m, sQ_m, fst_m, true_and, and_true, tg_some, ln_some, uI_1, uI_2, uL_1, uL_2, uL_3, uQ_1, uQ_2, uQ_3, rv_i, rv_l, rv_n, rv_b0, rv_b1, RMR, ne_eq, reduceCtorEq, not_false_eq_true, Option.getD_some, if_true, if_false, and_self, false_and, and_false, Nat.add_left_cancel_iff, Nat.add_eq_left, Nat.left_eq_add, Nat.one_ne_zero, Nat.reduceAdd, Nat.reduceLT, Nat.reduceLeDiff, Nat.reduceEqDiff, true_implies, false_implies, implies_true, Option.some.injEq, forall_eq', forall_eq, reduceCtorEq, brT, brF, br_s, i_10, i_01, ib_0_2, ib_1_2, tn_0, tn_1, Int32.le_refl, eq_self, rv_bN, rv_iM, RCX 0, RCG 2, RCT 4, RCT 15, RCT 25, RCS 35, RCS 49, RCH 63, RCP 67, RCB 72, RCR 77, RCM 81, RLY, lit_at hw, g_86 hw hP p3 hτ hv hρ hr hp hl ha hb' hc hd4, e0, k1 hd3, lit_at hw1, w4, e2', e3', e4 hd2, mx]
  refine b87_78 ?_
  rw [mn]
  exact e5 hd2 hQ
end
section
/-! the class's calls: what it tells -/
theorem sw78 {Q : Option (Option Value) → Hp → Prop} {D : Nat} {hp : Hp} {ls : List Value} {x : Int32} (h0 : x.toInt = 0 → Wp 78 84 ls [] hp Q D) (h1 : x.toInt = 1 → Wp 78 92 ls [] hp Q D) (h2 : x.toInt = 2 → Wp 78 100 ls [] hp Q D) (h3 : x.toInt = 3 → Wp 78 108 ls [] hp Q D) (h4 : x.toInt = 4 → Wp 78 116 ls [] hp Q D) (h5 : x.toInt = 5 → Wp 78 124 ls [] hp Q D) (h6 : x.toInt = 6 → Wp 78 129 ls [] hp Q D) (h7 : x.toInt = 7 → Wp 78 139 ls [] hp Q D) (h8 : x.toInt = 8 → Wp 78 149 ls [] hp Q D) (h9 : x.toInt = 9 → Wp 78 157 ls [] hp Q D) (h10 : x.toInt = 10 → Wp 78 165 ls [] hp Q D) (h11 : x.toInt = 11 → Wp 78 170 ls [] hp Q D) (h12 : x.toInt = 12 → Wp 78 175 ls [] hp Q D) (h13 : x.toInt = 13 → Wp 78 185 ls [] hp Q D) (h14 : x.toInt = 14 → Wp 78 195 ls [] hp Q D) (h15 : x.toInt = 15 → Wp 78 205 ls [] hp Q D) (h16 : x.toInt = 16 → Wp 78 215 ls [] hp Q D) (hd : (x.toInt < 0 ∨ 16 < x.toInt) → Wp 78 223 ls [] hp Q D) : Wp 78 1 ls [.int x] hp Q D := by
  refine Wp_sg 1 [] ?_
  show br (x.toInt < 0 ∨ 16 < x.toInt) (Wp 78 223 ls [] hp Q D) (∃ off, (#[83, 91, 99, 107, 115, 123, 128, 138, 148, 156, 164, 169, 174, 184, 194, 204, 214] : Array Int)[(x.toInt - 0).toNat]? = some off ∧ Wp 78 ((1 : Int) + off).toNat ls [] hp Q D)
  refine ⟨hd, fun hn => ?_⟩
  have hc : x.toInt = 0 ∨ x.toInt = 1 ∨ x.toInt = 2 ∨ x.toInt = 3 ∨ x.toInt = 4 ∨ x.toInt = 5 ∨ x.toInt = 6 ∨ x.toInt = 7 ∨ x.toInt = 8 ∨ x.toInt = 9 ∨ x.toInt = 10 ∨ x.toInt = 11 ∨ x.toInt = 12 ∨ x.toInt = 13 ∨ x.toInt = 14 ∨ x.toInt = 15 ∨ x.toInt = 16 := by omega
  rcases hc with e | e | e | e | e | e | e | e | e | e | e | e | e | e | e | e | e
  · exact ⟨83, by rw [e]; rfl, h0 e⟩
  · exact ⟨91, by rw [e]; rfl, h1 e⟩
  · exact ⟨99, by rw [e]; rfl, h2 e⟩
  · exact ⟨107, by rw [e]; rfl, h3 e⟩
  · exact ⟨115, by rw [e]; rfl, h4 e⟩
  · exact ⟨123, by rw [e]; rfl, h5 e⟩
  · exact ⟨128, by rw [e]; rfl, h6 e⟩
  · exact ⟨138, by rw [e]; rfl, h7 e⟩
  · exact ⟨148, by rw [e]; rfl, h8 e⟩
  · exact ⟨156, by rw [e]; rfl, h9 e⟩
  · exact ⟨164, by rw [e]; rfl, h10 e⟩
  · exact ⟨169, by rw [e]; rfl, h11 e⟩
  · exact ⟨174, by rw [e]; rfl, h12 e⟩
  · exact ⟨184, by rw [e]; rfl, h13 e⟩
  · exact ⟨194, by rw [e]; rfl, h14 e⟩
  · exact ⟨204, by rw [e]; rfl, h15 e⟩
  · exact ⟨214, by rw [e]; rfl, h16 e⟩
theorem sw80 {Q : Option (Option Value) → Hp → Prop} {D : Nat} {hp : Hp} {ls : List Value} {x : Int32} (h0 : x.toInt = 0 → Wp 80 80 ls [] hp Q D) (h1 : x.toInt = 1 → Wp 80 90 ls [] hp Q D) (h2 : x.toInt = 2 → Wp 80 100 ls [] hp Q D) (h3 : x.toInt = 3 → Wp 80 110 ls [] hp Q D) (h4 : x.toInt = 4 → Wp 80 120 ls [] hp Q D) (h5 : x.toInt = 5 → Wp 80 130 ls [] hp Q D) (h6 : x.toInt = 6 → Wp 80 140 ls [] hp Q D) (h7 : x.toInt = 7 → Wp 80 150 ls [] hp Q D) (h8 : x.toInt = 8 → Wp 80 160 ls [] hp Q D) (hd : (x.toInt < 0 ∨ 8 < x.toInt) → Wp 80 166 ls [] hp Q D) : Wp 80 30 ls [.int x] hp Q D := by
  refine Wp_sg 1 [] ?_
  show br (x.toInt < 0 ∨ 8 < x.toInt) (Wp 80 166 ls [] hp Q D) (∃ off, (#[50, 60, 70, 80, 90, 100, 110, 120, 130] : Array Int)[(x.toInt - 0).toNat]? = some off ∧ Wp 80 ((30 : Int) + off).toNat ls [] hp Q D)
  refine ⟨hd, fun hn => ?_⟩
  have hc : x.toInt = 0 ∨ x.toInt = 1 ∨ x.toInt = 2 ∨ x.toInt = 3 ∨ x.toInt = 4 ∨ x.toInt = 5 ∨ x.toInt = 6 ∨ x.toInt = 7 ∨ x.toInt = 8 := by omega
  rcases hc with e | e | e | e | e | e | e | e | e
  · exact ⟨50, by rw [e]; rfl, h0 e⟩
  · exact ⟨60, by rw [e]; rfl, h1 e⟩
  · exact ⟨70, by rw [e]; rfl, h2 e⟩
  · exact ⟨80, by rw [e]; rfl, h3 e⟩
  · exact ⟨90, by rw [e]; rfl, h4 e⟩
  · exact ⟨100, by rw [e]; rfl, h5 e⟩
  · exact ⟨110, by rw [e]; rfl, h6 e⟩
  · exact ⟨120, by rw [e]; rfl, h7 e⟩
  · exact ⟨130, by rw [e]; rfl, h8 e⟩
def cntV (τ ρ : Rw) (n : Nat) (has : Nat → Bool) (tp : Nat) (c : Int) : Int32 := if c = 0 then Int32.ofNat (τ 0) else if c = 1 then Int32.ofNat (τ 1) else if c = 2 then Int32.ofNat (τ 2) else if c = 3 then Int32.ofNat (τ 3) else if c = 4 then Int32.ofNat (ρ 0) else if c = 5 then Int32.ofNat (sailN τ ρ) else if c = 6 then Int32.ofNat (ρ 4) else if c = 7 then Int32.ofNat (ρ 5) else if c = 8 then Int32.ofNat n else if c = 9 then Int32.ofNat ((if has 0 = true then 1 else 0) + (if has 1 = true then 1 else 0)) else if c = 10 then Int32.ofNat tp else if c = 11 then Int32.ofNat (lateN τ ρ) else if c = 12 then Int32.ofNat (ρ 10) else if c = 13 then Int32.ofNat (ρ 11) else if c = 14 then Int32.ofNat (ρ 8) else if c = 15 then Int32.ofNat (ρ 9) else if c = 16 then Int32.ofNat (ρ 1) else -1
theorem c_78 {w : mT} {σ : mS} {tp n : Nat} {t : Nat → Nat} {τ ρ : Rw} {bk : Nat → Rw} {has : Nat → Bool} {im : Nat → Rw} {a : Int32} {D : Nat} {K : Int32 → Hp → Prop} (h : cIn w σ tp t τ ρ n bk has im) (hD : 3 ≤ D) : wpI D 78 [.ref 0, .int a] (mW w σ) K ↔ K (cntV τ ρ n has tp a.toInt) (mW w σ) := by
  have h' := h
  obtain ⟨hw, hS, ⟨oo, hH⟩, ⟨P, hP, p3, p4, hτ⟩, hρ, hv, hr, h1, htp, htb, ht⟩ := h
  have hT := isTP hw hP
  have hT' := hT
  simp only [isT] at hT'
  refine cI_of (m := 2) (fun d hd Q hQ => ?_) rfl hD
  have hd1 : 1 ≤ d := by omega
  have hd2 : 2 ≤ d := by omega
  have e0 : σ.1 35 0 = Int32.ofNat (ρ 0) := tS_d hρ
  have e1 : σ.1 35 1 = Int32.ofNat (ρ 1) := tS_mi hρ
  have e4 : σ.1 44 0 = Int32.ofNat (ρ 4) := tS_wk hρ (by omega : 0 < 2)
  have e5 : σ.1 44 1 = Int32.ofNat (ρ 5) := tS_wk hρ (by omega : 1 < 2)
  have e8 : σ.1 46 0 = Int32.ofNat (ρ 8) := tS_wt hρ (by omega : 0 < 2)
  have e9 : σ.1 46 1 = Int32.ofNat (ρ 9) := tS_wt hρ (by omega : 1 < 2)
  have e10 : σ.1 47 0 = Int32.ofNat (ρ 10) := tS_or hρ (by omega : 0 < 2)
  have e11 : σ.1 47 1 = Int32.ofNat (ρ 11) := tS_or hρ (by omega : 1 < 2)
  refine b78_0 (sw78
    (fun e => by rw [show cntV τ ρ n has tp a.toInt = Int32.ofNat (τ 0) from by rw [e]; rfl] at hQ; refine b78_84 ?_; simp only [↓br_pos, ↓br_neg, ↓rF_I, ↓rF_L, ↓rF_R, ↓rF_N, rO_m, rB_m, ↓rI_m, wI_m, ↓rB2_m, ↓rB3_m, wB2_m, wB3_m, ↓rL_m, wL_m, ↓rQ_m, wQ_m, ↓lI_m, pI_m, pL_m, pR_m, sI_m, sBy_m, sBo_m, sL_m, sQ_m, fst_m, true_and, and_true, tg_some, ln_some, uI_1, uI_2, uL_1, uL_2, uL_3, uQ_1, uQ_2, uQ_3, rv_i, rv_l, rv_n, rv_b0, rv_b1, RMR, ne_eq, reduceCtorEq, not_false_eq_true, Option.getD_some, if_true, if_false, and_self, false_and, and_false, Nat.add_left_cancel_iff, Nat.add_eq_left, Nat.left_eq_add, Nat.one_ne_zero, Nat.reduceAdd, Nat.reduceLT, Nat.reduceLeDiff, Nat.reduceEqDiff, true_implies, false_implies, implies_true, Option.some.injEq, forall_eq', forall_eq, reduceCtorEq, brT, brF, br_s, i_10, i_01, ib_0_2, ib_1_2, tn_0, tn_1, Int32.le_refl, eq_self, rv_bN, rv_iM, RCX 0, RCG 2, RCT 4, RCT 15, RCT 25, RCS 35, RCS 49, RCH 63, RCP 67, RCB 72, RCR 77, RCM 81, RLY, lit_at hw, RCT P, hT', p3, hτ.2.1]; exact hQ)
    (fun e => by rw [show cntV τ ρ n has tp a.toInt = Int32.ofNat (τ 1) from by rw [e]; rfl] at hQ; refine b78_92 ?_; simp only [↓br_pos, ↓br_neg, ↓rF_I, ↓rF_L, ↓rF_R, ↓rF_N, rO_m, rB_m, ↓rI_m, wI_m, ↓rB2_m, ↓rB3_m, wB2_m, wB3_m, ↓rL_m, wL_m, ↓rQ_m, wQ_m, ↓lI_m, pI_m, pL_m, pR_m, sI_m, sBy_m, sBo_m, sL_m, sQ_m, fst_m, true_and, and_true, tg_some, ln_some, uI_1, uI_2, uL_1, uL_2, uL_3, uQ_1, uQ_2, uQ_3, rv_i, rv_l, rv_n, rv_b0, rv_b1, RMR, ne_eq, reduceCtorEq, not_false_eq_true, Option.getD_some, if_true, if_false, and_self, false_and, and_false, Nat.add_left_cancel_iff, Nat.add_eq_left, Nat.left_eq_add, Nat.one_ne_zero, Nat.reduceAdd, Nat.reduceLT, Nat.reduceLeDiff, Nat.reduceEqDiff, true_implies, false_implies, implies_true, Option.some.injEq, forall_eq', forall_eq, reduceCtorEq, brT, brF, br_s, i_10, i_01, ib_0_2, ib_1_2, tn_0, tn_1, Int32.le_refl, eq_self, rv_bN, rv_iM, RCX 0, RCG 2, RCT 4, RCT 15, RCT 25, RCS 35, RCS 49, RCH 63, RCP 67, RCB 72, RCR 77, RCM 81, RLY, lit_at hw, RCT P, hT', p3, hτ.2.2.1]; exact hQ)
    (fun e => by rw [show cntV τ ρ n has tp a.toInt = Int32.ofNat (τ 2) from by rw [e]; rfl] at hQ; refine b78_100 ?_; simp only [↓br_pos, ↓br_neg, ↓rF_I, ↓rF_L, ↓rF_R, ↓rF_N, rO_m, rB_m, ↓rI_m, wI_m, ↓rB2_m, ↓rB3_m, wB2_m, wB3_m, ↓rL_m, wL_m, ↓rQ_m, wQ_m, ↓lI_m, pI_m, pL_m, pR_m, sI_m, sBy_m, sBo_m, sL_m, sQ_m, fst_m, true_and, and_true, tg_some, ln_some, uI_1, uI_2, uL_1, uL_2, uL_3, uQ_1, uQ_2, uQ_3, rv_i, rv_l, rv_n, rv_b0, rv_b1, RMR, ne_eq, reduceCtorEq, not_false_eq_true, Option.getD_some, if_true, if_false, and_self, false_and, and_false, Nat.add_left_cancel_iff, Nat.add_eq_left, Nat.left_eq_add, Nat.one_ne_zero, Nat.reduceAdd, Nat.reduceLT, Nat.reduceLeDiff, Nat.reduceEqDiff, true_implies, false_implies, implies_true, Option.some.injEq, forall_eq', forall_eq, reduceCtorEq, brT, brF, br_s, i_10, i_01, ib_0_2, ib_1_2, tn_0, tn_1, Int32.le_refl, eq_self, rv_bN, rv_iM, RCX 0, RCG 2, RCT 4, RCT 15, RCT 25, RCS 35, RCS 49, RCH 63, RCP 67, RCB 72, RCR 77, RCM 81, RLY, lit_at hw, RCT P, hT', p3, hτ.2.2.2.1]; exact hQ)
    (fun e => by rw [show cntV τ ρ n has tp a.toInt = Int32.ofNat (τ 3) from by rw [e]; rfl] at hQ; refine b78_108 ?_; simp only [↓br_pos, ↓br_neg, ↓rF_I, ↓rF_L, ↓rF_R, ↓rF_N, rO_m, rB_m, ↓rI_m, wI_m, ↓rB2_m, ↓rB3_m, wB2_m, wB3_m, ↓rL_m, wL_m, ↓rQ_m, wQ_m, ↓lI_m, pI_m, pL_m, pR_m, sI_m, sBy_m, sBo_m, sL_m, sQ_m, fst_m, true_and, and_true, tg_some, ln_some, uI_1, uI_2, uL_1, uL_2, uL_3, uQ_1, uQ_2, uQ_3, rv_i, rv_l, rv_n, rv_b0, rv_b1, RMR, ne_eq, reduceCtorEq, not_false_eq_true, Option.getD_some, if_true, if_false, and_self, false_and, and_false, Nat.add_left_cancel_iff, Nat.add_eq_left, Nat.left_eq_add, Nat.one_ne_zero, Nat.reduceAdd, Nat.reduceLT, Nat.reduceLeDiff, Nat.reduceEqDiff, true_implies, false_implies, implies_true, Option.some.injEq, forall_eq', forall_eq, reduceCtorEq, brT, brF, br_s, i_10, i_01, ib_0_2, ib_1_2, tn_0, tn_1, Int32.le_refl, eq_self, rv_bN, rv_iM, RCX 0, RCG 2, RCT 4, RCT 15, RCT 25, RCS 35, RCS 49, RCH 63, RCP 67, RCB 72, RCR 77, RCM 81, RLY, lit_at hw, RCT P, hT', p3, hτ.1]; exact hQ)
    (fun e => by rw [show cntV τ ρ n has tp a.toInt = Int32.ofNat (ρ 0) from by rw [e]; rfl] at hQ; refine b78_116 ?_; simp only [↓br_pos, ↓br_neg, ↓rF_I, ↓rF_L, ↓rF_R, ↓rF_N, rO_m, rB_m, ↓rI_m, wI_m, ↓rB2_m, ↓rB3_m, wB2_m, wB3_m, ↓rL_m, wL_m, ↓rQ_m, wQ_m, ↓lI_m, pI_m, pL_m, pR_m, sI_m, sBy_m, sBo_m, sL_m, sQ_m, fst_m, true_and, and_true, tg_some, ln_some, uI_1, uI_2, uL_1, uL_2, uL_3, uQ_1, uQ_2, uQ_3, rv_i, rv_l, rv_n, rv_b0, rv_b1, RMR, ne_eq, reduceCtorEq, not_false_eq_true, Option.getD_some, if_true, if_false, and_self, false_and, and_false, Nat.add_left_cancel_iff, Nat.add_eq_left, Nat.left_eq_add, Nat.one_ne_zero, Nat.reduceAdd, Nat.reduceLT, Nat.reduceLeDiff, Nat.reduceEqDiff, true_implies, false_implies, implies_true, Option.some.injEq, forall_eq', forall_eq, reduceCtorEq, brT, brF, br_s, i_10, i_01, ib_0_2, ib_1_2, tn_0, tn_1, Int32.le_refl, eq_self, rv_bN, rv_iM, RCX 0, RCG 2, RCT 4, RCT 15, RCT 25, RCS 35, RCS 49, RCH 63, RCP 67, RCB 72, RCR 77, RCM 81, RLY, lit_at hw, RCT P, hT', p3, e0]; exact hQ)
    (fun e => by rw [show cntV τ ρ n has tp a.toInt = Int32.ofNat (sailN τ ρ) from by rw [e]; rfl] at hQ; refine b78_124 ?_; simp only [↓br_pos, ↓br_neg, ↓rF_I, ↓rF_L, ↓rF_R, ↓rF_N, rO_m, rB_m, ↓rI_m, wI_m, ↓rB2_m, ↓rB3_m, wB2_m, wB3_m, ↓rL_m, wL_m, ↓rQ_m, wQ_m, ↓lI_m, pI_m, pL_m, pR_m, sI_m, sBy_m, sBo_m, sL_m, sQ_m, fst_m, true_and, and_true, tg_some, ln_some, uI_1, uI_2, uL_1, uL_2, uL_3, uQ_1, uQ_2, uQ_3, rv_i, rv_l, rv_n, rv_b0, rv_b1, RMR, ne_eq, reduceCtorEq, not_false_eq_true, Option.getD_some, if_true, if_false, and_self, false_and, and_false, Nat.add_left_cancel_iff, Nat.add_eq_left, Nat.left_eq_add, Nat.one_ne_zero, Nat.reduceAdd, Nat.reduceLT, Nat.reduceLeDiff, Nat.reduceEqDiff, true_implies, false_implies, implies_true, Option.some.injEq, forall_eq', forall_eq, reduceCtorEq, brT, brF, br_s, i_10, i_01, ib_0_2, ib_1_2, tn_0, tn_1, Int32.le_refl, eq_self, rv_bN, rv_iM, RCX 0, RCG 2, RCT 4, RCT 15, RCT 25, RCS 35, RCS 49, RCH 63, RCP 67, RCB 72, RCR 77, RCM 81, RLY, lit_at hw, RCT P, hT', p3, g_123 hw hP p3 hτ hv hρ hr hd1]; exact hQ)
    (fun e => by rw [show cntV τ ρ n has tp a.toInt = Int32.ofNat (ρ 4) from by rw [e]; rfl] at hQ; refine b78_129 ?_; simp only [↓br_pos, ↓br_neg, ↓rF_I, ↓rF_L, ↓rF_R, ↓rF_N, rO_m, rB_m, ↓rI_m, wI_m, ↓rB2_m, ↓rB3_m, wB2_m, wB3_m, ↓rL_m, wL_m, ↓rQ_m, wQ_m, ↓lI_m, pI_m, pL_m, pR_m, sI_m, sBy_m, sBo_m, sL_m, sQ_m, fst_m, true_and, and_true, tg_some, ln_some, uI_1, uI_2, uL_1, uL_2, uL_3, uQ_1, uQ_2, uQ_3, rv_i, rv_l, rv_n, rv_b0, rv_b1, RMR, ne_eq, reduceCtorEq, not_false_eq_true, Option.getD_some, if_true, if_false, and_self, false_and, and_false, Nat.add_left_cancel_iff, Nat.add_eq_left, Nat.left_eq_add, Nat.one_ne_zero, Nat.reduceAdd, Nat.reduceLT, Nat.reduceLeDiff, Nat.reduceEqDiff, true_implies, false_implies, implies_true, Option.some.injEq, forall_eq', forall_eq, reduceCtorEq, brT, brF, br_s, i_10, i_01, ib_0_2, ib_1_2, tn_0, tn_1, Int32.le_refl, eq_self, rv_bN, rv_iM, RCX 0, RCG 2, RCT 4, RCT 15, RCT 25, RCS 35, RCS 49, RCH 63, RCP 67, RCB 72, RCR 77, RCM 81, RLY, lit_at hw, RCT P, hT', p3, e4]; exact hQ)
    (fun e => by rw [show cntV τ ρ n has tp a.toInt = Int32.ofNat (ρ 5) from by rw [e]; rfl] at hQ; refine b78_139 ?_; simp only [↓br_pos, ↓br_neg, ↓rF_I, ↓rF_L, ↓rF_R, ↓rF_N, rO_m, rB_m, ↓rI_m, wI_m, ↓rB2_m, ↓rB3_m, wB2_m, wB3_m, ↓rL_m, wL_m, ↓rQ_m, wQ_m, ↓lI_m, pI_m, pL_m, pR_m, sI_m, sBy_m, sBo_m, sL_m, sQ_m, fst_m, true_and, and_true, tg_some, ln_some, uI_1, uI_2, uL_1, uL_2, uL_3, uQ_1, uQ_2, uQ_3, rv_i, rv_l, rv_n, rv_b0, rv_b1, RMR, ne_eq, reduceCtorEq, not_false_eq_true, Option.getD_some, if_true, if_false, and_self, false_and, and_false, Nat.add_left_cancel_iff, Nat.add_eq_left, Nat.left_eq_add, Nat.one_ne_zero, Nat.reduceAdd, Nat.reduceLT, Nat.reduceLeDiff, Nat.reduceEqDiff, true_implies, false_implies, implies_true, Option.some.injEq, forall_eq', forall_eq, reduceCtorEq, brT, brF, br_s, i_10, i_01, ib_0_2, ib_1_2, tn_0, tn_1, Int32.le_refl, eq_self, rv_bN, rv_iM, RCX 0, RCG 2, RCT 4, RCT 15, RCT 25, RCS 35, RCS 49, RCH 63, RCP 67, RCB 72, RCR 77, RCM 81, RLY, lit_at hw, RCT P, hT', p3, e5]; exact hQ)
    (fun e => by rw [show cntV τ ρ n has tp a.toInt = Int32.ofNat n from by rw [e]; rfl] at hQ; refine b78_149 ?_; simp only [↓br_pos, ↓br_neg, ↓rF_I, ↓rF_L, ↓rF_R, ↓rF_N, rO_m, rB_m, ↓rI_m, wI_m, ↓rB2_m, ↓rB3_m, wB2_m, wB3_m, ↓rL_m, wL_m, ↓rQ_m, wQ_m, ↓lI_m, pI_m, pL_m, pR_m, sI_m, sBy_m, sBo_m, sL_m, sQ_m, fst_m, true_and, and_true, tg_some, ln_some, uI_1, uI_2, uL_1, uL_2, uL_3, uQ_1, uQ_2, uQ_3, rv_i, rv_l, rv_n, rv_b0, rv_b1, RMR, ne_eq, reduceCtorEq, not_false_eq_true, Option.getD_some, if_true, if_false, and_self, false_and, and_false, Nat.add_left_cancel_iff, Nat.add_eq_left, Nat.left_eq_add, Nat.one_ne_zero, Nat.reduceAdd, Nat.reduceLT, Nat.reduceLeDiff, Nat.reduceEqDiff, true_implies, false_implies, implies_true, Option.some.injEq, forall_eq', forall_eq, reduceCtorEq, brT, brF, br_s, i_10, i_01, ib_0_2, ib_1_2, tn_0, tn_1, Int32.le_refl, eq_self, rv_bN, rv_iM, RCX 0, RCG 2, RCT 4, RCT 15, RCT 25, RCS 35, RCS 49, RCH 63, RCP 67, RCB 72, RCR 77, RCM 81, RLY, lit_at hw, RCT P, hT', p3, hH.2.2.1]; exact hQ)
    (fun e => by rw [show cntV τ ρ n has tp a.toInt = Int32.ofNat ((if has 0 = true then 1 else 0) + (if has 1 = true then 1 else 0)) from by rw [e]; rfl] at hQ; refine b78_157 ?_; simp only [↓br_pos, ↓br_neg, ↓rF_I, ↓rF_L, ↓rF_R, ↓rF_N, rO_m, rB_m, ↓rI_m, wI_m, ↓rB2_m, ↓rB3_m, wB2_m, wB3_m, ↓rL_m, wL_m, ↓rQ_m, wQ_m, ↓lI_m, pI_m, pL_m, pR_m, sI_m, sBy_m, sBo_m, sL_m, sQ_m, fst_m, true_and, and_true, tg_some, ln_some, uI_1, uI_2, uL_1, uL_2, uL_3, uQ_1, uQ_2, uQ_3, rv_i, rv_l, rv_n, rv_b0, rv_b1, RMR, ne_eq, reduceCtorEq, not_false_eq_true, Option.getD_some, if_true, if_false, and_self, false_and, and_false, Nat.add_left_cancel_iff, Nat.add_eq_left, Nat.left_eq_add, Nat.one_ne_zero, Nat.reduceAdd, Nat.reduceLT, Nat.reduceLeDiff, Nat.reduceEqDiff, true_implies, false_implies, implies_true, Option.some.injEq, forall_eq', forall_eq, reduceCtorEq, brT, brF, br_s, i_10, i_01, ib_0_2, ib_1_2, tn_0, tn_1, Int32.le_refl, eq_self, rv_bN, rv_iM, RCX 0, RCG 2, RCT 4, RCT 15, RCT 25, RCS 35, RCS 49, RCH 63, RCP 67, RCB 72, RCR 77, RCM 81, RLY, lit_at hw, RCT P, hT', p3, g_10 hw hH hd1]; exact hQ)
    (fun e => by rw [show cntV τ ρ n has tp a.toInt = Int32.ofNat tp from by rw [e]; rfl] at hQ; refine b78_165 ?_; simp only [↓br_pos, ↓br_neg, ↓rF_I, ↓rF_L, ↓rF_R, ↓rF_N, rO_m, rB_m, ↓rI_m, wI_m, ↓rB2_m, ↓rB3_m, wB2_m, wB3_m, ↓rL_m, wL_m, ↓rQ_m, wQ_m, ↓lI_m, pI_m, pL_m, pR_m, sI_m, sBy_m, sBo_m, sL_m, sQ_m, fst_m, true_and, and_true, tg_some, ln_some, uI_1, uI_2, uL_1, uL_2, uL_3, uQ_1, uQ_2, uQ_3, rv_i, rv_l, rv_n, rv_b0, rv_b1, RMR, ne_eq, reduceCtorEq, not_false_eq_true, Option.getD_some, if_true, if_false, and_self, false_and, and_false, Nat.add_left_cancel_iff, Nat.add_eq_left, Nat.left_eq_add, Nat.one_ne_zero, Nat.reduceAdd, Nat.reduceLT, Nat.reduceLeDiff, Nat.reduceEqDiff, true_implies, false_implies, implies_true, Option.some.injEq, forall_eq', forall_eq, reduceCtorEq, brT, brF, br_s, i_10, i_01, ib_0_2, ib_1_2, tn_0, tn_1, Int32.le_refl, eq_self, rv_bN, rv_iM, RCX 0, RCG 2, RCT 4, RCT 15, RCT 25, RCS 35, RCS 49, RCH 63, RCP 67, RCB 72, RCR 77, RCM 81, RLY, lit_at hw, RCT P, hT', p3, h1]; exact hQ)
    (fun e => by rw [show cntV τ ρ n has tp a.toInt = Int32.ofNat (lateN τ ρ) from by rw [e]; rfl] at hQ; refine b78_170 ?_; simp only [↓br_pos, ↓br_neg, ↓rF_I, ↓rF_L, ↓rF_R, ↓rF_N, rO_m, rB_m, ↓rI_m, wI_m, ↓rB2_m, ↓rB3_m, wB2_m, wB3_m, ↓rL_m, wL_m, ↓rQ_m, wQ_m, ↓lI_m, pI_m, pL_m, pR_m, sI_m, sBy_m, sBo_m, sL_m, sQ_m, fst_m, true_and, and_true, tg_some, ln_some, uI_1, uI_2, uL_1, uL_2, uL_3, uQ_1, uQ_2, uQ_3, rv_i, rv_l, rv_n, rv_b0, rv_b1, RMR, ne_eq, reduceCtorEq, not_false_eq_true, Option.getD_some, if_true, if_false, and_self, false_and, and_false, Nat.add_left_cancel_iff, Nat.add_eq_left, Nat.left_eq_add, Nat.one_ne_zero, Nat.reduceAdd, Nat.reduceLT, Nat.reduceLeDiff, Nat.reduceEqDiff, true_implies, false_implies, implies_true, Option.some.injEq, forall_eq', forall_eq, reduceCtorEq, brT, brF, br_s, i_10, i_01, ib_0_2, ib_1_2, tn_0, tn_1, Int32.le_refl, eq_self, rv_bN, rv_iM, RCX 0, RCG 2, RCT 4, RCT 15, RCT 25, RCS 35, RCS 49, RCH 63, RCP 67, RCB 72, RCR 77, RCM 81, RLY, lit_at hw, RCT P, hT', p3, g_124 hw hP p3 hτ hv hρ hr hd2]; exact hQ)
    (fun e => by rw [show cntV τ ρ n has tp a.toInt = Int32.ofNat (ρ 10) from by rw [e]; rfl] at hQ; refine b78_175 ?_; simp only [↓br_pos, ↓br_neg, ↓rF_I, ↓rF_L, ↓rF_R, ↓rF_N, rO_m, rB_m, ↓rI_m, wI_m, ↓rB2_m, ↓rB3_m, wB2_m, wB3_m, ↓rL_m, wL_m, ↓rQ_m, wQ_m, ↓lI_m, pI_m, pL_m, pR_m, sI_m, sBy_m, sBo_m, sL_m, sQ_m, fst_m, true_and, and_true, tg_some, ln_some, uI_1, uI_2, uL_1, uL_2, uL_3, uQ_1, uQ_2, uQ_3, rv_i, rv_l, rv_n, rv_b0, rv_b1, RMR, ne_eq, reduceCtorEq, not_false_eq_true, Option.getD_some, if_true, if_false, and_self, false_and, and_false, Nat.add_left_cancel_iff, Nat.add_eq_left, Nat.left_eq_add, Nat.one_ne_zero, Nat.reduceAdd, Nat.reduceLT, Nat.reduceLeDiff, Nat.reduceEqDiff, true_implies, false_implies, implies_true, Option.some.injEq, forall_eq', forall_eq, reduceCtorEq, brT, brF, br_s, i_10, i_01, ib_0_2, ib_1_2, tn_0, tn_1, Int32.le_refl, eq_self, rv_bN, rv_iM, RCX 0, RCG 2, RCT 4, RCT 15, RCT 25, RCS 35, RCS 49, RCH 63, RCP 67, RCB 72, RCR 77, RCM 81, RLY, lit_at hw, RCT P, hT', p3, e10]; exact hQ)
    (fun e => by rw [show cntV τ ρ n has tp a.toInt = Int32.ofNat (ρ 11) from by rw [e]; rfl] at hQ; refine b78_185 ?_; simp only [↓br_pos, ↓br_neg, ↓rF_I, ↓rF_L, ↓rF_R, ↓rF_N, rO_m, rB_m, ↓rI_m, wI_m, ↓rB2_m, ↓rB3_m, wB2_m, wB3_m, ↓rL_m, wL_m, ↓rQ_m, wQ_m, ↓lI_m, pI_m, pL_m, pR_m, sI_m, sBy_m, sBo_m, sL_m, sQ_m, fst_m, true_and, and_true, tg_some, ln_some, uI_1, uI_2, uL_1, uL_2, uL_3, uQ_1, uQ_2, uQ_3, rv_i, rv_l, rv_n, rv_b0, rv_b1, RMR, ne_eq, reduceCtorEq, not_false_eq_true, Option.getD_some, if_true, if_false, and_self, false_and, and_false, Nat.add_left_cancel_iff, Nat.add_eq_left, Nat.left_eq_add, Nat.one_ne_zero, Nat.reduceAdd, Nat.reduceLT, Nat.reduceLeDiff, Nat.reduceEqDiff, true_implies, false_implies, implies_true, Option.some.injEq, forall_eq', forall_eq, reduceCtorEq, brT, brF, br_s, i_10, i_01, ib_0_2, ib_1_2, tn_0, tn_1, Int32.le_refl, eq_self, rv_bN, rv_iM, RCX 0, RCG 2, RCT 4, RCT 15, RCT 25, RCS 35, RCS 49, RCH 63, RCP 67, RCB 72, RCR 77, RCM 81, RLY, lit_at hw, RCT P, hT', p3, e11]; exact hQ)
    (fun e => by rw [show cntV τ ρ n has tp a.toInt = Int32.ofNat (ρ 8) from by rw [e]; rfl] at hQ; refine b78_195 ?_; simp only [↓br_pos, ↓br_neg, ↓rF_I, ↓rF_L, ↓rF_R, ↓rF_N, rO_m, rB_m, ↓rI_m, wI_m, ↓rB2_m, ↓rB3_m, wB2_m, wB3_m, ↓rL_m, wL_m, ↓rQ_m, wQ_m, ↓lI_m, pI_m, pL_m, pR_m, sI_m, sBy_m, sBo_m, sL_m, sQ_m, fst_m, true_and, and_true, tg_some, ln_some, uI_1, uI_2, uL_1, uL_2, uL_3, uQ_1, uQ_2, uQ_3, rv_i, rv_l, rv_n, rv_b0, rv_b1, RMR, ne_eq, reduceCtorEq, not_false_eq_true, Option.getD_some, if_true, if_false, and_self, false_and, and_false, Nat.add_left_cancel_iff, Nat.add_eq_left, Nat.left_eq_add, Nat.one_ne_zero, Nat.reduceAdd, Nat.reduceLT, Nat.reduceLeDiff, Nat.reduceEqDiff, true_implies, false_implies, implies_true, Option.some.injEq, forall_eq', forall_eq, reduceCtorEq, brT, brF, br_s, i_10, i_01, ib_0_2, ib_1_2, tn_0, tn_1, Int32.le_refl, eq_self, rv_bN, rv_iM, RCX 0, RCG 2, RCT 4, RCT 15, RCT 25, RCS 35, RCS 49, RCH 63, RCP 67, RCB 72, RCR 77, RCM 81, RLY, lit_at hw, RCT P, hT', p3, e8]; exact hQ)
    (fun e => by rw [show cntV τ ρ n has tp a.toInt = Int32.ofNat (ρ 9) from by rw [e]; rfl] at hQ; refine b78_205 ?_; simp only [↓br_pos, ↓br_neg, ↓rF_I, ↓rF_L, ↓rF_R, ↓rF_N, rO_m, rB_m, ↓rI_m, wI_m, ↓rB2_m, ↓rB3_m, wB2_m, wB3_m, ↓rL_m, wL_m, ↓rQ_m, wQ_m, ↓lI_m, pI_m, pL_m, pR_m, sI_m, sBy_m, sBo_m, sL_m, sQ_m, fst_m, true_and, and_true, tg_some, ln_some, uI_1, uI_2, uL_1, uL_2, uL_3, uQ_1, uQ_2, uQ_3, rv_i, rv_l, rv_n, rv_b0, rv_b1, RMR, ne_eq, reduceCtorEq, not_false_eq_true, Option.getD_some, if_true, if_false, and_self, false_and, and_false, Nat.add_left_cancel_iff, Nat.add_eq_left, Nat.left_eq_add, Nat.one_ne_zero, Nat.reduceAdd, Nat.reduceLT, Nat.reduceLeDiff, Nat.reduceEqDiff, true_implies, false_implies, implies_true, Option.some.injEq, forall_eq', forall_eq, reduceCtorEq, brT, brF, br_s, i_10, i_01, ib_0_2, ib_1_2, tn_0, tn_1, Int32.le_refl, eq_self, rv_bN, rv_iM, RCX 0, RCG 2, RCT 4, RCT 15, RCT 25, RCS 35, RCS 49, RCH 63, RCP 67, RCB 72, RCR 77, RCM 81, RLY, lit_at hw, RCT P, hT', p3, e9]; exact hQ)
    (fun e => by rw [show cntV τ ρ n has tp a.toInt = Int32.ofNat (ρ 1) from by rw [e]; rfl] at hQ; refine b78_215 ?_; simp only [↓br_pos, ↓br_neg, ↓rF_I, ↓rF_L, ↓rF_R, ↓rF_N, rO_m, rB_m, ↓rI_m, wI_m, ↓rB2_m, ↓rB3_m, wB2_m, wB3_m, ↓rL_m, wL_m, ↓rQ_m, wQ_m, ↓lI_m, pI_m, pL_m, pR_m, sI_m, sBy_m, sBo_m, sL_m, sQ_m, fst_m, true_and, and_true, tg_some, ln_some, uI_1, uI_2, uL_1, uL_2, uL_3, uQ_1, uQ_2, uQ_3, rv_i, rv_l, rv_n, rv_b0, rv_b1, RMR, ne_eq, reduceCtorEq, not_false_eq_true, Option.getD_some, if_true, if_false, and_self, false_and, and_false, Nat.add_left_cancel_iff, Nat.add_eq_left, Nat.left_eq_add, Nat.one_ne_zero, Nat.reduceAdd, Nat.reduceLT, Nat.reduceLeDiff, Nat.reduceEqDiff, true_implies, false_implies, implies_true, Option.some.injEq, forall_eq', forall_eq, reduceCtorEq, brT, brF, br_s, i_10, i_01, ib_0_2, ib_1_2, tn_0, tn_1, Int32.le_refl, eq_self, rv_bN, rv_iM, RCX 0, RCG 2, RCT 4, RCT 15, RCT 25, RCS 35, RCS 49, RCH 63, RCP 67, RCB 72, RCR 77, RCM 81, RLY, lit_at hw, RCT P, hT', p3, e1]; exact hQ)
    (fun e => by
      have ed : cntV τ ρ n has tp a.toInt = -1 := by
        unfold cntV
        rw [if_neg (by omega), if_neg (by omega), if_neg (by omega), if_neg (by omega), if_neg (by omega), if_neg (by omega), if_neg (by omega), if_neg (by omega), if_neg (by omega), if_neg (by omega), if_neg (by omega), if_neg (by omega), if_neg (by omega), if_neg (by omega), if_neg (by omega), if_neg (by omega), if_neg (by omega)]
      rw [ed] at hQ
      refine b78_223 ?_
      simp only [↓br_pos, ↓br_neg, ↓rF_I, ↓rF_L, ↓rF_R, ↓rF_N, rO_m, rB_m, ↓rI_m, wI_m, ↓rB2_m, ↓rB3_m, wB2_m, wB3_m, ↓rL_m, wL_m, ↓rQ_m, wQ_m, ↓lI_m, pI_m, pL_m, pR_m, sI_m, sBy_m, sBo_m, sL_m, sQ_m, fst_m, true_and, and_true, tg_some, ln_some, uI_1, uI_2, uL_1, uL_2, uL_3, uQ_1, uQ_2, uQ_3, rv_i, rv_l, rv_n, rv_b0, rv_b1, RMR, ne_eq, reduceCtorEq, not_false_eq_true, Option.getD_some, if_true, if_false, and_self, false_and, and_false, Nat.add_left_cancel_iff, Nat.add_eq_left, Nat.left_eq_add, Nat.one_ne_zero, Nat.reduceAdd, Nat.reduceLT, Nat.reduceLeDiff, Nat.reduceEqDiff, true_implies, false_implies, implies_true, Option.some.injEq, forall_eq', forall_eq, reduceCtorEq, brT, brF, br_s, i_10, i_01, ib_0_2, ib_1_2, tn_0, tn_1, Int32.le_refl, eq_self, rv_bN, rv_iM]
      exact hQ))
abbrev loP (τ : Rw) (l a : Int32) : Prop := bN l (τ 0) = 1 ∧ 0 ≤ a.toInt ∧ a.toInt ≤ 2
theorem c_79z {w : mT} {σ : mS} {tp n : Nat} {t : Nat → Nat} {τ ρ : Rw} {bk : Nat → Rw} {has : Nat → Bool} {im : Nat → Rw} {l a : Int32} {D : Nat} {kr : Option Value → Hp → Prop} {kt : Hp → Prop} (h : cIn w σ tp t τ ρ n bk has im) (hn : ¬ loP τ l a) (hD : 2 ≤ D) : wpC D 79 [.ref 0, .int l, .int a] (mW w σ) kr kt ↔ kt (mW (w.1, w.2.1, w.2.2.1 + 1, w.2.2.2) σ) := by
  have h' := h
  obtain ⟨hw, hS, hH, ⟨P, hP, p3, p4, hτ⟩, hρ, hv, hr, h1, htp, htb, ht⟩ := h
  have hT := isTP hw hP
  have hT' := hT
  simp only [isT] at hT'
  refine wpC_iff (m := 1) (r := none) (fun d hd Q hQ => ?_) rfl hD
  have v0 := hv.1
  refine b79_0 ?_
  by_cases z : bN l (τ 0) = 1
  · by_cases y : a < 0
    · simp only [↓br_pos, ↓br_neg, ↓rF_I, ↓rF_L, ↓rF_R, ↓rF_N, rO_m, rB_m, ↓rI_m, wI_m, ↓rB2_m, ↓rB3_m, wB2_m, wB3_m, ↓rL_m, wL_m, ↓rQ_m, wQ_m, ↓lI_m, pI_m, pL_m, pR_m, sI_m, sBy_m, sBo_m, sL_m, sQ_m, fst_m, true_and, and_true, tg_some, ln_some, uI_1, uI_2, uL_1, uL_2, uL_3, uQ_1, uQ_2, uQ_3, rv_i, rv_l, rv_n, rv_b0, rv_b1, RMR, ne_eq, reduceCtorEq, not_false_eq_true, Option.getD_some, if_true, if_false, and_self, false_and, and_false, Nat.add_left_cancel_iff, Nat.add_eq_left, Nat.left_eq_add, Nat.one_ne_zero, Nat.reduceAdd, Nat.reduceLT, Nat.reduceLeDiff, Nat.reduceEqDiff, true_implies, false_implies, implies_true, Option.some.injEq, forall_eq', forall_eq, reduceCtorEq, brT, brF, br_s, i_10, i_01, ib_0_2, ib_1_2, tn_0, tn_1, Int32.le_refl, eq_self, rv_bN, rv_iM, RCX 0, RCG 2, RCT 4, RCT 15, RCT 25, RCS 35, RCS 49, RCH 63, RCP 67, RCB 72, RCR 77, RCM 81, RLY, lit_at hw, RCT P, hT', p3, g_70 hT hτ.2.1 (by omega : τ 0 < 2147483648) hd, z, y]
      exact hQ
    · have x : ¬ a ≤ 2 := by
        intro q
        rw [i_lt, show (0 : Int32).toInt = 0 by decide] at y
        rw [i_le, show (2 : Int32).toInt = 2 by decide] at q
        exact hn ⟨z, by omega, by omega⟩
      simp only [↓br_pos, ↓br_neg, ↓rF_I, ↓rF_L, ↓rF_R, ↓rF_N, rO_m, rB_m, ↓rI_m, wI_m, ↓rB2_m, ↓rB3_m, wB2_m, wB3_m, ↓rL_m, wL_m, ↓rQ_m, wQ_m, ↓lI_m, pI_m, pL_m, pR_m, sI_m, sBy_m, sBo_m, sL_m, sQ_m, fst_m, true_and, and_true, tg_some, ln_some, uI_1, uI_2, uL_1, uL_2, uL_3, uQ_1, uQ_2, uQ_3, rv_i, rv_l, rv_n, rv_b0, rv_b1, RMR, ne_eq, reduceCtorEq, not_false_eq_true, Option.getD_some, if_true, if_false, and_self, false_and, and_false, Nat.add_left_cancel_iff, Nat.add_eq_left, Nat.left_eq_add, Nat.one_ne_zero, Nat.reduceAdd, Nat.reduceLT, Nat.reduceLeDiff, Nat.reduceEqDiff, true_implies, false_implies, implies_true, Option.some.injEq, forall_eq', forall_eq, reduceCtorEq, brT, brF, br_s, i_10, i_01, ib_0_2, ib_1_2, tn_0, tn_1, Int32.le_refl, eq_self, rv_bN, rv_iM, RCX 0, RCG 2, RCT 4, RCT 15, RCT 25, RCS 35, RCS 49, RCH 63, RCP 67, RCB 72, RCR 77, RCM 81, RLY, lit_at hw, RCT P, hT', p3, g_70 hT hτ.2.1 (by omega : τ 0 < 2147483648) hd, z, y, x]
      exact hQ
  · have z' : bN l (τ 0) = 0 := bN_01.resolve_right z
    simp only [↓br_pos, ↓br_neg, ↓rF_I, ↓rF_L, ↓rF_R, ↓rF_N, rO_m, rB_m, ↓rI_m, wI_m, ↓rB2_m, ↓rB3_m, wB2_m, wB3_m, ↓rL_m, wL_m, ↓rQ_m, wQ_m, ↓lI_m, pI_m, pL_m, pR_m, sI_m, sBy_m, sBo_m, sL_m, sQ_m, fst_m, true_and, and_true, tg_some, ln_some, uI_1, uI_2, uL_1, uL_2, uL_3, uQ_1, uQ_2, uQ_3, rv_i, rv_l, rv_n, rv_b0, rv_b1, RMR, ne_eq, reduceCtorEq, not_false_eq_true, Option.getD_some, if_true, if_false, and_self, false_and, and_false, Nat.add_left_cancel_iff, Nat.add_eq_left, Nat.left_eq_add, Nat.one_ne_zero, Nat.reduceAdd, Nat.reduceLT, Nat.reduceLeDiff, Nat.reduceEqDiff, true_implies, false_implies, implies_true, Option.some.injEq, forall_eq', forall_eq, reduceCtorEq, brT, brF, br_s, i_10, i_01, ib_0_2, ib_1_2, tn_0, tn_1, Int32.le_refl, eq_self, rv_bN, rv_iM, RCX 0, RCG 2, RCT 4, RCT 15, RCT 25, RCS 35, RCS 49, RCH 63, RCP 67, RCB 72, RCR 77, RCM 81, RLY, lit_at hw, RCT P, hT', p3, g_70 hT hτ.2.1 (by omega : τ 0 < 2147483648) hd, z']
    exact hQ
def lotV (τ ρ : Rw) (l a : Nat) : Nat := if a = 0 then τ (4 + l) else if a = 1 then τ (16 + l) else ρ (12 + l)
theorem c_79 {w : mT} {σ : mS} {tp n : Nat} {t : Nat → Nat} {τ ρ : Rw} {bk : Nat → Rw} {has : Nat → Bool} {im : Nat → Rw} {l a : Nat} {D : Nat} {kr : Option Value → Hp → Prop} {kt : Hp → Prop} (h : cIn w σ tp t τ ρ n bk has im) (hl : l < τ 0) (ha : a ≤ 2) (hD : 2 ≤ D) : wpC D 79 [.ref 0, .int (Int32.ofNat l), .int (Int32.ofNat a)] (mW w σ) kr kt ↔ kr (some (.int (Int32.ofNat (lotV τ ρ l a)))) (mW w σ) := by
  have h' := h
  obtain ⟨hw, hS, hH, ⟨P, hP, p3, p4, hτ⟩, hρ, hv, hr, h1, htp, htb, ht⟩ := h
  have hT := isTP hw hP
  have hT' := hT
  simp only [isT] at hT'
  refine wpC_iff (m := 1) (r := some (some (.int (Int32.ofNat (lotV τ ρ l a))))) (fun d hd Q hQ => ?_) rfl hD
  have v0 := hv.1
  have z := bN_on hl (by omega : τ 0 < 2147483648)
  have eb : inB (Int32.ofNat l) 12 = true := on_inB (by omega) (by omega)
  have en := on_nat (i := l) (by omega)
  have e1 := (hτ.2.2.2.2.1 l hl).1
  have e2 := (hτ.2.2.2.2.1 l hl).2
  have e3 : σ.1 36 l = Int32.ofNat (ρ (12 + l)) := tS_lf hρ hl
  have a0 := of_lt0 (a := a) (by omega)
  have a2 : (Int32.ofNat a ≤ (2 : Int32)) ↔ True := iff_true_intro ((on_le (j := 2) (by omega) (by omega)).mpr ha)
  refine b79_0 ?_
  have : a = 0 ∨ a = 1 ∨ a = 2 := by omega
  rcases this with rfl | rfl | rfl
  · have c0 : (Int32.ofNat 0 = (0 : Int32)) ↔ True := by decide
    simp only [↓br_pos, ↓br_neg, ↓rF_I, ↓rF_L, ↓rF_R, ↓rF_N, rO_m, rB_m, ↓rI_m, wI_m, ↓rB2_m, ↓rB3_m, wB2_m, wB3_m, ↓rL_m, wL_m, ↓rQ_m, wQ_m, ↓lI_m, pI_m, pL_m, pR_m, sI_m, sBy_m, sBo_m, sL_m, sQ_m, fst_m, true_and, and_true, tg_some, ln_some, uI_1, uI_2, uL_1, uL_2, uL_3, uQ_1, uQ_2, uQ_3, rv_i, rv_l, rv_n, rv_b0, rv_b1, RMR, ne_eq, reduceCtorEq, not_false_eq_true, Option.getD_some, if_true, if_false, and_self, false_and, and_false, Nat.add_left_cancel_iff, Nat.add_eq_left, Nat.left_eq_add, Nat.one_ne_zero, Nat.reduceAdd, Nat.reduceLT, Nat.reduceLeDiff, Nat.reduceEqDiff, true_implies, false_implies, implies_true, Option.some.injEq, forall_eq', forall_eq, reduceCtorEq, brT, brF, br_s, i_10, i_01, ib_0_2, ib_1_2, tn_0, tn_1, Int32.le_refl, eq_self, rv_bN, rv_iM, RCX 0, RCG 2, RCT 4, RCT 15, RCT 25, RCS 35, RCS 49, RCH 63, RCP 67, RCB 72, RCR 77, RCM 81, RLY, lit_at hw, RCT P, hT', p3, g_70 hT hτ.2.1 (by omega : τ 0 < 2147483648) hd, z, a0, a2, c0, eb, en, e1]
    exact hQ
  · have c0 : (Int32.ofNat 1 = (0 : Int32)) ↔ False := by decide
    have c1 : (Int32.ofNat 1 = (1 : Int32)) ↔ True := by decide
    simp only [↓br_pos, ↓br_neg, ↓rF_I, ↓rF_L, ↓rF_R, ↓rF_N, rO_m, rB_m, ↓rI_m, wI_m, ↓rB2_m, ↓rB3_m, wB2_m, wB3_m, ↓rL_m, wL_m, ↓rQ_m, wQ_m, ↓lI_m, pI_m, pL_m, pR_m, sI_m, sBy_m, sBo_m, sL_m, sQ_m, fst_m, true_and, and_true, tg_some, ln_some, uI_1, uI_2, uL_1, uL_2, uL_3, uQ_1, uQ_2, uQ_3, rv_i, rv_l, rv_n, rv_b0, rv_b1, RMR, ne_eq, reduceCtorEq, not_false_eq_true, Option.getD_some, if_true, if_false, and_self, false_and, and_false, Nat.add_left_cancel_iff, Nat.add_eq_left, Nat.left_eq_add, Nat.one_ne_zero, Nat.reduceAdd, Nat.reduceLT, Nat.reduceLeDiff, Nat.reduceEqDiff, true_implies, false_implies, implies_true, Option.some.injEq, forall_eq', forall_eq, reduceCtorEq, brT, brF, br_s, i_10, i_01, ib_0_2, ib_1_2, tn_0, tn_1, Int32.le_refl, eq_self, rv_bN, rv_iM, RCX 0, RCG 2, RCT 4, RCT 15, RCT 25, RCS 35, RCS 49, RCH 63, RCP 67, RCB 72, RCR 77, RCM 81, RLY, lit_at hw, RCT P, hT', p3, g_70 hT hτ.2.1 (by omega : τ 0 < 2147483648) hd, z, a0, a2, c0, c1, eb, en, e2]
    exact hQ
  · have c0 : (Int32.ofNat 2 = (0 : Int32)) ↔ False := by decide
    have c1 : (Int32.ofNat 2 = (1 : Int32)) ↔ False := by decide
    simp only [↓br_pos, ↓br_neg, ↓rF_I, ↓rF_L, ↓rF_R, ↓rF_N, rO_m, rB_m, ↓rI_m, wI_m, ↓rB2_m, ↓rB3_m, wB2_m, wB3_m, ↓rL_m, wL_m, ↓rQ_m, wQ_m, ↓lI_m, pI_m, pL_m, pR_m, sI_m, sBy_m, sBo_m, sL_m, sQ_m, fst_m, true_and, and_true, tg_some, ln_some, uI_1, uI_2, uL_1, uL_2, uL_3, uQ_1, uQ_2, uQ_3, rv_i, rv_l, rv_n, rv_b0, rv_b1, RMR, ne_eq, reduceCtorEq, not_false_eq_true, Option.getD_some, if_true, if_false, and_self, false_and, and_false, Nat.add_left_cancel_iff, Nat.add_eq_left, Nat.left_eq_add, Nat.one_ne_zero, Nat.reduceAdd, Nat.reduceLT, Nat.reduceLeDiff, Nat.reduceEqDiff, true_implies, false_implies, implies_true, Option.some.injEq, forall_eq', forall_eq, reduceCtorEq, brT, brF, br_s, i_10, i_01, ib_0_2, ib_1_2, tn_0, tn_1, Int32.le_refl, eq_self, rv_bN, rv_iM, RCX 0, RCG 2, RCT 4, RCT 15, RCT 25, RCS 35, RCS 49, RCH 63, RCP 67, RCB 72, RCR 77, RCM 81, RLY, lit_at hw, RCT P, hT', p3, g_70 hT hτ.2.1 (by omega : τ 0 < 2147483648) hd, z, a0, a2, c0, c1, eb, en, e3]
    exact hQ
abbrev shP (τ : Rw) (s a : Int32) : Prop := bN s (τ 2) = 1 ∧ 0 ≤ a.toInt ∧ a.toInt ≤ 9
theorem c_80z {w : mT} {σ : mS} {tp n : Nat} {t : Nat → Nat} {τ ρ : Rw} {bk : Nat → Rw} {has : Nat → Bool} {im : Nat → Rw} {s a : Int32} {D : Nat} {kr : Option Value → Hp → Prop} {kt : Hp → Prop} (h : cIn w σ tp t τ ρ n bk has im) (hn : ¬ shP τ s a) (hD : 2 ≤ D) : wpC D 80 [.ref 0, .int s, .int a] (mW w σ) kr kt ↔ kt (mW (w.1, w.2.1, w.2.2.1 + 1, w.2.2.2) σ) := by
  have h' := h
  obtain ⟨hw, hS, hH, ⟨P, hP, p3, p4, hτ⟩, hρ, hv, hr, h1, htp, htb, ht⟩ := h
  have hT := isTP hw hP
  have hT' := hT
  simp only [isT] at hT'
  refine wpC_iff (m := 1) (r := none) (fun d hd Q hQ => ?_) rfl hD
  have v0 := hv.2.2.1
  refine b80_0 ?_
  by_cases z : bN s (τ 2) = 1
  · by_cases y : a < 0
    · simp only [↓br_pos, ↓br_neg, ↓rF_I, ↓rF_L, ↓rF_R, ↓rF_N, rO_m, rB_m, ↓rI_m, wI_m, ↓rB2_m, ↓rB3_m, wB2_m, wB3_m, ↓rL_m, wL_m, ↓rQ_m, wQ_m, ↓lI_m, pI_m, pL_m, pR_m, sI_m, sBy_m, sBo_m, sL_m, sQ_m, fst_m, true_and, and_true, tg_some, ln_some, uI_1, uI_2, uL_1, uL_2, uL_3, uQ_1, uQ_2, uQ_3, rv_i, rv_l, rv_n, rv_b0, rv_b1, RMR, ne_eq, reduceCtorEq, not_false_eq_true, Option.getD_some, if_true, if_false, and_self, false_and, and_false, Nat.add_left_cancel_iff, Nat.add_eq_left, Nat.left_eq_add, Nat.one_ne_zero, Nat.reduceAdd, Nat.reduceLT, Nat.reduceLeDiff, Nat.reduceEqDiff, true_implies, false_implies, implies_true, Option.some.injEq, forall_eq', forall_eq, reduceCtorEq, brT, brF, br_s, i_10, i_01, ib_0_2, ib_1_2, tn_0, tn_1, Int32.le_refl, eq_self, rv_bN, rv_iM, RCX 0, RCG 2, RCT 4, RCT 15, RCT 25, RCS 35, RCS 49, RCH 63, RCP 67, RCB 72, RCR 77, RCM 81, RLY, lit_at hw, RCT P, hT', p3, g_73 hT hτ.2.2.2.1 (by omega : τ 2 < 2147483648) hd, z, y]
      exact hQ
    · have x : ¬ a ≤ 9 := by
        intro q
        rw [i_lt, show (0 : Int32).toInt = 0 by decide] at y
        rw [i_le, show (9 : Int32).toInt = 9 by decide] at q
        exact hn ⟨z, by omega, by omega⟩
      simp only [↓br_pos, ↓br_neg, ↓rF_I, ↓rF_L, ↓rF_R, ↓rF_N, rO_m, rB_m, ↓rI_m, wI_m, ↓rB2_m, ↓rB3_m, wB2_m, wB3_m, ↓rL_m, wL_m, ↓rQ_m, wQ_m, ↓lI_m, pI_m, pL_m, pR_m, sI_m, sBy_m, sBo_m, sL_m, sQ_m, fst_m, true_and, and_true, tg_some, ln_some, uI_1, uI_2, uL_1, uL_2, uL_3, uQ_1, uQ_2, uQ_3, rv_i, rv_l, rv_n, rv_b0, rv_b1, RMR, ne_eq, reduceCtorEq, not_false_eq_true, Option.getD_some, if_true, if_false, and_self, false_and, and_false, Nat.add_left_cancel_iff, Nat.add_eq_left, Nat.left_eq_add, Nat.one_ne_zero, Nat.reduceAdd, Nat.reduceLT, Nat.reduceLeDiff, Nat.reduceEqDiff, true_implies, false_implies, implies_true, Option.some.injEq, forall_eq', forall_eq, reduceCtorEq, brT, brF, br_s, i_10, i_01, ib_0_2, ib_1_2, tn_0, tn_1, Int32.le_refl, eq_self, rv_bN, rv_iM, RCX 0, RCG 2, RCT 4, RCT 15, RCT 25, RCS 35, RCS 49, RCH 63, RCP 67, RCB 72, RCR 77, RCM 81, RLY, lit_at hw, RCT P, hT', p3, g_73 hT hτ.2.2.2.1 (by omega : τ 2 < 2147483648) hd, z, y, x]
      exact hQ
  · have z' : bN s (τ 2) = 0 := bN_01.resolve_right z
    simp only [↓br_pos, ↓br_neg, ↓rF_I, ↓rF_L, ↓rF_R, ↓rF_N, rO_m, rB_m, ↓rI_m, wI_m, ↓rB2_m, ↓rB3_m, wB2_m, wB3_m, ↓rL_m, wL_m, ↓rQ_m, wQ_m, ↓lI_m, pI_m, pL_m, pR_m, sI_m, sBy_m, sBo_m, sL_m, sQ_m, fst_m, true_and, and_true, tg_some, ln_some, uI_1, uI_2, uL_1, uL_2, uL_3, uQ_1, uQ_2, uQ_3, rv_i, rv_l, rv_n, rv_b0, rv_b1, RMR, ne_eq, reduceCtorEq, not_false_eq_true, Option.getD_some, if_true, if_false, and_self, false_and, and_false, Nat.add_left_cancel_iff, Nat.add_eq_left, Nat.left_eq_add, Nat.one_ne_zero, Nat.reduceAdd, Nat.reduceLT, Nat.reduceLeDiff, Nat.reduceEqDiff, true_implies, false_implies, implies_true, Option.some.injEq, forall_eq', forall_eq, reduceCtorEq, brT, brF, br_s, i_10, i_01, ib_0_2, ib_1_2, tn_0, tn_1, Int32.le_refl, eq_self, rv_bN, rv_iM, RCX 0, RCG 2, RCT 4, RCT 15, RCT 25, RCS 35, RCS 49, RCH 63, RCP 67, RCB 72, RCR 77, RCM 81, RLY, lit_at hw, RCT P, hT', p3, g_73 hT hτ.2.2.2.1 (by omega : τ 2 < 2147483648) hd, z']
    exact hQ
def shipV (τ ρ : Rw) (s a : Nat) : Int32 := if a < 6 then Int32.ofNat (τ (31 + 6 * s + a)) else if a = 6 then Int32.ofNat (ρ (27 + s)) else if a = 7 then Int32.ofNat (ρ (43 + s)) - 1 else if a = 8 then Int32.ofNat (lateD τ ρ s) else Int32.ofNat (lateD τ ρ s * τ (31 + 6 * s + 5))
theorem c_80 {w : mT} {σ : mS} {tp n : Nat} {t : Nat → Nat} {τ ρ : Rw} {bk : Nat → Rw} {has : Nat → Bool} {im : Nat → Rw} {s a : Nat} {D : Nat} {kr : Option Value → Hp → Prop} {kt : Hp → Prop} (h : cIn w σ tp t τ ρ n bk has im) (hs : s < τ 2) (ha : a ≤ 9) (hD : 2 ≤ D) : wpC D 80 [.ref 0, .int (Int32.ofNat s), .int (Int32.ofNat a)] (mW w σ) kr kt ↔ kr (some (.int (shipV τ ρ s a))) (mW w σ) := by
  have h' := h
  obtain ⟨hw, hS, hH, ⟨P, hP, p3, p4, hτ⟩, hρ, hv, hr, h1, htp, htb, ht⟩ := h
  have hT := isTP hw hP
  have hT' := hT
  simp only [isT] at hT'
  refine wpC_iff (m := 1) (r := some (some (.int (shipV τ ρ s a)))) (fun d hd Q hQ => ?_) rfl hD
  have v0 := hv.2.2.1
  have z := bN_on hs (by omega : τ 2 < 2147483648)
  have eb : inB (Int32.ofNat s) 8 = true := on_inB (by omega) (by omega)
  have en := on_nat (i := s) (by omega)
  obtain ⟨t0, t1, t2, t3, t4, t5⟩ := hτ.2.2.2.2.2.2 s hs
  have e6 : σ.1 40 s = Int32.ofNat (ρ (27 + s)) := tS_hT hρ hs
  have e7 : σ.1 42 s = Int32.ofNat (ρ (43 + s)) - 1 := tS_sa hρ hs
  have a0 := of_lt0 (a := a) (by omega)
  have a2 : (Int32.ofNat a ≤ (9 : Int32)) ↔ True := iff_true_intro ((on_le (j := 9) (by omega) (by omega)).mpr ha)
  have ai := on_int (i := a) (by omega)
  refine b80_0 ?_
  simp only [↓br_pos, ↓br_neg, ↓rF_I, ↓rF_L, ↓rF_R, ↓rF_N, rO_m, rB_m, ↓rI_m, wI_m, ↓rB2_m, ↓rB3_m, wB2_m, wB3_m, ↓rL_m, wL_m, ↓rQ_m, wQ_m, ↓lI_m, pI_m, pL_m, pR_m, sI_m, sBy_m, sBo_m, sL_m, sQ_m, fst_m, true_and, and_true, tg_some, ln_some, uI_1, uI_2, uL_1, uL_2, uL_3, uQ_1, uQ_2, uQ_3, rv_i, rv_l, rv_n, rv_b0, rv_b1, RMR, ne_eq, reduceCtorEq, not_false_eq_true, Option.getD_some, if_true, if_false, and_self, false_and, and_false, Nat.add_left_cancel_iff, Nat.add_eq_left, Nat.left_eq_add, Nat.one_ne_zero, Nat.reduceAdd, Nat.reduceLT, Nat.reduceLeDiff, Nat.reduceEqDiff, true_implies, false_implies, implies_true, Option.some.injEq, forall_eq', forall_eq, reduceCtorEq, brT, brF, br_s, i_10, i_01, ib_0_2, ib_1_2, tn_0, tn_1, Int32.le_refl, eq_self, rv_bN, rv_iM, RCX 0, RCG 2, RCT 4, RCT 15, RCT 25, RCS 35, RCS 49, RCH 63, RCP 67, RCB 72, RCR 77, RCM 81, RLY, lit_at hw, RCT P, hT', p3, g_73 hT hτ.2.2.2.1 (by omega : τ 2 < 2147483648) hd, z, a0, a2]
  refine sw80
    (fun e => by
      have ea : a = 0 := by omega
      subst ea
      have ev : shipV τ ρ s 0 = Int32.ofNat (τ (31 + 6 * s)) := rfl
      rw [ev] at hQ
      refine b80_80 ?_
      simp only [↓br_pos, ↓br_neg, ↓rF_I, ↓rF_L, ↓rF_R, ↓rF_N, rO_m, rB_m, ↓rI_m, wI_m, ↓rB2_m, ↓rB3_m, wB2_m, wB3_m, ↓rL_m, wL_m, ↓rQ_m, wQ_m, ↓lI_m, pI_m, pL_m, pR_m, sI_m, sBy_m, sBo_m, sL_m, sQ_m, fst_m, true_and, and_true, tg_some, ln_some, uI_1, uI_2, uL_1, uL_2, uL_3, uQ_1, uQ_2, uQ_3, rv_i, rv_l, rv_n, rv_b0, rv_b1, RMR, ne_eq, reduceCtorEq, not_false_eq_true, Option.getD_some, if_true, if_false, and_self, false_and, and_false, Nat.add_left_cancel_iff, Nat.add_eq_left, Nat.left_eq_add, Nat.one_ne_zero, Nat.reduceAdd, Nat.reduceLT, Nat.reduceLeDiff, Nat.reduceEqDiff, true_implies, false_implies, implies_true, Option.some.injEq, forall_eq', forall_eq, reduceCtorEq, brT, brF, br_s, i_10, i_01, ib_0_2, ib_1_2, tn_0, tn_1, Int32.le_refl, eq_self, rv_bN, rv_iM, RCX 0, RCG 2, RCT 4, RCT 15, RCT 25, RCS 35, RCS 49, RCH 63, RCP 67, RCB 72, RCR 77, RCM 81, RLY, lit_at hw, RCT P, hT', p3, eb, en, t0]
      exact hQ)
    (fun e => by
      have ea : a = 1 := by omega
      subst ea
      have ev : shipV τ ρ s 1 = Int32.ofNat (τ (31 + 6 * s + 1)) := rfl
      rw [ev] at hQ
      refine b80_90 ?_
      simp only [↓br_pos, ↓br_neg, ↓rF_I, ↓rF_L, ↓rF_R, ↓rF_N, rO_m, rB_m, ↓rI_m, wI_m, ↓rB2_m, ↓rB3_m, wB2_m, wB3_m, ↓rL_m, wL_m, ↓rQ_m, wQ_m, ↓lI_m, pI_m, pL_m, pR_m, sI_m, sBy_m, sBo_m, sL_m, sQ_m, fst_m, true_and, and_true, tg_some, ln_some, uI_1, uI_2, uL_1, uL_2, uL_3, uQ_1, uQ_2, uQ_3, rv_i, rv_l, rv_n, rv_b0, rv_b1, RMR, ne_eq, reduceCtorEq, not_false_eq_true, Option.getD_some, if_true, if_false, and_self, false_and, and_false, Nat.add_left_cancel_iff, Nat.add_eq_left, Nat.left_eq_add, Nat.one_ne_zero, Nat.reduceAdd, Nat.reduceLT, Nat.reduceLeDiff, Nat.reduceEqDiff, true_implies, false_implies, implies_true, Option.some.injEq, forall_eq', forall_eq, reduceCtorEq, brT, brF, br_s, i_10, i_01, ib_0_2, ib_1_2, tn_0, tn_1, Int32.le_refl, eq_self, rv_bN, rv_iM, RCX 0, RCG 2, RCT 4, RCT 15, RCT 25, RCS 35, RCS 49, RCH 63, RCP 67, RCB 72, RCR 77, RCM 81, RLY, lit_at hw, RCT P, hT', p3, eb, en, t1]
      exact hQ)
    (fun e => by
      have ea : a = 2 := by omega
      subst ea
      have ev : shipV τ ρ s 2 = Int32.ofNat (τ (31 + 6 * s + 2)) := rfl
      rw [ev] at hQ
      refine b80_100 ?_
      simp only [↓br_pos, ↓br_neg, ↓rF_I, ↓rF_L, ↓rF_R, ↓rF_N, rO_m, rB_m, ↓rI_m, wI_m, ↓rB2_m, ↓rB3_m, wB2_m, wB3_m, ↓rL_m, wL_m, ↓rQ_m, wQ_m, ↓lI_m, pI_m, pL_m, pR_m, sI_m, sBy_m, sBo_m, sL_m, sQ_m, fst_m, true_and, and_true, tg_some, ln_some, uI_1, uI_2, uL_1, uL_2, uL_3, uQ_1, uQ_2, uQ_3, rv_i, rv_l, rv_n, rv_b0, rv_b1, RMR, ne_eq, reduceCtorEq, not_false_eq_true, Option.getD_some, if_true, if_false, and_self, false_and, and_false, Nat.add_left_cancel_iff, Nat.add_eq_left, Nat.left_eq_add, Nat.one_ne_zero, Nat.reduceAdd, Nat.reduceLT, Nat.reduceLeDiff, Nat.reduceEqDiff, true_implies, false_implies, implies_true, Option.some.injEq, forall_eq', forall_eq, reduceCtorEq, brT, brF, br_s, i_10, i_01, ib_0_2, ib_1_2, tn_0, tn_1, Int32.le_refl, eq_self, rv_bN, rv_iM, RCX 0, RCG 2, RCT 4, RCT 15, RCT 25, RCS 35, RCS 49, RCH 63, RCP 67, RCB 72, RCR 77, RCM 81, RLY, lit_at hw, RCT P, hT', p3, eb, en, t2]
      exact hQ)
    (fun e => by
      have ea : a = 3 := by omega
      subst ea
      have ev : shipV τ ρ s 3 = Int32.ofNat (τ (31 + 6 * s + 3)) := rfl
      rw [ev] at hQ
      refine b80_110 ?_
      simp only [↓br_pos, ↓br_neg, ↓rF_I, ↓rF_L, ↓rF_R, ↓rF_N, rO_m, rB_m, ↓rI_m, wI_m, ↓rB2_m, ↓rB3_m, wB2_m, wB3_m, ↓rL_m, wL_m, ↓rQ_m, wQ_m, ↓lI_m, pI_m, pL_m, pR_m, sI_m, sBy_m, sBo_m, sL_m, sQ_m, fst_m, true_and, and_true, tg_some, ln_some, uI_1, uI_2, uL_1, uL_2, uL_3, uQ_1, uQ_2, uQ_3, rv_i, rv_l, rv_n, rv_b0, rv_b1, RMR, ne_eq, reduceCtorEq, not_false_eq_true, Option.getD_some, if_true, if_false, and_self, false_and, and_false, Nat.add_left_cancel_iff, Nat.add_eq_left, Nat.left_eq_add, Nat.one_ne_zero, Nat.reduceAdd, Nat.reduceLT, Nat.reduceLeDiff, Nat.reduceEqDiff, true_implies, false_implies, implies_true, Option.some.injEq, forall_eq', forall_eq, reduceCtorEq, brT, brF, br_s, i_10, i_01, ib_0_2, ib_1_2, tn_0, tn_1, Int32.le_refl, eq_self, rv_bN, rv_iM, RCX 0, RCG 2, RCT 4, RCT 15, RCT 25, RCS 35, RCS 49, RCH 63, RCP 67, RCB 72, RCR 77, RCM 81, RLY, lit_at hw, RCT P, hT', p3, eb, en, t3]
      exact hQ)
    (fun e => by
      have ea : a = 4 := by omega
      subst ea
      have ev : shipV τ ρ s 4 = Int32.ofNat (τ (31 + 6 * s + 4)) := rfl
      rw [ev] at hQ
      refine b80_120 ?_
      simp only [↓br_pos, ↓br_neg, ↓rF_I, ↓rF_L, ↓rF_R, ↓rF_N, rO_m, rB_m, ↓rI_m, wI_m, ↓rB2_m, ↓rB3_m, wB2_m, wB3_m, ↓rL_m, wL_m, ↓rQ_m, wQ_m, ↓lI_m, pI_m, pL_m, pR_m, sI_m, sBy_m, sBo_m, sL_m, sQ_m, fst_m, true_and, and_true, tg_some, ln_some, uI_1, uI_2, uL_1, uL_2, uL_3, uQ_1, uQ_2, uQ_3, rv_i, rv_l, rv_n, rv_b0, rv_b1, RMR, ne_eq, reduceCtorEq, not_false_eq_true, Option.getD_some, if_true, if_false, and_self, false_and, and_false, Nat.add_left_cancel_iff, Nat.add_eq_left, Nat.left_eq_add, Nat.one_ne_zero, Nat.reduceAdd, Nat.reduceLT, Nat.reduceLeDiff, Nat.reduceEqDiff, true_implies, false_implies, implies_true, Option.some.injEq, forall_eq', forall_eq, reduceCtorEq, brT, brF, br_s, i_10, i_01, ib_0_2, ib_1_2, tn_0, tn_1, Int32.le_refl, eq_self, rv_bN, rv_iM, RCX 0, RCG 2, RCT 4, RCT 15, RCT 25, RCS 35, RCS 49, RCH 63, RCP 67, RCB 72, RCR 77, RCM 81, RLY, lit_at hw, RCT P, hT', p3, eb, en, t4]
      exact hQ)
    (fun e => by
      have ea : a = 5 := by omega
      subst ea
      have ev : shipV τ ρ s 5 = Int32.ofNat (τ (31 + 6 * s + 5)) := rfl
      rw [ev] at hQ
      refine b80_130 ?_
      simp only [↓br_pos, ↓br_neg, ↓rF_I, ↓rF_L, ↓rF_R, ↓rF_N, rO_m, rB_m, ↓rI_m, wI_m, ↓rB2_m, ↓rB3_m, wB2_m, wB3_m, ↓rL_m, wL_m, ↓rQ_m, wQ_m, ↓lI_m, pI_m, pL_m, pR_m, sI_m, sBy_m, sBo_m, sL_m, sQ_m, fst_m, true_and, and_true, tg_some, ln_some, uI_1, uI_2, uL_1, uL_2, uL_3, uQ_1, uQ_2, uQ_3, rv_i, rv_l, rv_n, rv_b0, rv_b1, RMR, ne_eq, reduceCtorEq, not_false_eq_true, Option.getD_some, if_true, if_false, and_self, false_and, and_false, Nat.add_left_cancel_iff, Nat.add_eq_left, Nat.left_eq_add, Nat.one_ne_zero, Nat.reduceAdd, Nat.reduceLT, Nat.reduceLeDiff, Nat.reduceEqDiff, true_implies, false_implies, implies_true, Option.some.injEq, forall_eq', forall_eq, reduceCtorEq, brT, brF, br_s, i_10, i_01, ib_0_2, ib_1_2, tn_0, tn_1, Int32.le_refl, eq_self, rv_bN, rv_iM, RCX 0, RCG 2, RCT 4, RCT 15, RCT 25, RCS 35, RCS 49, RCH 63, RCP 67, RCB 72, RCR 77, RCM 81, RLY, lit_at hw, RCT P, hT', p3, eb, en, t5]
      exact hQ)
    (fun e => by
      have ea : a = 6 := by omega
      subst ea
      have ev : shipV τ ρ s 6 = Int32.ofNat (ρ (27 + s)) := rfl
      rw [ev] at hQ
      refine b80_140 ?_
      simp only [↓br_pos, ↓br_neg, ↓rF_I, ↓rF_L, ↓rF_R, ↓rF_N, rO_m, rB_m, ↓rI_m, wI_m, ↓rB2_m, ↓rB3_m, wB2_m, wB3_m, ↓rL_m, wL_m, ↓rQ_m, wQ_m, ↓lI_m, pI_m, pL_m, pR_m, sI_m, sBy_m, sBo_m, sL_m, sQ_m, fst_m, true_and, and_true, tg_some, ln_some, uI_1, uI_2, uL_1, uL_2, uL_3, uQ_1, uQ_2, uQ_3, rv_i, rv_l, rv_n, rv_b0, rv_b1, RMR, ne_eq, reduceCtorEq, not_false_eq_true, Option.getD_some, if_true, if_false, and_self, false_and, and_false, Nat.add_left_cancel_iff, Nat.add_eq_left, Nat.left_eq_add, Nat.one_ne_zero, Nat.reduceAdd, Nat.reduceLT, Nat.reduceLeDiff, Nat.reduceEqDiff, true_implies, false_implies, implies_true, Option.some.injEq, forall_eq', forall_eq, reduceCtorEq, brT, brF, br_s, i_10, i_01, ib_0_2, ib_1_2, tn_0, tn_1, Int32.le_refl, eq_self, rv_bN, rv_iM, RCX 0, RCG 2, RCT 4, RCT 15, RCT 25, RCS 35, RCS 49, RCH 63, RCP 67, RCB 72, RCR 77, RCM 81, RLY, lit_at hw, RCT P, hT', p3, eb, en, e6]
      exact hQ)
    (fun e => by
      have ea : a = 7 := by omega
      subst ea
      have ev : shipV τ ρ s 7 = Int32.ofNat (ρ (43 + s)) - 1 := rfl
      rw [ev] at hQ
      refine b80_150 ?_
      simp only [↓br_pos, ↓br_neg, ↓rF_I, ↓rF_L, ↓rF_R, ↓rF_N, rO_m, rB_m, ↓rI_m, wI_m, ↓rB2_m, ↓rB3_m, wB2_m, wB3_m, ↓rL_m, wL_m, ↓rQ_m, wQ_m, ↓lI_m, pI_m, pL_m, pR_m, sI_m, sBy_m, sBo_m, sL_m, sQ_m, fst_m, true_and, and_true, tg_some, ln_some, uI_1, uI_2, uL_1, uL_2, uL_3, uQ_1, uQ_2, uQ_3, rv_i, rv_l, rv_n, rv_b0, rv_b1, RMR, ne_eq, reduceCtorEq, not_false_eq_true, Option.getD_some, if_true, if_false, and_self, false_and, and_false, Nat.add_left_cancel_iff, Nat.add_eq_left, Nat.left_eq_add, Nat.one_ne_zero, Nat.reduceAdd, Nat.reduceLT, Nat.reduceLeDiff, Nat.reduceEqDiff, true_implies, false_implies, implies_true, Option.some.injEq, forall_eq', forall_eq, reduceCtorEq, brT, brF, br_s, i_10, i_01, ib_0_2, ib_1_2, tn_0, tn_1, Int32.le_refl, eq_self, rv_bN, rv_iM, RCX 0, RCG 2, RCT 4, RCT 15, RCT 25, RCS 35, RCS 49, RCH 63, RCP 67, RCB 72, RCR 77, RCM 81, RLY, lit_at hw, RCT P, hT', p3, eb, en, e7]
      exact hQ)
    (fun e => by
      have ea : a = 8 := by omega
      subst ea
      have ev : shipV τ ρ s 8 = Int32.ofNat (lateD τ ρ s) := rfl
      rw [ev] at hQ
      refine b80_160 ?_
      simp only [↓br_pos, ↓br_neg, ↓rF_I, ↓rF_L, ↓rF_R, ↓rF_N, rO_m, rB_m, ↓rI_m, wI_m, ↓rB2_m, ↓rB3_m, wB2_m, wB3_m, ↓rL_m, wL_m, ↓rQ_m, wQ_m, ↓lI_m, pI_m, pL_m, pR_m, sI_m, sBy_m, sBo_m, sL_m, sQ_m, fst_m, true_and, and_true, tg_some, ln_some, uI_1, uI_2, uL_1, uL_2, uL_3, uQ_1, uQ_2, uQ_3, rv_i, rv_l, rv_n, rv_b0, rv_b1, RMR, ne_eq, reduceCtorEq, not_false_eq_true, Option.getD_some, if_true, if_false, and_self, false_and, and_false, Nat.add_left_cancel_iff, Nat.add_eq_left, Nat.left_eq_add, Nat.one_ne_zero, Nat.reduceAdd, Nat.reduceLT, Nat.reduceLeDiff, Nat.reduceEqDiff, true_implies, false_implies, implies_true, Option.some.injEq, forall_eq', forall_eq, reduceCtorEq, brT, brF, br_s, i_10, i_01, ib_0_2, ib_1_2, tn_0, tn_1, Int32.le_refl, eq_self, rv_bN, rv_iM, RCX 0, RCG 2, RCT 4, RCT 15, RCT 25, RCS 35, RCS 49, RCH 63, RCP 67, RCB 72, RCR 77, RCM 81, RLY, lit_at hw, RCT P, hT', p3, eb, en, g_125 hw hP p3 hτ hv hρ hr hs hd]
      exact hQ)
    (fun e => by
      have ea : a = 9 := by omega
      subst ea
      have ev : shipV τ ρ s 9 = Int32.ofNat (lateD τ ρ s * τ (31 + 6 * s + 5)) := rfl
      rw [ev] at hQ
      refine b80_166 ?_
      simp only [↓br_pos, ↓br_neg, ↓rF_I, ↓rF_L, ↓rF_R, ↓rF_N, rO_m, rB_m, ↓rI_m, wI_m, ↓rB2_m, ↓rB3_m, wB2_m, wB3_m, ↓rL_m, wL_m, ↓rQ_m, wQ_m, ↓lI_m, pI_m, pL_m, pR_m, sI_m, sBy_m, sBo_m, sL_m, sQ_m, fst_m, true_and, and_true, tg_some, ln_some, uI_1, uI_2, uL_1, uL_2, uL_3, uQ_1, uQ_2, uQ_3, rv_i, rv_l, rv_n, rv_b0, rv_b1, RMR, ne_eq, reduceCtorEq, not_false_eq_true, Option.getD_some, if_true, if_false, and_self, false_and, and_false, Nat.add_left_cancel_iff, Nat.add_eq_left, Nat.left_eq_add, Nat.one_ne_zero, Nat.reduceAdd, Nat.reduceLT, Nat.reduceLeDiff, Nat.reduceEqDiff, true_implies, false_implies, implies_true, Option.some.injEq, forall_eq', forall_eq, reduceCtorEq, brT, brF, br_s, i_10, i_01, ib_0_2, ib_1_2, tn_0, tn_1, Int32.le_refl, eq_self, rv_bN, rv_iM, RCX 0, RCG 2, RCT 4, RCT 15, RCT 25, RCS 35, RCS 49, RCH 63, RCP 67, RCB 72, RCR 77, RCM 81, RLY, lit_at hw, RCT P, hT', p3, eb, en, g_125 hw hP p3 hτ hv hρ hr hs hd, t5, of_mul]
      exact hQ)
theorem c_81z {w : mT} {σ : mS} {tp n : Nat} {t : Nat → Nat} {τ ρ : Rw} {bk : Nat → Rw} {has : Nat → Bool} {im : Nat → Rw} {p a : Int32} {D : Nat} {K : Int32 → Hp → Prop} (h : cIn w σ tp t τ ρ n bk has im) (hn : ¬ (bN p (τ 1) = 1 ∧ 0 ≤ a.toInt ∧ a.toInt ≤ 2)) (hD : 4 ≤ D) : wpI D 81 [.ref 0, .int p, .int a] (mW w σ) K ↔ K (-2) (mW w σ) := by
  have h' := h
  obtain ⟨hw, hS, hH, ⟨P, hP, p3, p4, hτ⟩, hρ, hv, hr, h1, htp, htb, ht⟩ := h
  have hT := isTP hw hP
  have hT' := hT
  simp only [isT] at hT'
  refine cI_of (m := 3) (fun d hd Q hQ => ?_) rfl hD
  have hd1 : 1 ≤ d := by omega
  have v1 := hv.2.1
  refine b81_0 ?_
  by_cases z : bN p (τ 1) = 1
  · by_cases y : a < 0
    · simp only [↓br_pos, ↓br_neg, ↓rF_I, ↓rF_L, ↓rF_R, ↓rF_N, rO_m, rB_m, ↓rI_m, wI_m, ↓rB2_m, ↓rB3_m, wB2_m, wB3_m, ↓rL_m, wL_m, ↓rQ_m, wQ_m, ↓lI_m, pI_m, pL_m, pR_m, sI_m, sBy_m, sBo_m, sL_m, sQ_m, fst_m, true_and, and_true, tg_some, ln_some, uI_1, uI_2, uL_1, uL_2, uL_3, uQ_1, uQ_2, uQ_3, rv_i, rv_l, rv_n, rv_b0, rv_b1, RMR, ne_eq, reduceCtorEq, not_false_eq_true, Option.getD_some, if_true, if_false, and_self, false_and, and_false, Nat.add_left_cancel_iff, Nat.add_eq_left, Nat.left_eq_add, Nat.one_ne_zero, Nat.reduceAdd, Nat.reduceLT, Nat.reduceLeDiff, Nat.reduceEqDiff, true_implies, false_implies, implies_true, Option.some.injEq, forall_eq', forall_eq, reduceCtorEq, brT, brF, br_s, i_10, i_01, ib_0_2, ib_1_2, tn_0, tn_1, Int32.le_refl, eq_self, rv_bN, rv_iM, RCX 0, RCG 2, RCT 4, RCT 15, RCT 25, RCS 35, RCS 49, RCH 63, RCP 67, RCB 72, RCR 77, RCM 81, RLY, lit_at hw, RCT P, hT', p3, g_71 hT hτ.2.2.1 (by omega : τ 1 < 2147483648) hd1, z, y]
      exact hQ
    · have x : ¬ a ≤ 2 := by
        intro q
        rw [i_lt, show (0 : Int32).toInt = 0 by decide] at y
        rw [i_le, show (2 : Int32).toInt = 2 by decide] at q
        exact hn ⟨z, by omega, by omega⟩
      simp only [↓br_pos, ↓br_neg, ↓rF_I, ↓rF_L, ↓rF_R, ↓rF_N, rO_m, rB_m, ↓rI_m, wI_m, ↓rB2_m, ↓rB3_m, wB2_m, wB3_m, ↓rL_m, wL_m, ↓rQ_m, wQ_m, ↓lI_m, pI_m, pL_m, pR_m, sI_m, sBy_m, sBo_m, sL_m, sQ_m, fst_m, true_and, and_true, tg_some, ln_some, uI_1, uI_2, uL_1, uL_2, uL_3, uQ_1, uQ_2, uQ_3, rv_i, rv_l, rv_n, rv_b0, rv_b1, RMR, ne_eq, reduceCtorEq, not_false_eq_true, Option.getD_some, if_true, if_false, and_self, false_and, and_false, Nat.add_left_cancel_iff, Nat.add_eq_left, Nat.left_eq_add, Nat.one_ne_zero, Nat.reduceAdd, Nat.reduceLT, Nat.reduceLeDiff, Nat.reduceEqDiff, true_implies, false_implies, implies_true, Option.some.injEq, forall_eq', forall_eq, reduceCtorEq, brT, brF, br_s, i_10, i_01, ib_0_2, ib_1_2, tn_0, tn_1, Int32.le_refl, eq_self, rv_bN, rv_iM, RCX 0, RCG 2, RCT 4, RCT 15, RCT 25, RCS 35, RCS 49, RCH 63, RCP 67, RCB 72, RCR 77, RCM 81, RLY, lit_at hw, RCT P, hT', p3, g_71 hT hτ.2.2.1 (by omega : τ 1 < 2147483648) hd1, z, y, x]
      exact hQ
  · have z' : bN p (τ 1) = 0 := bN_01.resolve_right z
    simp only [↓br_pos, ↓br_neg, ↓rF_I, ↓rF_L, ↓rF_R, ↓rF_N, rO_m, rB_m, ↓rI_m, wI_m, ↓rB2_m, ↓rB3_m, wB2_m, wB3_m, ↓rL_m, wL_m, ↓rQ_m, wQ_m, ↓lI_m, pI_m, pL_m, pR_m, sI_m, sBy_m, sBo_m, sL_m, sQ_m, fst_m, true_and, and_true, tg_some, ln_some, uI_1, uI_2, uL_1, uL_2, uL_3, uQ_1, uQ_2, uQ_3, rv_i, rv_l, rv_n, rv_b0, rv_b1, RMR, ne_eq, reduceCtorEq, not_false_eq_true, Option.getD_some, if_true, if_false, and_self, false_and, and_false, Nat.add_left_cancel_iff, Nat.add_eq_left, Nat.left_eq_add, Nat.one_ne_zero, Nat.reduceAdd, Nat.reduceLT, Nat.reduceLeDiff, Nat.reduceEqDiff, true_implies, false_implies, implies_true, Option.some.injEq, forall_eq', forall_eq, reduceCtorEq, brT, brF, br_s, i_10, i_01, ib_0_2, ib_1_2, tn_0, tn_1, Int32.le_refl, eq_self, rv_bN, rv_iM, RCX 0, RCG 2, RCT 4, RCT 15, RCT 25, RCS 35, RCS 49, RCH 63, RCP 67, RCB 72, RCR 77, RCM 81, RLY, lit_at hw, RCT P, hT', p3, g_71 hT hτ.2.2.1 (by omega : τ 1 < 2147483648) hd1, z']
    exact hQ
def pileV (τ ρ : Rw) (p a : Nat) : Nat := if a = 0 then τ (28 + p) else if a = 1 then ρ (24 + p) else tPi τ ρ p
theorem c_81 {w : mT} {σ : mS} {tp n : Nat} {t : Nat → Nat} {τ ρ : Rw} {bk : Nat → Rw} {has : Nat → Bool} {im : Nat → Rw} {p a : Nat} {D : Nat} {K : Int32 → Hp → Prop} (h : cIn w σ tp t τ ρ n bk has im) (hp : p < τ 1) (ha : a ≤ 2) (hD : 4 ≤ D) : wpI D 81 [.ref 0, .int (Int32.ofNat p), .int (Int32.ofNat a)] (mW w σ) K ↔ K (Int32.ofNat (pileV τ ρ p a)) (mW w σ) := by
  have h' := h
  obtain ⟨hw, hS, hH, ⟨P, hP, p3, p4, hτ⟩, hρ, hv, hr, h1, htp, htb, ht⟩ := h
  have hT := isTP hw hP
  have hT' := hT
  simp only [isT] at hT'
  refine cI_of (m := 3) (fun d hd Q hQ => ?_) rfl hD
  have hd1 : 1 ≤ d := by omega
  have v1 := hv.2.1
  have z := bN_on hp (by omega : τ 1 < 2147483648)
  have eb : inB (Int32.ofNat p) 3 = true := on_inB (by omega) (by omega)
  have en := on_nat (i := p) (by omega)
  have e1 := hτ.2.2.2.2.2.1 p hp
  have e2 : σ.1 37 p = Int32.ofNat (ρ (24 + p)) := tS_la hρ (by omega)
  have a0 := of_lt0 (a := a) (by omega)
  have a2 : (Int32.ofNat a ≤ (2 : Int32)) ↔ True := iff_true_intro ((on_le (j := 2) (by omega) (by omega)).mpr ha)
  have e58 := fun {K : Int32 → Hp → Prop} => g_58 (K := K) (isS35 hw) hT hρ hτ hv hr hp hd
  refine b81_0 ?_
  have : a = 0 ∨ a = 1 ∨ a = 2 := by omega
  rcases this with rfl | rfl | rfl
  · have c0 : (Int32.ofNat 0 = (0 : Int32)) ↔ True := by decide
    simp only [↓br_pos, ↓br_neg, ↓rF_I, ↓rF_L, ↓rF_R, ↓rF_N, rO_m, rB_m, ↓rI_m, wI_m, ↓rB2_m, ↓rB3_m, wB2_m, wB3_m, ↓rL_m, wL_m, ↓rQ_m, wQ_m, ↓lI_m, pI_m, pL_m, pR_m, sI_m, sBy_m, sBo_m, sL_m, sQ_m, fst_m, true_and, and_true, tg_some, ln_some, uI_1, uI_2, uL_1, uL_2, uL_3, uQ_1, uQ_2, uQ_3, rv_i, rv_l, rv_n, rv_b0, rv_b1, RMR, ne_eq, reduceCtorEq, not_false_eq_true, Option.getD_some, if_true, if_false, and_self, false_and, and_false, Nat.add_left_cancel_iff, Nat.add_eq_left, Nat.left_eq_add, Nat.one_ne_zero, Nat.reduceAdd, Nat.reduceLT, Nat.reduceLeDiff, Nat.reduceEqDiff, true_implies, false_implies, implies_true, Option.some.injEq, forall_eq', forall_eq, reduceCtorEq, brT, brF, br_s, i_10, i_01, ib_0_2, ib_1_2, tn_0, tn_1, Int32.le_refl, eq_self, rv_bN, rv_iM, RCX 0, RCG 2, RCT 4, RCT 15, RCT 25, RCS 35, RCS 49, RCH 63, RCP 67, RCB 72, RCR 77, RCM 81, RLY, lit_at hw, RCT P, hT', p3, g_71 hT hτ.2.2.1 (by omega : τ 1 < 2147483648) hd1, z, a0, a2, c0, eb, en, e1]
    exact hQ
  · have c0 : (Int32.ofNat 1 = (0 : Int32)) ↔ False := by decide
    have c1 : (Int32.ofNat 1 = (1 : Int32)) ↔ True := by decide
    simp only [↓br_pos, ↓br_neg, ↓rF_I, ↓rF_L, ↓rF_R, ↓rF_N, rO_m, rB_m, ↓rI_m, wI_m, ↓rB2_m, ↓rB3_m, wB2_m, wB3_m, ↓rL_m, wL_m, ↓rQ_m, wQ_m, ↓lI_m, pI_m, pL_m, pR_m, sI_m, sBy_m, sBo_m, sL_m, sQ_m, fst_m, true_and, and_true, tg_some, ln_some, uI_1, uI_2, uL_1, uL_2, uL_3, uQ_1, uQ_2, uQ_3, rv_i, rv_l, rv_n, rv_b0, rv_b1, RMR, ne_eq, reduceCtorEq, not_false_eq_true, Option.getD_some, if_true, if_false, and_self, false_and, and_false, Nat.add_left_cancel_iff, Nat.add_eq_left, Nat.left_eq_add, Nat.one_ne_zero, Nat.reduceAdd, Nat.reduceLT, Nat.reduceLeDiff, Nat.reduceEqDiff, true_implies, false_implies, implies_true, Option.some.injEq, forall_eq', forall_eq, reduceCtorEq, brT, brF, br_s, i_10, i_01, ib_0_2, ib_1_2, tn_0, tn_1, Int32.le_refl, eq_self, rv_bN, rv_iM, RCX 0, RCG 2, RCT 4, RCT 15, RCT 25, RCS 35, RCS 49, RCH 63, RCP 67, RCB 72, RCR 77, RCM 81, RLY, lit_at hw, RCT P, hT', p3, g_71 hT hτ.2.2.1 (by omega : τ 1 < 2147483648) hd1, z, a0, a2, c0, c1, eb, en, e2]
    exact hQ
  · have c0 : (Int32.ofNat 2 = (0 : Int32)) ↔ False := by decide
    have c1 : (Int32.ofNat 2 = (1 : Int32)) ↔ False := by decide
    simp only [↓br_pos, ↓br_neg, ↓rF_I, ↓rF_L, ↓rF_R, ↓rF_N, rO_m, rB_m, ↓rI_m, wI_m, ↓rB2_m, ↓rB3_m, wB2_m, wB3_m, ↓rL_m, wL_m, ↓rQ_m, wQ_m, ↓lI_m, pI_m, pL_m, pR_m, sI_m, sBy_m, sBo_m, sL_m, sQ_m, fst_m, true_and, and_true, tg_some, ln_some, uI_1, uI_2, uL_1, uL_2, uL_3, uQ_1, uQ_2, uQ_3, rv_i, rv_l, rv_n, rv_b0, rv_b1, RMR, ne_eq, reduceCtorEq, not_false_eq_true, Option.getD_some, if_true, if_false, and_self, false_and, and_false, Nat.add_left_cancel_iff, Nat.add_eq_left, Nat.left_eq_add, Nat.one_ne_zero, Nat.reduceAdd, Nat.reduceLT, Nat.reduceLeDiff, Nat.reduceEqDiff, true_implies, false_implies, implies_true, Option.some.injEq, forall_eq', forall_eq, reduceCtorEq, brT, brF, br_s, i_10, i_01, ib_0_2, ib_1_2, tn_0, tn_1, Int32.le_refl, eq_self, rv_bN, rv_iM, RCX 0, RCG 2, RCT 4, RCT 15, RCT 25, RCS 35, RCS 49, RCH 63, RCP 67, RCB 72, RCR 77, RCM 81, RLY, lit_at hw, RCT P, hT', p3, g_71 hT hτ.2.2.1 (by omega : τ 1 < 2147483648) hd1, z, a0, a2, c0, c1, e58]
    exact hQ
theorem c_83z {w : mT} {σ : mS} {tp n : Nat} {t : Nat → Nat} {τ ρ : Rw} {bk : Nat → Rw} {has : Nat → Bool} {im : Nat → Rw} {p k c : Int32} {D : Nat} {K : Int32 → Hp → Prop} (h : cIn w σ tp t τ ρ n bk has im) (hn : ¬ (laP τ ρ p k ∧ bC τ p c = 1)) (hD : 3 ≤ D) : wpI D 83 [.ref 0, .int p, .int k, .int c] (mW w σ) K ↔ K (-2) (mW w σ) := by
  have h' := h
  obtain ⟨hw, hS, hH, ⟨P, hP, p3, p4, hτ⟩, hρ, hv, hr, h1, htp, htb, ht⟩ := h
  have hT := isTP hw hP
  have hT' := hT
  simp only [isT] at hT'
  refine cI_of (m := 2) (fun d hd Q hQ => ?_) rfl hD
  refine b83_0 ?_
  by_cases z : laP τ ρ p k
  · have ez : iB (laP τ ρ p k) = 1 := iB_t z
    have y : bC τ p c = 0 := bC_01.resolve_right (fun q => hn ⟨z, q⟩)
    simp only [↓br_pos, ↓br_neg, ↓rF_I, ↓rF_L, ↓rF_R, ↓rF_N, rO_m, rB_m, ↓rI_m, wI_m, ↓rB2_m, ↓rB3_m, wB2_m, wB3_m, ↓rL_m, wL_m, ↓rQ_m, wQ_m, ↓lI_m, pI_m, pL_m, pR_m, sI_m, sBy_m, sBo_m, sL_m, sQ_m, fst_m, true_and, and_true, tg_some, ln_some, uI_1, uI_2, uL_1, uL_2, uL_3, uQ_1, uQ_2, uQ_3, rv_i, rv_l, rv_n, rv_b0, rv_b1, RMR, ne_eq, reduceCtorEq, not_false_eq_true, Option.getD_some, if_true, if_false, and_self, false_and, and_false, Nat.add_left_cancel_iff, Nat.add_eq_left, Nat.left_eq_add, Nat.one_ne_zero, Nat.reduceAdd, Nat.reduceLT, Nat.reduceLeDiff, Nat.reduceEqDiff, true_implies, false_implies, implies_true, Option.some.injEq, forall_eq', forall_eq, reduceCtorEq, brT, brF, br_s, i_10, i_01, ib_0_2, ib_1_2, tn_0, tn_1, Int32.le_refl, eq_self, rv_bN, rv_iM, RCX 0, RCG 2, RCT 4, RCT 15, RCT 25, RCS 35, RCS 49, RCH 63, RCP 67, RCB 72, RCR 77, RCM 81, RLY, lit_at hw, RCT P, hT', p3, g_120 hw hP p3 hτ hv hρ hr hd, ez, g_72 hT hτ hv hd, y]
    exact hQ
  · have ez : iB (laP τ ρ p k) = 0 := iB_f z
    simp only [↓br_pos, ↓br_neg, ↓rF_I, ↓rF_L, ↓rF_R, ↓rF_N, rO_m, rB_m, ↓rI_m, wI_m, ↓rB2_m, ↓rB3_m, wB2_m, wB3_m, ↓rL_m, wL_m, ↓rQ_m, wQ_m, ↓lI_m, pI_m, pL_m, pR_m, sI_m, sBy_m, sBo_m, sL_m, sQ_m, fst_m, true_and, and_true, tg_some, ln_some, uI_1, uI_2, uL_1, uL_2, uL_3, uQ_1, uQ_2, uQ_3, rv_i, rv_l, rv_n, rv_b0, rv_b1, RMR, ne_eq, reduceCtorEq, not_false_eq_true, Option.getD_some, if_true, if_false, and_self, false_and, and_false, Nat.add_left_cancel_iff, Nat.add_eq_left, Nat.left_eq_add, Nat.one_ne_zero, Nat.reduceAdd, Nat.reduceLT, Nat.reduceLeDiff, Nat.reduceEqDiff, true_implies, false_implies, implies_true, Option.some.injEq, forall_eq', forall_eq, reduceCtorEq, brT, brF, br_s, i_10, i_01, ib_0_2, ib_1_2, tn_0, tn_1, Int32.le_refl, eq_self, rv_bN, rv_iM, RCX 0, RCG 2, RCT 4, RCT 15, RCT 25, RCS 35, RCS 49, RCH 63, RCP 67, RCB 72, RCR 77, RCM 81, RLY, lit_at hw, RCT P, hT', p3, g_120 hw hP p3 hτ hv hρ hr hd, ez]
    exact hQ
theorem laP_of {τ ρ : Rw} {p k : Nat} (hv : vTold τ) (hr : vRow τ ρ) (hp : p < τ 1) (hk : k < ρ (24 + p)) : laP τ ρ (Int32.ofNat p) (Int32.ofNat k) := by
  have v1 := hv.2.1
  have h60 := vR_la hr p (by omega)
  refine ⟨bN_on hp (by omega), ?_, ?_⟩
  · rw [on_int (by omega)]; omega
  · rw [on_int (by omega), on_nat (by omega)]; omega
theorem c_83 {w : mT} {σ : mS} {tp n : Nat} {t : Nat → Nat} {τ ρ : Rw} {bk : Nat → Rw} {has : Nat → Bool} {im : Nat → Rw} {p k c : Nat} {D : Nat} {K : Int32 → Hp → Prop} (h : cIn w σ tp t τ ρ n bk has im) (hp : p < τ 1) (hk : k < ρ (24 + p)) (hc : c < τ (28 + p)) (hD : 3 ≤ D) : wpI D 83 [.ref 0, .int (Int32.ofNat p), .int (Int32.ofNat k), .int (Int32.ofNat c)] (mW w σ) K ↔ K (Int32.ofNat (ρ (li p k c))) (mW w σ) := by
  have h' := h
  obtain ⟨hw, hS, hH, ⟨P, hP, p3, p4, hτ⟩, hρ, hv, hr, h1, htp, htb, ht⟩ := h
  have hT := isTP hw hP
  have hT' := hT
  simp only [isT] at hT'
  refine cI_of (m := 2) (fun d hd Q hQ => ?_) rfl hD
  have hd1 : 1 ≤ d := by omega
  have v1 := hv.2.1
  have v2 := (hv.2.2.2.2.2.1 p hp).2
  have h60 := vR_la hr p (by omega)
  have ez : iB (laP τ ρ (Int32.ofNat p) (Int32.ofNat k)) = 1 := iB_t (laP_of hv hr hp hk)
  have y := bC_t hp hv hc
  have e2 : σ.1 39 ((p * 60 + k) * 12 + c) = Int32.ofNat (ρ (li p k c)) := tS_li hρ (by omega) hk (by omega)
  have eb2 : inB (Int32.ofNat ((p * 60 + k) * 12 + c)) 2160 = true := on_inB (by omega) (by omega)
  have en2 := on_nat (i := (p * 60 + k) * 12 + c) (by omega)
  refine b83_0 ?_
  simp only [↓br_pos, ↓br_neg, ↓rF_I, ↓rF_L, ↓rF_R, ↓rF_N, rO_m, rB_m, ↓rI_m, wI_m, ↓rB2_m, ↓rB3_m, wB2_m, wB3_m, ↓rL_m, wL_m, ↓rQ_m, wQ_m, ↓lI_m, pI_m, pL_m, pR_m, sI_m, sBy_m, sBo_m, sL_m, sQ_m, fst_m, true_and, and_true, tg_some, ln_some, uI_1, uI_2, uL_1, uL_2, uL_3, uQ_1, uQ_2, uQ_3, rv_i, rv_l, rv_n, rv_b0, rv_b1, RMR, ne_eq, reduceCtorEq, not_false_eq_true, Option.getD_some, if_true, if_false, and_self, false_and, and_false, Nat.add_left_cancel_iff, Nat.add_eq_left, Nat.left_eq_add, Nat.one_ne_zero, Nat.reduceAdd, Nat.reduceLT, Nat.reduceLeDiff, Nat.reduceEqDiff, true_implies, false_implies, implies_true, Option.some.injEq, forall_eq', forall_eq, reduceCtorEq, brT, brF, br_s, i_10, i_01, ib_0_2, ib_1_2, tn_0, tn_1, Int32.le_refl, eq_self, rv_bN, rv_iM, RCX 0, RCG 2, RCT 4, RCT 15, RCT 25, RCS 35, RCS 49, RCH 63, RCP 67, RCB 72, RCR 77, RCM 81, RLY, lit_at hw, RCT P, hT', p3, g_120 hw hP p3 hτ hv hρ hr hd, ez, g_72 hT hτ hv hd, y, g_51 hd1, pl_of, eb2, en2, e2]
  exact hQ
theorem c_84z {w : mT} {σ : mS} {a : Int32} {D : Nat} {K : Int32 → Hp → Prop} (ha : bN a 2 ≠ 1) (hD : 2 ≤ D) : wpI D 84 [.ref 0, .int a] (mW w σ) K ↔ K (-2) (mW w σ) := by
  refine cI_of (m := 1) (fun d hd Q hQ => ?_) rfl hD
  have z' : bN a 2 = 0 := bN_01.resolve_right ha
  refine b84_0 ?_
  simp only [↓br_pos, ↓br_neg, ↓rF_I, ↓rF_L, ↓rF_R, ↓rF_N, rO_m, rB_m, ↓rI_m, wI_m, ↓rB2_m, ↓rB3_m, wB2_m, wB3_m, ↓rL_m, wL_m, ↓rQ_m, wQ_m, ↓lI_m, pI_m, pL_m, pR_m, sI_m, sBy_m, sBo_m, sL_m, sQ_m, fst_m, true_and, and_true, tg_some, ln_some, uI_1, uI_2, uL_1, uL_2, uL_3, uQ_1, uQ_2, uQ_3, rv_i, rv_l, rv_n, rv_b0, rv_b1, RMR, ne_eq, reduceCtorEq, not_false_eq_true, Option.getD_some, if_true, if_false, and_self, false_and, and_false, Nat.add_left_cancel_iff, Nat.add_eq_left, Nat.left_eq_add, Nat.one_ne_zero, Nat.reduceAdd, Nat.reduceLT, Nat.reduceLeDiff, Nat.reduceEqDiff, true_implies, false_implies, implies_true, Option.some.injEq, forall_eq', forall_eq, reduceCtorEq, brT, brF, br_s, i_10, i_01, ib_0_2, ib_1_2, tn_0, tn_1, Int32.le_refl, eq_self, rv_bN, rv_iM, g_118 hd, z']
  exact hQ
theorem c_84 {w : mT} {σ : mS} {tp n : Nat} {t : Nat → Nat} {τ ρ : Rw} {bk : Nat → Rw} {has : Nat → Bool} {im : Nat → Rw} {m : Nat} {D : Nat} {K : Int32 → Hp → Prop} (h : cIn w σ tp t τ ρ n bk has im) (hm : m < 2) (hD : 2 ≤ D) : wpI D 84 [.ref 0, .int (Int32.ofNat m)] (mW w σ) K ↔ K (Int32.ofNat (ρ (2 + m)) - 1) (mW w σ) := by
  have h' := h
  obtain ⟨hw, hS, hH, ⟨P, hP, p3, p4, hτ⟩, hρ, hv, hr, h1, htp, htb, ht⟩ := h
  have hT := isTP hw hP
  have hT' := hT
  simp only [isT] at hT'
  refine cI_of (m := 1) (fun d hd Q hQ => ?_) rfl hD
  have z : bN (Int32.ofNat m) 2 = 1 := bN_on hm (by omega)
  have en := on_nat (i := m) (by omega)
  have eb : inB (Int32.ofNat m) 2 = true := on_inB hm (by omega)
  have es : σ.1 43 m = Int32.ofNat (ρ (2 + m)) - 1 := tS_st hρ hm
  refine b84_0 ?_
  simp only [↓br_pos, ↓br_neg, ↓rF_I, ↓rF_L, ↓rF_R, ↓rF_N, rO_m, rB_m, ↓rI_m, wI_m, ↓rB2_m, ↓rB3_m, wB2_m, wB3_m, ↓rL_m, wL_m, ↓rQ_m, wQ_m, ↓lI_m, pI_m, pL_m, pR_m, sI_m, sBy_m, sBo_m, sL_m, sQ_m, fst_m, true_and, and_true, tg_some, ln_some, uI_1, uI_2, uL_1, uL_2, uL_3, uQ_1, uQ_2, uQ_3, rv_i, rv_l, rv_n, rv_b0, rv_b1, RMR, ne_eq, reduceCtorEq, not_false_eq_true, Option.getD_some, if_true, if_false, and_self, false_and, and_false, Nat.add_left_cancel_iff, Nat.add_eq_left, Nat.left_eq_add, Nat.one_ne_zero, Nat.reduceAdd, Nat.reduceLT, Nat.reduceLeDiff, Nat.reduceEqDiff, true_implies, false_implies, implies_true, Option.some.injEq, forall_eq', forall_eq, reduceCtorEq, brT, brF, br_s, i_10, i_01, ib_0_2, ib_1_2, tn_0, tn_1, Int32.le_refl, eq_self, rv_bN, rv_iM, RCX 0, RCG 2, RCT 4, RCT 15, RCT 25, RCS 35, RCS 49, RCH 63, RCP 67, RCB 72, RCR 77, RCM 81, RLY, lit_at hw, g_118 hd, z, eb, en, es]
  exact hQ
abbrev apaP (ρ : Rw) : Prop := ρ 2 ≠ 0 ∧ ρ 3 ≠ 0 ∧ (ρ 2 - 1) / 100 = (ρ 3 - 1) / 100
theorem c_85 {w : mT} {σ : mS} {tp n : Nat} {t : Nat → Nat} {τ ρ : Rw} {bk : Nat → Rw} {has : Nat → Bool} {im : Nat → Rw} {D : Nat} {K : Int32 → Hp → Prop} (h : cIn w σ tp t τ ρ n bk has im) (hD : 2 ≤ D) : wpI D 85 [.ref 0] (mW w σ) K ↔ K (if apaP ρ then Int32.ofNat (dist (cellAt ρ 0) (cellAt ρ 1)) else -2) (mW w σ) := by
  have h' := h
  obtain ⟨hw, hS, hH, ⟨P, hP, p3, p4, hτ⟩, hρ, hv, hr, h1, htp, htb, ht⟩ := h
  have hT := isTP hw hP
  have hT' := hT
  simp only [isT] at hT'
  refine cI_of (m := 1) (fun d hd Q hQ => ?_) rfl hD
  have hs0 := onP_lt hv (vR_on hr (by omega : 0 < 2))
  have hs1 := onP_lt hv (vR_on hr (by omega : 1 < 2))
  have s0 : ρ 2 < 1000 := hs0
  have s1 : ρ 3 < 1000 := hs1
  have e52 : ∀ {K : Int32 → Hp → Prop}, wpI d 52 [.ref 35, .int (0 : Int32)] (mW w σ) K ↔ K (sP ρ 0) (mW w σ) := fun {K} => g_52 (m := 0) (isS35 hw) hρ (by omega) hs0 hd
  have f52 : ∀ {K : Int32 → Hp → Prop}, wpI d 52 [.ref 35, .int (1 : Int32)] (mW w σ) K ↔ K (sP ρ 1) (mW w σ) := fun {K} => g_52 (m := 1) (isS35 hw) hρ (by omega) hs1 hd
  have e53 : ∀ {K : Int32 → Hp → Prop}, wpI d 53 [.ref 35, .int (0 : Int32)] (mW w σ) K ↔ K (sCe ρ 0) (mW w σ) := fun {K} => g_53 (m := 0) (isS35 hw) hρ (by omega) hs0 hd
  have f53 : ∀ {K : Int32 → Hp → Prop}, wpI d 53 [.ref 35, .int (1 : Int32)] (mW w σ) K ↔ K (sCe ρ 1) (mW w σ) := fun {K} => g_53 (m := 1) (isS35 hw) hρ (by omega) hs1 hd
  refine b85_0 ?_
  by_cases a : ρ 2 = 0
  · rw [if_neg (fun q => q.1 a)] at hQ
    have x0 : sP ρ 0 = -1 := if_pos a
    simp only [↓br_pos, ↓br_neg, ↓rF_I, ↓rF_L, ↓rF_R, ↓rF_N, rO_m, rB_m, ↓rI_m, wI_m, ↓rB2_m, ↓rB3_m, wB2_m, wB3_m, ↓rL_m, wL_m, ↓rQ_m, wQ_m, ↓lI_m, pI_m, pL_m, pR_m, sI_m, sBy_m, sBo_m, sL_m, sQ_m, fst_m, true_and, and_true, tg_some, ln_some, uI_1, uI_2, uL_1, uL_2, uL_3, uQ_1, uQ_2, uQ_3, rv_i, rv_l, rv_n, rv_b0, rv_b1, RMR, ne_eq, reduceCtorEq, not_false_eq_true, Option.getD_some, if_true, if_false, and_self, false_and, and_false, Nat.add_left_cancel_iff, Nat.add_eq_left, Nat.left_eq_add, Nat.one_ne_zero, Nat.reduceAdd, Nat.reduceLT, Nat.reduceLeDiff, Nat.reduceEqDiff, true_implies, false_implies, implies_true, Option.some.injEq, forall_eq', forall_eq, reduceCtorEq, brT, brF, br_s, i_10, i_01, ib_0_2, ib_1_2, tn_0, tn_1, Int32.le_refl, eq_self, rv_bN, rv_iM, RCX 0, RCG 2, RCT 4, RCT 15, RCT 25, RCS 35, RCS 49, RCH 63, RCP 67, RCB 72, RCR 77, RCM 81, RLY, lit_at hw, e52, x0]
    exact hQ
  · have x0 : sP ρ 0 = Int32.ofNat ((ρ 2 - 1) / 100) := if_neg a
    have n0 := on_m1 (a := (ρ 2 - 1) / 100) (by omega)
    by_cases b : ρ 3 = 0
    · rw [if_neg (fun q => q.2.1 b)] at hQ
      have x1 : sP ρ 1 = -1 := if_pos b
      have n1 : ((-1 : Int32) = Int32.ofNat ((ρ 2 - 1) / 100)) ↔ False := iff_false_intro (fun q => n0.mp q.symm)
      simp only [↓br_pos, ↓br_neg, ↓rF_I, ↓rF_L, ↓rF_R, ↓rF_N, rO_m, rB_m, ↓rI_m, wI_m, ↓rB2_m, ↓rB3_m, wB2_m, wB3_m, ↓rL_m, wL_m, ↓rQ_m, wQ_m, ↓lI_m, pI_m, pL_m, pR_m, sI_m, sBy_m, sBo_m, sL_m, sQ_m, fst_m, true_and, and_true, tg_some, ln_some, uI_1, uI_2, uL_1, uL_2, uL_3, uQ_1, uQ_2, uQ_3, rv_i, rv_l, rv_n, rv_b0, rv_b1, RMR, ne_eq, reduceCtorEq, not_false_eq_true, Option.getD_some, if_true, if_false, and_self, false_and, and_false, Nat.add_left_cancel_iff, Nat.add_eq_left, Nat.left_eq_add, Nat.one_ne_zero, Nat.reduceAdd, Nat.reduceLT, Nat.reduceLeDiff, Nat.reduceEqDiff, true_implies, false_implies, implies_true, Option.some.injEq, forall_eq', forall_eq, reduceCtorEq, brT, brF, br_s, i_10, i_01, ib_0_2, ib_1_2, tn_0, tn_1, Int32.le_refl, eq_self, rv_bN, rv_iM, RCX 0, RCG 2, RCT 4, RCT 15, RCT 25, RCS 35, RCS 49, RCH 63, RCP 67, RCB 72, RCR 77, RCM 81, RLY, lit_at hw, e52, x0, n0, f52, x1, n1]
      exact hQ
    · have x1 : sP ρ 1 = Int32.ofNat ((ρ 3 - 1) / 100) := if_neg b
      have eq1 := of_inj (a := (ρ 3 - 1) / 100) (b := (ρ 2 - 1) / 100) (by omega) (by omega)
      by_cases c : (ρ 2 - 1) / 100 = (ρ 3 - 1) / 100
      · rw [if_pos ⟨a, b, c⟩] at hQ
        have eq2 := iff_true_intro (eq1.mpr c.symm)
        have y0 : sCe ρ 0 = Int32.ofNat (cellAt ρ 0) := if_neg a
        have y1 : sCe ρ 1 = Int32.ofNat (cellAt ρ 1) := if_neg b
        have cc0 := cAt_lt (ρ := ρ) (m := 0)
        have cc1 := cAt_lt (ρ := ρ) (m := 1)
        have ab := abs_of (a := cellAt ρ 0) (b := cellAt ρ 1) (by omega) (by omega)
        simp only [↓br_pos, ↓br_neg, ↓rF_I, ↓rF_L, ↓rF_R, ↓rF_N, rO_m, rB_m, ↓rI_m, wI_m, ↓rB2_m, ↓rB3_m, wB2_m, wB3_m, ↓rL_m, wL_m, ↓rQ_m, wQ_m, ↓lI_m, pI_m, pL_m, pR_m, sI_m, sBy_m, sBo_m, sL_m, sQ_m, fst_m, true_and, and_true, tg_some, ln_some, uI_1, uI_2, uL_1, uL_2, uL_3, uQ_1, uQ_2, uQ_3, rv_i, rv_l, rv_n, rv_b0, rv_b1, RMR, ne_eq, reduceCtorEq, not_false_eq_true, Option.getD_some, if_true, if_false, and_self, false_and, and_false, Nat.add_left_cancel_iff, Nat.add_eq_left, Nat.left_eq_add, Nat.one_ne_zero, Nat.reduceAdd, Nat.reduceLT, Nat.reduceLeDiff, Nat.reduceEqDiff, true_implies, false_implies, implies_true, Option.some.injEq, forall_eq', forall_eq, reduceCtorEq, brT, brF, br_s, i_10, i_01, ib_0_2, ib_1_2, tn_0, tn_1, Int32.le_refl, eq_self, rv_bN, rv_iM, RCX 0, RCG 2, RCT 4, RCT 15, RCT 25, RCS 35, RCS 49, RCH 63, RCP 67, RCB 72, RCR 77, RCM 81, RLY, lit_at hw, e52, x0, n0, f52, x1, eq2, e53, f53, y0, y1, ab]
        exact hQ
      · rw [if_neg (fun q => c q.2.2)] at hQ
        have eq2 := iff_false_intro (fun q => c (eq1.mp q).symm)
        simp only [↓br_pos, ↓br_neg, ↓rF_I, ↓rF_L, ↓rF_R, ↓rF_N, rO_m, rB_m, ↓rI_m, wI_m, ↓rB2_m, ↓rB3_m, wB2_m, wB3_m, ↓rL_m, wL_m, ↓rQ_m, wQ_m, ↓lI_m, pI_m, pL_m, pR_m, sI_m, sBy_m, sBo_m, sL_m, sQ_m, fst_m, true_and, and_true, tg_some, ln_some, uI_1, uI_2, uL_1, uL_2, uL_3, uQ_1, uQ_2, uQ_3, rv_i, rv_l, rv_n, rv_b0, rv_b1, RMR, ne_eq, reduceCtorEq, not_false_eq_true, Option.getD_some, if_true, if_false, and_self, false_and, and_false, Nat.add_left_cancel_iff, Nat.add_eq_left, Nat.left_eq_add, Nat.one_ne_zero, Nat.reduceAdd, Nat.reduceLT, Nat.reduceLeDiff, Nat.reduceEqDiff, true_implies, false_implies, implies_true, Option.some.injEq, forall_eq', forall_eq, reduceCtorEq, brT, brF, br_s, i_10, i_01, ib_0_2, ib_1_2, tn_0, tn_1, Int32.le_refl, eq_self, rv_bN, rv_iM, RCX 0, RCG 2, RCT 4, RCT 15, RCT 25, RCS 35, RCS 49, RCH 63, RCP 67, RCB 72, RCR 77, RCM 81, RLY, lit_at hw, e52, x0, n0, f52, x1, eq2]
        exact hQ
theorem c_103 {w : mT} {σ : mS} {D : Nat} {K : Int32 → Hp → Prop} (hw : lit w) (hD : 1 ≤ D) : wpI D 103 [.ref 0] (mW w σ) K ↔ K (σ.1 0 11) (mW w σ) := by
  refine cI_of (m := 0) (fun d hd Q hQ => ?_) rfl hD
  refine b103_0 ?_
  simp only [↓br_pos, ↓br_neg, ↓rF_I, ↓rF_L, ↓rF_R, ↓rF_N, rO_m, rB_m, ↓rI_m, wI_m, ↓rB2_m, ↓rB3_m, wB2_m, wB3_m, ↓rL_m, wL_m, ↓rQ_m, wQ_m, ↓lI_m, pI_m, pL_m, pR_m, sI_m, sBy_m, sBo_m, sL_m, sQ_m, fst_m, true_and, and_true, tg_some, ln_some, uI_1, uI_2, uL_1, uL_2, uL_3, uQ_1, uQ_2, uQ_3, rv_i, rv_l, rv_n, rv_b0, rv_b1, RMR, ne_eq, reduceCtorEq, not_false_eq_true, Option.getD_some, if_true, if_false, and_self, false_and, and_false, Nat.add_left_cancel_iff, Nat.add_eq_left, Nat.left_eq_add, Nat.one_ne_zero, Nat.reduceAdd, Nat.reduceLT, Nat.reduceLeDiff, Nat.reduceEqDiff, true_implies, false_implies, implies_true, Option.some.injEq, forall_eq', forall_eq, reduceCtorEq, brT, brF, br_s, i_10, i_01, ib_0_2, ib_1_2, tn_0, tn_1, Int32.le_refl, eq_self, rv_bN, rv_iM, RCX 0, RCG 2, RCT 4, RCT 15, RCT 25, RCS 35, RCS 49, RCH 63, RCP 67, RCB 72, RCR 77, RCM 81, RLY, lit_at hw]
  exact hQ
theorem c_106 {w : mT} {σ : mS} {D : Nat} {K : Int64 → Hp → Prop} (hw : lit w) (hD : 1 ≤ D) : wpL D 106 [.ref 0] (mW w σ) K ↔ K (σ.2.1 0 12) (mW w σ) := by
  refine cL_of (m := 0) (fun d hd Q hQ => ?_) rfl hD
  refine b106_0 ?_
  simp only [↓br_pos, ↓br_neg, ↓rF_I, ↓rF_L, ↓rF_R, ↓rF_N, rO_m, rB_m, ↓rI_m, wI_m, ↓rB2_m, ↓rB3_m, wB2_m, wB3_m, ↓rL_m, wL_m, ↓rQ_m, wQ_m, ↓lI_m, pI_m, pL_m, pR_m, sI_m, sBy_m, sBo_m, sL_m, sQ_m, fst_m, true_and, and_true, tg_some, ln_some, uI_1, uI_2, uL_1, uL_2, uL_3, uQ_1, uQ_2, uQ_3, rv_i, rv_l, rv_n, rv_b0, rv_b1, RMR, ne_eq, reduceCtorEq, not_false_eq_true, Option.getD_some, if_true, if_false, and_self, false_and, and_false, Nat.add_left_cancel_iff, Nat.add_eq_left, Nat.left_eq_add, Nat.one_ne_zero, Nat.reduceAdd, Nat.reduceLT, Nat.reduceLeDiff, Nat.reduceEqDiff, true_implies, false_implies, implies_true, Option.some.injEq, forall_eq', forall_eq, reduceCtorEq, brT, brF, br_s, i_10, i_01, ib_0_2, ib_1_2, tn_0, tn_1, Int32.le_refl, eq_self, rv_bN, rv_iM, RCX 0, RCG 2, RCT 4, RCT 15, RCT 25, RCS 35, RCS 49, RCH 63, RCP 67, RCB 72, RCR 77, RCM 81, RLY, lit_at hw]
  exact hQ
theorem c_110 {w : mT} {σ : mS} {D : Nat} {K : Int64 → Hp → Prop} (hw : lit w) (hD : 1 ≤ D) : wpL D 110 [.ref 0] (mW w σ) K ↔ K (σ.2.1 0 13) (mW w σ) := by
  refine cL_of (m := 0) (fun d hd Q hQ => ?_) rfl hD
  refine b110_0 ?_
  simp only [↓br_pos, ↓br_neg, ↓rF_I, ↓rF_L, ↓rF_R, ↓rF_N, rO_m, rB_m, ↓rI_m, wI_m, ↓rB2_m, ↓rB3_m, wB2_m, wB3_m, ↓rL_m, wL_m, ↓rQ_m, wQ_m, ↓lI_m, pI_m, pL_m, pR_m, sI_m, sBy_m, sBo_m, sL_m, sQ_m, fst_m, true_and, and_true, tg_some, ln_some, uI_1, uI_2, uL_1, uL_2, uL_3, uQ_1, uQ_2, uQ_3, rv_i, rv_l, rv_n, rv_b0, rv_b1, RMR, ne_eq, reduceCtorEq, not_false_eq_true, Option.getD_some, if_true, if_false, and_self, false_and, and_false, Nat.add_left_cancel_iff, Nat.add_eq_left, Nat.left_eq_add, Nat.one_ne_zero, Nat.reduceAdd, Nat.reduceLT, Nat.reduceLeDiff, Nat.reduceEqDiff, true_implies, false_implies, implies_true, Option.some.injEq, forall_eq', forall_eq, reduceCtorEq, brT, brF, br_s, i_10, i_01, ib_0_2, ib_1_2, tn_0, tn_1, Int32.le_refl, eq_self, rv_bN, rv_iM, RCX 0, RCG 2, RCT 4, RCT 15, RCT 25, RCS 35, RCS 49, RCH 63, RCP 67, RCB 72, RCR 77, RCM 81, RLY, lit_at hw]
  exact hQ
end
section
/-! the class's calls: layer, grades -/
def lyB (ρ : Rw) (p k : Nat) : Nat → Int32
  | 0 => 0
  | c + 1 => lyB ρ p k c ||| (if 0 < ρ (li p k c) then (1 : Int32) <<< (Int32.ofNat c &&& 31) else 0)
theorem lies_lt {τ ρ : Rw} {p k c : Nat} (hr : vRow τ ρ) (hp : p < 3) (hk : k < ρ (24 + p)) (hc : c < 12) : ρ (li p k c) ≤ 119988 := by
  have a := tOn_lt hr hp hc
  have b := sm_one (f := fun k => ρ (li p k c)) hk
  unfold tOn at a
  omega
theorem lp_82 {w : mT} {σ : mS} {P p k a d : Nat} {τ ρ : Rw} {Q : Option (Option Value) → Hp → Prop} (hw : lit w) (hP : P = 15 ∨ P = 25) (p3 : σ.2.2 0 3 = some P) (hτ : tTold σ P τ) (hv : vTold τ) (hρ : tSt σ 35 τ ρ) (hr : vRow τ ρ) (hp : p < τ 1) (hk : k < ρ (24 + p)) (hd : 1 ≤ d) (ha : a = 1 ∨ a = 2) (hQ : Q (some (some (.int (if a = 1 then Int32.ofNat (sm (τ (28 + p)) (fun c => ρ (li p k c))) else lyB ρ p k (τ (28 + p)))))) (mW w σ)) : ∀ (r c : Nat) (a7 : Int32), c + r = τ (28 + p) → Wp 82 48 [.ref 0, .int (Int32.ofNat p), .int (Int32.ofNat k), .int (Int32.ofNat a), .int (Int32.ofNat (sm c (fun c => ρ (li p k c)))), .int (lyB ρ p k c), .int (Int32.ofNat c), .int a7] [] (mW w σ) Q d := by
  have hT' := isTP hw hP
  simp only [isT] at hT'
  have v1 := hv.2.1
  have v2 := (hv.2.2.2.2.2.1 p hp).2
  have h60 := vR_la hr p (by omega)
  have eb : inB (Int32.ofNat p) 3 = true := on_inB (by omega) (by omega)
  have en := on_nat (i := p) (by omega)
  have e1 := hτ.2.2.2.2.2.1 p hp
  intro r
  induction r with
  | zero =>
    intro c a7 hc
    have hc' : c = τ (28 + p) := by omega
    subst hc'
    refine b82_48a ?_
    rcases ha with rfl | rfl
    · have c1 : (Int32.ofNat 1 = (1 : Int32)) ↔ True := by decide
      rw [if_pos rfl] at hQ
      simp only [↓br_pos, ↓br_neg, ↓rF_I, ↓rF_L, ↓rF_R, ↓rF_N, rO_m, rB_m, ↓rI_m, wI_m, ↓rB2_m, ↓rB3_m, wB2_m, wB3_m, ↓rL_m, wL_m, ↓rQ_m, wQ_m, ↓lI_m, pI_m, pL_m, pR_m, sI_m, sBy_m, sBo_m, sL_m, sQ_m, fst_m, true_and, and_true, tg_some, ln_some, uI_1, uI_2, uL_1, uL_2, uL_3, uQ_1, uQ_2, uQ_3, rv_i, rv_l, rv_n, rv_b0, rv_b1, RMR, ne_eq, reduceCtorEq, not_false_eq_true, Option.getD_some, if_true, if_false, and_self, false_and, and_false, Nat.add_left_cancel_iff, Nat.add_eq_left, Nat.left_eq_add, Nat.one_ne_zero, Nat.reduceAdd, Nat.reduceLT, Nat.reduceLeDiff, Nat.reduceEqDiff, true_implies, false_implies, implies_true, Option.some.injEq, forall_eq', forall_eq, reduceCtorEq, brT, brF, br_s, i_10, i_01, ib_0_2, ib_1_2, tn_0, tn_1, Int32.le_refl, eq_self, rv_bN, rv_iM, RCX 0, RCG 2, RCT 4, RCT 15, RCT 25, RCS 35, RCS 49, RCH 63, RCP 67, RCB 72, RCR 77, RCM 81, RLY, lit_at hw, RCT P, hT', p3, eb, en, e1, Int32.le_refl, c1]
      exact hQ
    · have c1 : (Int32.ofNat 2 = (1 : Int32)) ↔ False := by decide
      rw [if_neg (by omega)] at hQ
      simp only [↓br_pos, ↓br_neg, ↓rF_I, ↓rF_L, ↓rF_R, ↓rF_N, rO_m, rB_m, ↓rI_m, wI_m, ↓rB2_m, ↓rB3_m, wB2_m, wB3_m, ↓rL_m, wL_m, ↓rQ_m, wQ_m, ↓lI_m, pI_m, pL_m, pR_m, sI_m, sBy_m, sBo_m, sL_m, sQ_m, fst_m, true_and, and_true, tg_some, ln_some, uI_1, uI_2, uL_1, uL_2, uL_3, uQ_1, uQ_2, uQ_3, rv_i, rv_l, rv_n, rv_b0, rv_b1, RMR, ne_eq, reduceCtorEq, not_false_eq_true, Option.getD_some, if_true, if_false, and_self, false_and, and_false, Nat.add_left_cancel_iff, Nat.add_eq_left, Nat.left_eq_add, Nat.one_ne_zero, Nat.reduceAdd, Nat.reduceLT, Nat.reduceLeDiff, Nat.reduceEqDiff, true_implies, false_implies, implies_true, Option.some.injEq, forall_eq', forall_eq, reduceCtorEq, brT, brF, br_s, i_10, i_01, ib_0_2, ib_1_2, tn_0, tn_1, Int32.le_refl, eq_self, rv_bN, rv_iM, RCX 0, RCG 2, RCT 4, RCT 15, RCT 25, RCS 35, RCS 49, RCH 63, RCP 67, RCB 72, RCR 77, RCM 81, RLY, lit_at hw, RCT P, hT', p3, eb, en, e1, Int32.le_refl, c1]
      exact hQ
  | succ r ih =>
    intro c a7 hc
    have l1 : (Int32.ofNat (τ (28 + p)) ≤ Int32.ofNat c) ↔ False := iff_false_intro (fun q => absurd ((on_le (by omega) (by omega)).mp q) (by omega))
    have e2 : σ.1 39 ((p * 60 + k) * 12 + c) = Int32.ofNat (ρ (li p k c)) := tS_li hρ (by omega) hk (by omega)
    have eb2 : inB (Int32.ofNat ((p * 60 + k) * 12 + c)) 2160 = true := on_inB (by omega) (by omega)
    have en2 := on_nat (i := (p * 60 + k) * 12 + c) (by omega)
    have lt := lies_lt hr (by omega : p < 3) hk (by omega : c < 12)
    have c0 := of_le0 (a := ρ (li p k c)) (by omega)
    have es : sm (c + 1) (fun c => ρ (li p k c)) = sm c (fun c => ρ (li p k c)) + ρ (li p k c) := rfl
    have eB : lyB ρ p k (c + 1) = lyB ρ p k c ||| (if 0 < ρ (li p k c) then (1 : Int32) <<< (Int32.ofNat c &&& 31) else 0) := rfl
    have nx := ih (c + 1) (Int32.ofNat (ρ (li p k c))) (by omega)
    rw [es, eB] at nx
    refine b82_48a ?_
    by_cases z : ρ (li p k c) = 0
    · have c0' := iff_true_intro (c0.mpr z)
      rw [if_neg (by omega)] at nx
      simp only [↓br_pos, ↓br_neg, ↓rF_I, ↓rF_L, ↓rF_R, ↓rF_N, rO_m, rB_m, ↓rI_m, wI_m, ↓rB2_m, ↓rB3_m, wB2_m, wB3_m, ↓rL_m, wL_m, ↓rQ_m, wQ_m, ↓lI_m, pI_m, pL_m, pR_m, sI_m, sBy_m, sBo_m, sL_m, sQ_m, fst_m, true_and, and_true, tg_some, ln_some, uI_1, uI_2, uL_1, uL_2, uL_3, uQ_1, uQ_2, uQ_3, rv_i, rv_l, rv_n, rv_b0, rv_b1, RMR, ne_eq, reduceCtorEq, not_false_eq_true, Option.getD_some, if_true, if_false, and_self, false_and, and_false, Nat.add_left_cancel_iff, Nat.add_eq_left, Nat.left_eq_add, Nat.one_ne_zero, Nat.reduceAdd, Nat.reduceLT, Nat.reduceLeDiff, Nat.reduceEqDiff, true_implies, false_implies, implies_true, Option.some.injEq, forall_eq', forall_eq, reduceCtorEq, brT, brF, br_s, i_10, i_01, ib_0_2, ib_1_2, tn_0, tn_1, Int32.le_refl, eq_self, rv_bN, rv_iM, RCX 0, RCG 2, RCT 4, RCT 15, RCT 25, RCS 35, RCS 49, RCH 63, RCP 67, RCB 72, RCR 77, RCM 81, RLY, lit_at hw, RCT P, hT', p3, eb, en, e1, l1, g_51 hd, pl_of, eb2, en2, e2, c0', of_add]
      refine b82_104 ?_
      rw [on_succ]
      exact nx
    · have c0' := iff_false_intro (fun q => z (c0.mp q))
      rw [if_pos (by omega)] at nx
      simp only [↓br_pos, ↓br_neg, ↓rF_I, ↓rF_L, ↓rF_R, ↓rF_N, rO_m, rB_m, ↓rI_m, wI_m, ↓rB2_m, ↓rB3_m, wB2_m, wB3_m, ↓rL_m, wL_m, ↓rQ_m, wQ_m, ↓lI_m, pI_m, pL_m, pR_m, sI_m, sBy_m, sBo_m, sL_m, sQ_m, fst_m, true_and, and_true, tg_some, ln_some, uI_1, uI_2, uL_1, uL_2, uL_3, uQ_1, uQ_2, uQ_3, rv_i, rv_l, rv_n, rv_b0, rv_b1, RMR, ne_eq, reduceCtorEq, not_false_eq_true, Option.getD_some, if_true, if_false, and_self, false_and, and_false, Nat.add_left_cancel_iff, Nat.add_eq_left, Nat.left_eq_add, Nat.one_ne_zero, Nat.reduceAdd, Nat.reduceLT, Nat.reduceLeDiff, Nat.reduceEqDiff, true_implies, false_implies, implies_true, Option.some.injEq, forall_eq', forall_eq, reduceCtorEq, brT, brF, br_s, i_10, i_01, ib_0_2, ib_1_2, tn_0, tn_1, Int32.le_refl, eq_self, rv_bN, rv_iM, RCX 0, RCG 2, RCT 4, RCT 15, RCT 25, RCS 35, RCS 49, RCH 63, RCP 67, RCB 72, RCR 77, RCM 81, RLY, lit_at hw, RCT P, hT', p3, eb, en, e1, l1, g_51 hd, pl_of, eb2, en2, e2, c0', of_add]
      refine b82_104 ?_
      rw [on_succ]
      exact nx
def layerV (τ ρ : Rw) (p k a : Nat) : Int32 := if a = 0 then Int32.ofNat (ρ (lo p k)) else if a = 1 then Int32.ofNat (sm (τ (28 + p)) (fun c => ρ (li p k c))) else lyB ρ p k (τ (28 + p))
theorem c_82z {w : mT} {σ : mS} {tp n : Nat} {t : Nat → Nat} {τ ρ : Rw} {bk : Nat → Rw} {has : Nat → Bool} {im : Nat → Rw} {p k a : Int32} {D : Nat} {K : Int32 → Hp → Prop} (h : cIn w σ tp t τ ρ n bk has im) (hn : ¬ (laP τ ρ p k ∧ 0 ≤ a.toInt ∧ a.toInt ≤ 2)) (hD : 3 ≤ D) : wpI D 82 [.ref 0, .int p, .int k, .int a] (mW w σ) K ↔ K (-2) (mW w σ) := by
  have h' := h
  obtain ⟨hw, hS, hH, ⟨P, hP, p3, p4, hτ⟩, hρ, hv, hr, h1, htp, htb, ht⟩ := h
  have hT := isTP hw hP
  have hT' := hT
  simp only [isT] at hT'
  refine cI_of (m := 2) (fun d hd Q hQ => ?_) rfl hD
  refine b82_0 ?_
  by_cases z : laP τ ρ p k
  · have ez : iB (laP τ ρ p k) = 1 := iB_t z
    by_cases y : a < 0
    · simp only [↓br_pos, ↓br_neg, ↓rF_I, ↓rF_L, ↓rF_R, ↓rF_N, rO_m, rB_m, ↓rI_m, wI_m, ↓rB2_m, ↓rB3_m, wB2_m, wB3_m, ↓rL_m, wL_m, ↓rQ_m, wQ_m, ↓lI_m, pI_m, pL_m, pR_m, sI_m, sBy_m, sBo_m, sL_m, sQ_m, fst_m, true_and, and_true, tg_some, ln_some, uI_1, uI_2, uL_1, uL_2, uL_3, uQ_1, uQ_2, uQ_3, rv_i, rv_l, rv_n, rv_b0, rv_b1, RMR, ne_eq, reduceCtorEq, not_false_eq_true, Option.getD_some, if_true, if_false, and_self, false_and, and_false, Nat.add_left_cancel_iff, Nat.add_eq_left, Nat.left_eq_add, Nat.one_ne_zero, Nat.reduceAdd, Nat.reduceLT, Nat.reduceLeDiff, Nat.reduceEqDiff, true_implies, false_implies, implies_true, Option.some.injEq, forall_eq', forall_eq, reduceCtorEq, brT, brF, br_s, i_10, i_01, ib_0_2, ib_1_2, tn_0, tn_1, Int32.le_refl, eq_self, rv_bN, rv_iM, RCX 0, RCG 2, RCT 4, RCT 15, RCT 25, RCS 35, RCS 49, RCH 63, RCP 67, RCB 72, RCR 77, RCM 81, RLY, lit_at hw, RCT P, hT', p3, g_120 hw hP p3 hτ hv hρ hr hd, ez, y]
      exact hQ
    · have x : ¬ a ≤ 2 := by
        intro q
        rw [i_lt, show (0 : Int32).toInt = 0 by decide] at y
        rw [i_le, show (2 : Int32).toInt = 2 by decide] at q
        exact hn ⟨z, by omega, by omega⟩
      simp only [↓br_pos, ↓br_neg, ↓rF_I, ↓rF_L, ↓rF_R, ↓rF_N, rO_m, rB_m, ↓rI_m, wI_m, ↓rB2_m, ↓rB3_m, wB2_m, wB3_m, ↓rL_m, wL_m, ↓rQ_m, wQ_m, ↓lI_m, pI_m, pL_m, pR_m, sI_m, sBy_m, sBo_m, sL_m, sQ_m, fst_m, true_and, and_true, tg_some, ln_some, uI_1, uI_2, uL_1, uL_2, uL_3, uQ_1, uQ_2, uQ_3, rv_i, rv_l, rv_n, rv_b0, rv_b1, RMR, ne_eq, reduceCtorEq, not_false_eq_true, Option.getD_some, if_true, if_false, and_self, false_and, and_false, Nat.add_left_cancel_iff, Nat.add_eq_left, Nat.left_eq_add, Nat.one_ne_zero, Nat.reduceAdd, Nat.reduceLT, Nat.reduceLeDiff, Nat.reduceEqDiff, true_implies, false_implies, implies_true, Option.some.injEq, forall_eq', forall_eq, reduceCtorEq, brT, brF, br_s, i_10, i_01, ib_0_2, ib_1_2, tn_0, tn_1, Int32.le_refl, eq_self, rv_bN, rv_iM, RCX 0, RCG 2, RCT 4, RCT 15, RCT 25, RCS 35, RCS 49, RCH 63, RCP 67, RCB 72, RCR 77, RCM 81, RLY, lit_at hw, RCT P, hT', p3, g_120 hw hP p3 hτ hv hρ hr hd, ez, y, x]
      exact hQ
  · have ez : iB (laP τ ρ p k) = 0 := iB_f z
    simp only [↓br_pos, ↓br_neg, ↓rF_I, ↓rF_L, ↓rF_R, ↓rF_N, rO_m, rB_m, ↓rI_m, wI_m, ↓rB2_m, ↓rB3_m, wB2_m, wB3_m, ↓rL_m, wL_m, ↓rQ_m, wQ_m, ↓lI_m, pI_m, pL_m, pR_m, sI_m, sBy_m, sBo_m, sL_m, sQ_m, fst_m, true_and, and_true, tg_some, ln_some, uI_1, uI_2, uL_1, uL_2, uL_3, uQ_1, uQ_2, uQ_3, rv_i, rv_l, rv_n, rv_b0, rv_b1, RMR, ne_eq, reduceCtorEq, not_false_eq_true, Option.getD_some, if_true, if_false, and_self, false_and, and_false, Nat.add_left_cancel_iff, Nat.add_eq_left, Nat.left_eq_add, Nat.one_ne_zero, Nat.reduceAdd, Nat.reduceLT, Nat.reduceLeDiff, Nat.reduceEqDiff, true_implies, false_implies, implies_true, Option.some.injEq, forall_eq', forall_eq, reduceCtorEq, brT, brF, br_s, i_10, i_01, ib_0_2, ib_1_2, tn_0, tn_1, Int32.le_refl, eq_self, rv_bN, rv_iM, RCX 0, RCG 2, RCT 4, RCT 15, RCT 25, RCS 35, RCS 49, RCH 63, RCP 67, RCB 72, RCR 77, RCM 81, RLY, lit_at hw, RCT P, hT', p3, g_120 hw hP p3 hτ hv hρ hr hd, ez]
    exact hQ
theorem c_82 {w : mT} {σ : mS} {tp n : Nat} {t : Nat → Nat} {τ ρ : Rw} {bk : Nat → Rw} {has : Nat → Bool} {im : Nat → Rw} {p k a : Nat} {D : Nat} {K : Int32 → Hp → Prop} (h : cIn w σ tp t τ ρ n bk has im) (hp : p < τ 1) (hk : k < ρ (24 + p)) (ha : a ≤ 2) (hD : 3 ≤ D) : wpI D 82 [.ref 0, .int (Int32.ofNat p), .int (Int32.ofNat k), .int (Int32.ofNat a)] (mW w σ) K ↔ K (layerV τ ρ p k a) (mW w σ) := by
  have h' := h
  obtain ⟨hw, hS, hH, ⟨P, hP, p3, p4, hτ⟩, hρ, hv, hr, h1, htp, htb, ht⟩ := h
  have hT := isTP hw hP
  have hT' := hT
  simp only [isT] at hT'
  refine cI_of (m := 2) (fun d hd Q hQ => ?_) rfl hD
  have hd1 : 1 ≤ d := by omega
  have v1 := hv.2.1
  have v2 := (hv.2.2.2.2.2.1 p hp).2
  have h60 := vR_la hr p (by omega)
  have ez : iB (laP τ ρ (Int32.ofNat p) (Int32.ofNat k)) = 1 := iB_t (laP_of hv hr hp hk)
  have e3 : σ.1 38 (p * 60 + k) = Int32.ofNat (ρ (lo p k)) := tS_lo hρ (by omega) hk
  have eb3 : inB (Int32.ofNat (p * 60 + k)) 180 = true := on_inB (by omega) (by omega)
  have en3 := on_nat (i := p * 60 + k) (by omega)
  have a0 := of_lt0 (a := a) (by omega)
  have a2 : (Int32.ofNat a ≤ (2 : Int32)) ↔ True := iff_true_intro ((on_le (j := 2) (by omega) (by omega)).mpr ha)
  refine b82_0 ?_
  by_cases c : a = 0
  · subst c
    have c0 : (Int32.ofNat 0 = (0 : Int32)) ↔ True := by decide
    simp only [↓br_pos, ↓br_neg, ↓rF_I, ↓rF_L, ↓rF_R, ↓rF_N, rO_m, rB_m, ↓rI_m, wI_m, ↓rB2_m, ↓rB3_m, wB2_m, wB3_m, ↓rL_m, wL_m, ↓rQ_m, wQ_m, ↓lI_m, pI_m, pL_m, pR_m, sI_m, sBy_m, sBo_m, sL_m, sQ_m, fst_m, true_and, and_true, tg_some, ln_some, uI_1, uI_2, uL_1, uL_2, uL_3, uQ_1, uQ_2, uQ_3, rv_i, rv_l, rv_n, rv_b0, rv_b1, RMR, ne_eq, reduceCtorEq, not_false_eq_true, Option.getD_some, if_true, if_false, and_self, false_and, and_false, Nat.add_left_cancel_iff, Nat.add_eq_left, Nat.left_eq_add, Nat.one_ne_zero, Nat.reduceAdd, Nat.reduceLT, Nat.reduceLeDiff, Nat.reduceEqDiff, true_implies, false_implies, implies_true, Option.some.injEq, forall_eq', forall_eq, reduceCtorEq, brT, brF, br_s, i_10, i_01, ib_0_2, ib_1_2, tn_0, tn_1, Int32.le_refl, eq_self, rv_bN, rv_iM, RCX 0, RCG 2, RCT 4, RCT 15, RCT 25, RCS 35, RCS 49, RCH 63, RCP 67, RCB 72, RCR 77, RCM 81, RLY, lit_at hw, RCT P, hT', p3, g_120 hw hP p3 hτ hv hρ hr hd, ez, a0, a2, c0, g_50 hd1, ro_of, eb3, en3, e3]
    exact hQ
  · have c0 : (Int32.ofNat a = (0 : Int32)) ↔ False := iff_false_intro (fun q => c ((of_eq0 (by omega)).mp q))
    have ev : layerV τ ρ p k a = if a = 1 then Int32.ofNat (sm (τ (28 + p)) (fun c => ρ (li p k c))) else lyB ρ p k (τ (28 + p)) := if_neg c
    rw [ev] at hQ
    simp only [↓br_pos, ↓br_neg, ↓rF_I, ↓rF_L, ↓rF_R, ↓rF_N, rO_m, rB_m, ↓rI_m, wI_m, ↓rB2_m, ↓rB3_m, wB2_m, wB3_m, ↓rL_m, wL_m, ↓rQ_m, wQ_m, ↓lI_m, pI_m, pL_m, pR_m, sI_m, sBy_m, sBo_m, sL_m, sQ_m, fst_m, true_and, and_true, tg_some, ln_some, uI_1, uI_2, uL_1, uL_2, uL_3, uQ_1, uQ_2, uQ_3, rv_i, rv_l, rv_n, rv_b0, rv_b1, RMR, ne_eq, reduceCtorEq, not_false_eq_true, Option.getD_some, if_true, if_false, and_self, false_and, and_false, Nat.add_left_cancel_iff, Nat.add_eq_left, Nat.left_eq_add, Nat.one_ne_zero, Nat.reduceAdd, Nat.reduceLT, Nat.reduceLeDiff, Nat.reduceEqDiff, true_implies, false_implies, implies_true, Option.some.injEq, forall_eq', forall_eq, reduceCtorEq, brT, brF, br_s, i_10, i_01, ib_0_2, ib_1_2, tn_0, tn_1, Int32.le_refl, eq_self, rv_bN, rv_iM, RCX 0, RCG 2, RCT 4, RCT 15, RCT 25, RCS 35, RCS 49, RCH 63, RCP 67, RCB 72, RCR 77, RCM 81, RLY, lit_at hw, RCT P, hT', p3, g_120 hw hP p3 hτ hv hρ hr hd, ez, a0, a2, c0]
    have L := lp_82 (d := d) hw hP p3 hτ hv hρ hr hp hk hd1 (by omega : a = 1 ∨ a = 2) hQ
    -- the first turn has no row of the loop's own yet
    have eb : inB (Int32.ofNat p) 3 = true := on_inB (by omega) (by omega)
    have en := on_nat (i := p) (by omega)
    have e1 := hτ.2.2.2.2.2.1 p hp
    have c2 := (hv.2.2.2.2.2.1 p hp).1
    have l1 : (Int32.ofNat (τ (28 + p)) ≤ (0 : Int32)) ↔ False := iff_false_intro (fun q => absurd ((of_le0 (by omega)).mp q) (by omega))
    have e2 : σ.1 39 ((p * 60 + k) * 12 + 0) = Int32.ofNat (ρ (li p k 0)) := tS_li hρ (by omega) hk (by omega)
    have eb2 : inB (Int32.ofNat ((p * 60 + k) * 12 + 0)) 2160 = true := on_inB (by omega) (by omega)
    have en2 := on_nat (i := (p * 60 + k) * 12 + 0) (by omega)
    have pl0 : (Int32.ofNat p * 60 + Int32.ofNat k) * 12 + 0 = Int32.ofNat ((p * 60 + k) * 12 + 0) := pl_of (c := 0)
    have lt := lies_lt hr (by omega : p < 3) hk (by omega : 0 < 12)
    have cc := of_le0 (a := ρ (li p k 0)) (by omega)
    have nx := L (τ (28 + p) - 1) 1 (Int32.ofNat (ρ (li p k 0))) (by omega)
    have es : sm 1 (fun c => ρ (li p k c)) = 0 + ρ (li p k 0) := rfl
    have eB : lyB ρ p k 1 = 0 ||| (if 0 < ρ (li p k 0) then (1 : Int32) <<< (Int32.ofNat 0 &&& 31) else 0) := rfl
    rw [es, eB] at nx
    have z0 : (0 : Int32) + Int32.ofNat (ρ (li p k 0)) = Int32.ofNat (0 + ρ (li p k 0)) := of_add (a := 0)
    refine b82_48 ?_
    by_cases z : ρ (li p k 0) = 0
    · have c0' := iff_true_intro (cc.mpr z)
      rw [if_neg (by omega)] at nx
      simp only [↓br_pos, ↓br_neg, ↓rF_I, ↓rF_L, ↓rF_R, ↓rF_N, rO_m, rB_m, ↓rI_m, wI_m, ↓rB2_m, ↓rB3_m, wB2_m, wB3_m, ↓rL_m, wL_m, ↓rQ_m, wQ_m, ↓lI_m, pI_m, pL_m, pR_m, sI_m, sBy_m, sBo_m, sL_m, sQ_m, fst_m, true_and, and_true, tg_some, ln_some, uI_1, uI_2, uL_1, uL_2, uL_3, uQ_1, uQ_2, uQ_3, rv_i, rv_l, rv_n, rv_b0, rv_b1, RMR, ne_eq, reduceCtorEq, not_false_eq_true, Option.getD_some, if_true, if_false, and_self, false_and, and_false, Nat.add_left_cancel_iff, Nat.add_eq_left, Nat.left_eq_add, Nat.one_ne_zero, Nat.reduceAdd, Nat.reduceLT, Nat.reduceLeDiff, Nat.reduceEqDiff, true_implies, false_implies, implies_true, Option.some.injEq, forall_eq', forall_eq, reduceCtorEq, brT, brF, br_s, i_10, i_01, ib_0_2, ib_1_2, tn_0, tn_1, Int32.le_refl, eq_self, rv_bN, rv_iM, RCX 0, RCG 2, RCT 4, RCT 15, RCT 25, RCS 35, RCS 49, RCH 63, RCP 67, RCB 72, RCR 77, RCM 81, RLY, lit_at hw, RCT P, hT', p3, eb, en, e1, l1, g_51 hd1, pl0, eb2, en2, e2, c0', z0]
      exact b82_104 nx
    · have c0' := iff_false_intro (fun q => z (cc.mp q))
      rw [if_pos (by omega)] at nx
      simp only [↓br_pos, ↓br_neg, ↓rF_I, ↓rF_L, ↓rF_R, ↓rF_N, rO_m, rB_m, ↓rI_m, wI_m, ↓rB2_m, ↓rB3_m, wB2_m, wB3_m, ↓rL_m, wL_m, ↓rQ_m, wQ_m, ↓lI_m, pI_m, pL_m, pR_m, sI_m, sBy_m, sBo_m, sL_m, sQ_m, fst_m, true_and, and_true, tg_some, ln_some, uI_1, uI_2, uL_1, uL_2, uL_3, uQ_1, uQ_2, uQ_3, rv_i, rv_l, rv_n, rv_b0, rv_b1, RMR, ne_eq, reduceCtorEq, not_false_eq_true, Option.getD_some, if_true, if_false, and_self, false_and, and_false, Nat.add_left_cancel_iff, Nat.add_eq_left, Nat.left_eq_add, Nat.one_ne_zero, Nat.reduceAdd, Nat.reduceLT, Nat.reduceLeDiff, Nat.reduceEqDiff, true_implies, false_implies, implies_true, Option.some.injEq, forall_eq', forall_eq, reduceCtorEq, brT, brF, br_s, i_10, i_01, ib_0_2, ib_1_2, tn_0, tn_1, Int32.le_refl, eq_self, rv_bN, rv_iM, RCX 0, RCG 2, RCT 4, RCT 15, RCT 25, RCS 35, RCS 49, RCH 63, RCP 67, RCB 72, RCR 77, RCM 81, RLY, lit_at hw, RCT P, hT', p3, eb, en, e1, l1, g_51 hd1, pl0, eb2, en2, e2, c0', z0]
      exact b82_104 nx
/-- grades -/
def grV (T O : Nat) : Int32 := if T = 0 then -2 else Int32.ofNat (O / gc1 O T)
def gU (σ : mS) (T O : Nat) : mS := if T = 0 then σ else uI σ 0 11 (Int32.ofNat (T / gc1 O T))
theorem g_126' {w : mT} {σ : mS} {T O D : Nat} {K : Int32 → Hp → Prop} (hw : lit w) (hT2 : T < 2147483648) (hO : O < 2147483648) (hD : 2 ≤ D) : wpI D 126 [.ref 0, .int (Int32.ofNat T), .int (Int32.ofNat O)] (mW w σ) K ↔ K (grV T O) (mW w (gU σ T O)) := by
  by_cases z : T = 0
  · have e1 : grV T O = -2 := if_pos z
    have e2 : gU σ T O = σ := if_pos z
    rw [e1, e2, z]
    exact g_126z hD
  · have e1 : grV T O = Int32.ofNat (O / gc1 O T) := if_neg z
    have e2 : gU σ T O = uI σ 0 11 (Int32.ofNat (T / gc1 O T)) := if_neg z
    rw [e1, e2]
    exact g_126 hw z hT2 hO hD
theorem cIn_gU {w : mT} {σ : mS} {tp n : Nat} {t : Nat → Nat} {τ ρ : Rw} {bk : Nat → Rw} {has : Nat → Bool} {im : Nat → Rw} {T O : Nat} (h : cIn w σ tp t τ ρ n bk has im) : cIn w (gU σ T O) tp t τ ρ n bk has im ∧ frM σ (gU σ T O) := by
  unfold gU
  split
  · exact ⟨h, frM_rf⟩
  · refine ⟨cIn_fr h (fun j hj => by rw [uI_1, if_neg (fun q => hj q.2)]) (fun a ha => (uI_ne (by omega)).1) (fun a ha => rfl), frM_I (by omega)⟩
theorem tPi_lt {τ ρ : Rw} {p : Nat} (hv : vTold τ) (hr : vRow τ ρ) (hp : p < τ 1) : tPi τ ρ p ≤ 119988 := by
  have v1 := hv.2.1
  have v2 := (hv.2.2.2.2.2.1 p hp).2
  have a := vR_all hr
  have b := sm_one (f := fun p => sm 12 (fun c => tOn ρ p c)) (by omega : p < 3)
  have c := sm_mono (f := tOn ρ p) v2
  unfold allT at a
  unfold tPi
  have e : sm 12 (tOn ρ p) = sm 12 (fun c => tOn ρ p c) := rfl
  omega
theorem gPi_le {τ ρ : Rw} {p : Nat} (hv : vTold τ) (hr : vRow τ ρ) (hp : p < τ 1) : gPi τ ρ p ≤ 999 * tPi τ ρ p := by
  have v1 := hv.2.1
  unfold gPi tPi
  rw [← sm_mul]
  exact sm_le (fun c _ => gOn_le hv hr (by omega))
theorem c_100z {w : mT} {σ : mS} {tp n : Nat} {t : Nat → Nat} {τ ρ : Rw} {bk : Nat → Rw} {has : Nat → Bool} {im : Nat → Rw} {p c : Int32} {D : Nat} {K : Int32 → Hp → Prop} (h : cIn w σ tp t τ ρ n bk has im) (hn : bC τ p c ≠ 1) (hD : 4 ≤ D) : wpI D 100 [.ref 0, .int p, .int c] (mW w σ) K ↔ K (-1) (mW w σ) := by
  have h' := h
  obtain ⟨hw, hS, hH, ⟨P, hP, p3, p4, hτ⟩, hρ, hv, hr, h1, htp, htb, ht⟩ := h
  have hT := isTP hw hP
  have hT' := hT
  simp only [isT] at hT'
  refine cI_of (m := 3) (fun d hd Q hQ => ?_) rfl hD
  have hd2 : 2 ≤ d := by omega
  have z' : bC τ p c = 0 := bC_01.resolve_right hn
  refine b100_0 ?_
  simp only [↓br_pos, ↓br_neg, ↓rF_I, ↓rF_L, ↓rF_R, ↓rF_N, rO_m, rB_m, ↓rI_m, wI_m, ↓rB2_m, ↓rB3_m, wB2_m, wB3_m, ↓rL_m, wL_m, ↓rQ_m, wQ_m, ↓lI_m, pI_m, pL_m, pR_m, sI_m, sBy_m, sBo_m, sL_m, sQ_m, fst_m, true_and, and_true, tg_some, ln_some, uI_1, uI_2, uL_1, uL_2, uL_3, uQ_1, uQ_2, uQ_3, rv_i, rv_l, rv_n, rv_b0, rv_b1, RMR, ne_eq, reduceCtorEq, not_false_eq_true, Option.getD_some, if_true, if_false, and_self, false_and, and_false, Nat.add_left_cancel_iff, Nat.add_eq_left, Nat.left_eq_add, Nat.one_ne_zero, Nat.reduceAdd, Nat.reduceLT, Nat.reduceLeDiff, Nat.reduceEqDiff, true_implies, false_implies, implies_true, Option.some.injEq, forall_eq', forall_eq, reduceCtorEq, brT, brF, br_s, i_10, i_01, ib_0_2, ib_1_2, tn_0, tn_1, Int32.le_refl, eq_self, rv_bN, rv_iM, RCX 0, RCG 2, RCT 4, RCT 15, RCT 25, RCS 35, RCS 49, RCH 63, RCP 67, RCB 72, RCR 77, RCM 81, RLY, lit_at hw, RCT P, hT', p3, g_72 hT hτ hv hd2, z']
  exact hQ
theorem c_100 {w : mT} {σ : mS} {tp n : Nat} {t : Nat → Nat} {τ ρ : Rw} {bk : Nat → Rw} {has : Nat → Bool} {im : Nat → Rw} {p c : Nat} {D : Nat} {K : Int32 → Hp → Prop} (h : cIn w σ tp t τ ρ n bk has im) (hp : p < τ 1) (hc : c < τ (28 + p)) (hD : 4 ≤ D) : wpI D 100 [.ref 0, .int (Int32.ofNat p), .int (Int32.ofNat c)] (mW w σ) K ↔ K (grV (tOn ρ p c) (gOn τ ρ p c)) (mW w (gU σ (tOn ρ p c) (gOn τ ρ p c))) := by
  have h' := h
  obtain ⟨hw, hS, hH, ⟨P, hP, p3, p4, hτ⟩, hρ, hv, hr, h1, htp, htb, ht⟩ := h
  have hT := isTP hw hP
  have hT' := hT
  simp only [isT] at hT'
  refine cI_of (m := 3) (fun d hd Q hQ => ?_) rfl hD
  have hd2 : 2 ≤ d := by omega
  have v1 := hv.2.1
  have v2 := (hv.2.2.2.2.2.1 p hp).2
  have z := bC_t hp hv hc
  have tl := tOn_lt hr (by omega : p < 3) (by omega : c < 12)
  have gl := gOn_le (c := c) hv hr (by omega : p < 3)
  refine b100_0 ?_
  simp only [↓br_pos, ↓br_neg, ↓rF_I, ↓rF_L, ↓rF_R, ↓rF_N, rO_m, rB_m, ↓rI_m, wI_m, ↓rB2_m, ↓rB3_m, wB2_m, wB3_m, ↓rL_m, wL_m, ↓rQ_m, wQ_m, ↓lI_m, pI_m, pL_m, pR_m, sI_m, sBy_m, sBo_m, sL_m, sQ_m, fst_m, true_and, and_true, tg_some, ln_some, uI_1, uI_2, uL_1, uL_2, uL_3, uQ_1, uQ_2, uQ_3, rv_i, rv_l, rv_n, rv_b0, rv_b1, RMR, ne_eq, reduceCtorEq, not_false_eq_true, Option.getD_some, if_true, if_false, and_self, false_and, and_false, Nat.add_left_cancel_iff, Nat.add_eq_left, Nat.left_eq_add, Nat.one_ne_zero, Nat.reduceAdd, Nat.reduceLT, Nat.reduceLeDiff, Nat.reduceEqDiff, true_implies, false_implies, implies_true, Option.some.injEq, forall_eq', forall_eq, reduceCtorEq, brT, brF, br_s, i_10, i_01, ib_0_2, ib_1_2, tn_0, tn_1, Int32.le_refl, eq_self, rv_bN, rv_iM, RCX 0, RCG 2, RCT 4, RCT 15, RCT 25, RCS 35, RCS 49, RCH 63, RCP 67, RCB 72, RCR 77, RCM 81, RLY, lit_at hw, RCT P, hT', p3, g_72 hT hτ hv hd2, z, g_56 (isS35 hw) hρ hr (by omega : p < 3) (by omega : c < 12) hd2, g_57 (isS35 hw) hT hρ hτ hv hr (by omega : p < 3) (by omega : c < 12) hd2, g_126' (w := w) (σ := σ) hw (by omega : tOn ρ p c < 2147483648) (by omega : gOn τ ρ p c < 2147483648) hd2]
  exact hQ
theorem c_101z {w : mT} {σ : mS} {tp n : Nat} {t : Nat → Nat} {τ ρ : Rw} {bk : Nat → Rw} {has : Nat → Bool} {im : Nat → Rw} {p : Int32} {D : Nat} {K : Int32 → Hp → Prop} (h : cIn w σ tp t τ ρ n bk has im) (hn : bN p (τ 1) ≠ 1) (hD : 4 ≤ D) : wpI D 101 [.ref 0, .int p] (mW w σ) K ↔ K (-1) (mW w σ) := by
  have h' := h
  obtain ⟨hw, hS, hH, ⟨P, hP, p3, p4, hτ⟩, hρ, hv, hr, h1, htp, htb, ht⟩ := h
  have hT := isTP hw hP
  have hT' := hT
  simp only [isT] at hT'
  refine cI_of (m := 3) (fun d hd Q hQ => ?_) rfl hD
  have hd1 : 1 ≤ d := by omega
  have v1 := hv.2.1
  have z' : bN p (τ 1) = 0 := bN_01.resolve_right hn
  refine b101_0 ?_
  simp only [↓br_pos, ↓br_neg, ↓rF_I, ↓rF_L, ↓rF_R, ↓rF_N, rO_m, rB_m, ↓rI_m, wI_m, ↓rB2_m, ↓rB3_m, wB2_m, wB3_m, ↓rL_m, wL_m, ↓rQ_m, wQ_m, ↓lI_m, pI_m, pL_m, pR_m, sI_m, sBy_m, sBo_m, sL_m, sQ_m, fst_m, true_and, and_true, tg_some, ln_some, uI_1, uI_2, uL_1, uL_2, uL_3, uQ_1, uQ_2, uQ_3, rv_i, rv_l, rv_n, rv_b0, rv_b1, RMR, ne_eq, reduceCtorEq, not_false_eq_true, Option.getD_some, if_true, if_false, and_self, false_and, and_false, Nat.add_left_cancel_iff, Nat.add_eq_left, Nat.left_eq_add, Nat.one_ne_zero, Nat.reduceAdd, Nat.reduceLT, Nat.reduceLeDiff, Nat.reduceEqDiff, true_implies, false_implies, implies_true, Option.some.injEq, forall_eq', forall_eq, reduceCtorEq, brT, brF, br_s, i_10, i_01, ib_0_2, ib_1_2, tn_0, tn_1, Int32.le_refl, eq_self, rv_bN, rv_iM, RCX 0, RCG 2, RCT 4, RCT 15, RCT 25, RCS 35, RCS 49, RCH 63, RCP 67, RCB 72, RCR 77, RCM 81, RLY, lit_at hw, RCT P, hT', p3, g_71 hT hτ.2.2.1 (by omega : τ 1 < 2147483648) hd1, z']
  exact hQ
theorem c_101 {w : mT} {σ : mS} {tp n : Nat} {t : Nat → Nat} {τ ρ : Rw} {bk : Nat → Rw} {has : Nat → Bool} {im : Nat → Rw} {p : Nat} {D : Nat} {K : Int32 → Hp → Prop} (h : cIn w σ tp t τ ρ n bk has im) (hp : p < τ 1) (hD : 4 ≤ D) : wpI D 101 [.ref 0, .int (Int32.ofNat p)] (mW w σ) K ↔ K (grV (tPi τ ρ p) (gPi τ ρ p)) (mW w (gU σ (tPi τ ρ p) (gPi τ ρ p))) := by
  have h' := h
  obtain ⟨hw, hS, hH, ⟨P, hP, p3, p4, hτ⟩, hρ, hv, hr, h1, htp, htb, ht⟩ := h
  have hT := isTP hw hP
  have hT' := hT
  simp only [isT] at hT'
  refine cI_of (m := 3) (fun d hd Q hQ => ?_) rfl hD
  have hd1 : 1 ≤ d := by omega
  have hd2 : 2 ≤ d := by omega
  have v1 := hv.2.1
  have z := bN_on hp (by omega : τ 1 < 2147483648)
  have tl := tPi_lt hv hr hp
  have gl := gPi_le hv hr hp
  refine b101_0 ?_
  simp only [↓br_pos, ↓br_neg, ↓rF_I, ↓rF_L, ↓rF_R, ↓rF_N, rO_m, rB_m, ↓rI_m, wI_m, ↓rB2_m, ↓rB3_m, wB2_m, wB3_m, ↓rL_m, wL_m, ↓rQ_m, wQ_m, ↓lI_m, pI_m, pL_m, pR_m, sI_m, sBy_m, sBo_m, sL_m, sQ_m, fst_m, true_and, and_true, tg_some, ln_some, uI_1, uI_2, uL_1, uL_2, uL_3, uQ_1, uQ_2, uQ_3, rv_i, rv_l, rv_n, rv_b0, rv_b1, RMR, ne_eq, reduceCtorEq, not_false_eq_true, Option.getD_some, if_true, if_false, and_self, false_and, and_false, Nat.add_left_cancel_iff, Nat.add_eq_left, Nat.left_eq_add, Nat.one_ne_zero, Nat.reduceAdd, Nat.reduceLT, Nat.reduceLeDiff, Nat.reduceEqDiff, true_implies, false_implies, implies_true, Option.some.injEq, forall_eq', forall_eq, reduceCtorEq, brT, brF, br_s, i_10, i_01, ib_0_2, ib_1_2, tn_0, tn_1, Int32.le_refl, eq_self, rv_bN, rv_iM, RCX 0, RCG 2, RCT 4, RCT 15, RCT 25, RCS 35, RCS 49, RCH 63, RCP 67, RCB 72, RCR 77, RCM 81, RLY, lit_at hw, RCT P, hT', p3, g_71 hT hτ.2.2.1 (by omega : τ 1 < 2147483648) hd1, z, g_58 (isS35 hw) hT hρ hτ hv hr hp hd, g_59 (isS35 hw) hT hρ hτ hv hr hp hd, g_126' (w := w) (σ := σ) hw (by omega : tPi τ ρ p < 2147483648) (by omega : gPi τ ρ p < 2147483648) hd2]
  exact hQ
theorem c_102z {w : mT} {σ : mS} {tp n : Nat} {t : Nat → Nat} {τ ρ : Rw} {bk : Nat → Rw} {has : Nat → Bool} {im : Nat → Rw} {s : Int32} {D : Nat} {K : Int32 → Hp → Prop} (h : cIn w σ tp t τ ρ n bk has im) (hn : bN s (τ 2) ≠ 1) (hD : 3 ≤ D) : wpI D 102 [.ref 0, .int s] (mW w σ) K ↔ K (-1) (mW w σ) := by
  have h' := h
  obtain ⟨hw, hS, hH, ⟨P, hP, p3, p4, hτ⟩, hρ, hv, hr, h1, htp, htb, ht⟩ := h
  have hT := isTP hw hP
  have hT' := hT
  simp only [isT] at hT'
  refine cI_of (m := 2) (fun d hd Q hQ => ?_) rfl hD
  have hd1 : 1 ≤ d := by omega
  have v1 := hv.2.2.1
  have z' : bN s (τ 2) = 0 := bN_01.resolve_right hn
  refine b102_0 ?_
  simp only [↓br_pos, ↓br_neg, ↓rF_I, ↓rF_L, ↓rF_R, ↓rF_N, rO_m, rB_m, ↓rI_m, wI_m, ↓rB2_m, ↓rB3_m, wB2_m, wB3_m, ↓rL_m, wL_m, ↓rQ_m, wQ_m, ↓lI_m, pI_m, pL_m, pR_m, sI_m, sBy_m, sBo_m, sL_m, sQ_m, fst_m, true_and, and_true, tg_some, ln_some, uI_1, uI_2, uL_1, uL_2, uL_3, uQ_1, uQ_2, uQ_3, rv_i, rv_l, rv_n, rv_b0, rv_b1, RMR, ne_eq, reduceCtorEq, not_false_eq_true, Option.getD_some, if_true, if_false, and_self, false_and, and_false, Nat.add_left_cancel_iff, Nat.add_eq_left, Nat.left_eq_add, Nat.one_ne_zero, Nat.reduceAdd, Nat.reduceLT, Nat.reduceLeDiff, Nat.reduceEqDiff, true_implies, false_implies, implies_true, Option.some.injEq, forall_eq', forall_eq, reduceCtorEq, brT, brF, br_s, i_10, i_01, ib_0_2, ib_1_2, tn_0, tn_1, Int32.le_refl, eq_self, rv_bN, rv_iM, RCX 0, RCG 2, RCT 4, RCT 15, RCT 25, RCS 35, RCS 49, RCH 63, RCP 67, RCB 72, RCR 77, RCM 81, RLY, lit_at hw, RCT P, hT', p3, g_73 hT hτ.2.2.2.1 (by omega : τ 2 < 2147483648) hd1, z']
  exact hQ
theorem c_102 {w : mT} {σ : mS} {tp n : Nat} {t : Nat → Nat} {τ ρ : Rw} {bk : Nat → Rw} {has : Nat → Bool} {im : Nat → Rw} {s : Nat} {D : Nat} {K : Int32 → Hp → Prop} (h : cIn w σ tp t τ ρ n bk has im) (hs : s < τ 2) (hD : 3 ≤ D) : wpI D 102 [.ref 0, .int (Int32.ofNat s)] (mW w σ) K ↔ K (grV (ρ (27 + s)) (ρ (35 + s))) (mW w (gU σ (ρ (27 + s)) (ρ (35 + s)))) := by
  have h' := h
  obtain ⟨hw, hS, hH, ⟨P, hP, p3, p4, hτ⟩, hρ, hv, hr, h1, htp, htb, ht⟩ := h
  have hT := isTP hw hP
  have hT' := hT
  simp only [isT] at hT'
  refine cI_of (m := 2) (fun d hd Q hQ => ?_) rfl hD
  have hd1 : 1 ≤ d := by omega
  have v1 := hv.2.2.1
  have z := bN_on hs (by omega : τ 2 < 2147483648)
  have tl := hold_lt hr hs
  have gl := vR_ore hr s hs
  have eb : inB (Int32.ofNat s) 8 = true := on_inB (by omega) (by omega)
  have en := on_nat (i := s) (by omega)
  have e5 : σ.1 40 s = Int32.ofNat (ρ (27 + s)) := tS_hT hρ hs
  have e6 : σ.1 41 s = Int32.ofNat (ρ (35 + s)) := tS_hO hρ hs
  refine b102_0 ?_
  simp only [↓br_pos, ↓br_neg, ↓rF_I, ↓rF_L, ↓rF_R, ↓rF_N, rO_m, rB_m, ↓rI_m, wI_m, ↓rB2_m, ↓rB3_m, wB2_m, wB3_m, ↓rL_m, wL_m, ↓rQ_m, wQ_m, ↓lI_m, pI_m, pL_m, pR_m, sI_m, sBy_m, sBo_m, sL_m, sQ_m, fst_m, true_and, and_true, tg_some, ln_some, uI_1, uI_2, uL_1, uL_2, uL_3, uQ_1, uQ_2, uQ_3, rv_i, rv_l, rv_n, rv_b0, rv_b1, RMR, ne_eq, reduceCtorEq, not_false_eq_true, Option.getD_some, if_true, if_false, and_self, false_and, and_false, Nat.add_left_cancel_iff, Nat.add_eq_left, Nat.left_eq_add, Nat.one_ne_zero, Nat.reduceAdd, Nat.reduceLT, Nat.reduceLeDiff, Nat.reduceEqDiff, true_implies, false_implies, implies_true, Option.some.injEq, forall_eq', forall_eq, reduceCtorEq, brT, brF, br_s, i_10, i_01, ib_0_2, ib_1_2, tn_0, tn_1, Int32.le_refl, eq_self, rv_bN, rv_iM, RCX 0, RCG 2, RCT 4, RCT 15, RCT 25, RCS 35, RCS 49, RCH 63, RCP 67, RCB 72, RCR 77, RCM 81, RLY, lit_at hw, RCT P, hT', p3, g_73 hT hτ.2.2.2.1 (by omega : τ 2 < 2147483648) hd1, z, eb, en, e5, e6, g_126' (w := w) (σ := σ) hw (by omega : ρ (27 + s) < 2147483648) (by omega : ρ (35 + s) < 2147483648) hd]
  exact hQ
theorem c_107z {w : mT} {σ : mS} {tp n : Nat} {t : Nat → Nat} {τ ρ : Rw} {bk : Nat → Rw} {has : Nat → Bool} {im : Nat → Rw} {p l a b c q : Int32} {D : Nat} {K : Int32 → Hp → Prop} (h : cIn w σ tp t τ ρ n bk has im) (hn : ¬ (bC τ p q = 1 ∧ cbP τ p l a b c)) (hD : 5 ≤ D) : wpI D 107 [.ref 0, .int p, .int l, .int a, .int b, .int c, .int q] (mW w σ) K ↔ K (-1) (mW w σ) := by
  have h' := h
  obtain ⟨hw, hS, hH, ⟨P, hP, p3, p4, hτ⟩, hρ, hv, hr, h1, htp, htb, ht⟩ := h
  have hT := isTP hw hP
  have hT' := hT
  simp only [isT] at hT'
  refine cI_of (m := 4) (fun d hd Q hQ => ?_) rfl hD
  have hd2 : 2 ≤ d := by omega
  refine b107_0 ?_
  by_cases z : bC τ p q = 1
  · have hc : ¬ cbP τ p l a b c := fun y => hn ⟨z, y⟩
    simp only [↓br_pos, ↓br_neg, ↓rF_I, ↓rF_L, ↓rF_R, ↓rF_N, rO_m, rB_m, ↓rI_m, wI_m, ↓rB2_m, ↓rB3_m, wB2_m, wB3_m, ↓rL_m, wL_m, ↓rQ_m, wQ_m, ↓lI_m, pI_m, pL_m, pR_m, sI_m, sBy_m, sBo_m, sL_m, sQ_m, fst_m, true_and, and_true, tg_some, ln_some, uI_1, uI_2, uL_1, uL_2, uL_3, uQ_1, uQ_2, uQ_3, rv_i, rv_l, rv_n, rv_b0, rv_b1, RMR, ne_eq, reduceCtorEq, not_false_eq_true, Option.getD_some, if_true, if_false, and_self, false_and, and_false, Nat.add_left_cancel_iff, Nat.add_eq_left, Nat.left_eq_add, Nat.one_ne_zero, Nat.reduceAdd, Nat.reduceLT, Nat.reduceLeDiff, Nat.reduceEqDiff, true_implies, false_implies, implies_true, Option.some.injEq, forall_eq', forall_eq, reduceCtorEq, brT, brF, br_s, i_10, i_01, ib_0_2, ib_1_2, tn_0, tn_1, Int32.le_refl, eq_self, rv_bN, rv_iM, RCX 0, RCG 2, RCT 4, RCT 15, RCT 25, RCS 35, RCS 49, RCH 63, RCP 67, RCB 72, RCR 77, RCM 81, RLY, lit_at hw, RCT P, hT', p3, g_72 hT hτ hv hd2, z, g_86z hw hP p3 hτ hv hc hd]
    exact hQ
  · have z' : bC τ p q = 0 := bC_01.resolve_right z
    simp only [↓br_pos, ↓br_neg, ↓rF_I, ↓rF_L, ↓rF_R, ↓rF_N, rO_m, rB_m, ↓rI_m, wI_m, ↓rB2_m, ↓rB3_m, wB2_m, wB3_m, ↓rL_m, wL_m, ↓rQ_m, wQ_m, ↓lI_m, pI_m, pL_m, pR_m, sI_m, sBy_m, sBo_m, sL_m, sQ_m, fst_m, true_and, and_true, tg_some, ln_some, uI_1, uI_2, uL_1, uL_2, uL_3, uQ_1, uQ_2, uQ_3, rv_i, rv_l, rv_n, rv_b0, rv_b1, RMR, ne_eq, reduceCtorEq, not_false_eq_true, Option.getD_some, if_true, if_false, and_self, false_and, and_false, Nat.add_left_cancel_iff, Nat.add_eq_left, Nat.left_eq_add, Nat.one_ne_zero, Nat.reduceAdd, Nat.reduceLT, Nat.reduceLeDiff, Nat.reduceEqDiff, true_implies, false_implies, implies_true, Option.some.injEq, forall_eq', forall_eq, reduceCtorEq, brT, brF, br_s, i_10, i_01, ib_0_2, ib_1_2, tn_0, tn_1, Int32.le_refl, eq_self, rv_bN, rv_iM, RCX 0, RCG 2, RCT 4, RCT 15, RCT 25, RCS 35, RCS 49, RCH 63, RCP 67, RCB 72, RCR 77, RCM 81, RLY, lit_at hw, RCT P, hT', p3, g_72 hT hτ hv hd2, z']
    exact hQ
theorem c_107n {w : mT} {σ : mS} {tp n : Nat} {t : Nat → Nat} {τ ρ : Rw} {bk : Nat → Rw} {has : Nat → Bool} {im : Nat → Rw} {p l a b c q : Nat} {D : Nat} {K : Int32 → Hp → Prop} (h : cIn w σ tp t τ ρ n bk has im) (hp : p < τ 1) (hl : l < τ 0) (ha : a < τ (28 + p)) (hb : b < τ (28 + p)) (hc : 1 ≤ c ∧ c ≤ 99) (hq : q < τ (28 + p)) (hn : wlN τ ρ p l a b c ≠ 0) (hD : 5 ≤ D) : wpI D 107 [.ref 0, .int (Int32.ofNat p), .int (Int32.ofNat l), .int (Int32.ofNat a), .int (Int32.ofNat b), .int (Int32.ofNat c), .int (Int32.ofNat q)] (mW w σ) K ↔ K (-1) (mW w σ) := by
  have h' := h
  obtain ⟨hw, hS, hH, ⟨P, hP, p3, p4, hτ⟩, hρ, hv, hr, h1, htp, htb, ht⟩ := h
  have hT := isTP hw hP
  have hT' := hT
  simp only [isT] at hT'
  refine cI_of (m := 4) (fun d hd Q hQ => ?_) rfl hD
  have hd2 : 2 ≤ d := by omega
  have z := bC_t hp hv hq
  have lt := wl_lt (τ := τ) (ρ := ρ) (p := p) (l := l) (a := a) (b := b) (t := c)
  have e0 : (Int32.ofNat (wlN τ ρ p l a b c) = 0) ↔ False := iff_false_intro (fun q => hn ((of_eq0 (by omega)).mp q))
  refine b107_0 ?_
  simp only [↓br_pos, ↓br_neg, ↓rF_I, ↓rF_L, ↓rF_R, ↓rF_N, rO_m, rB_m, ↓rI_m, wI_m, ↓rB2_m, ↓rB3_m, wB2_m, wB3_m, ↓rL_m, wL_m, ↓rQ_m, wQ_m, ↓lI_m, pI_m, pL_m, pR_m, sI_m, sBy_m, sBo_m, sL_m, sQ_m, fst_m, true_and, and_true, tg_some, ln_some, uI_1, uI_2, uL_1, uL_2, uL_3, uQ_1, uQ_2, uQ_3, rv_i, rv_l, rv_n, rv_b0, rv_b1, RMR, ne_eq, reduceCtorEq, not_false_eq_true, Option.getD_some, if_true, if_false, and_self, false_and, and_false, Nat.add_left_cancel_iff, Nat.add_eq_left, Nat.left_eq_add, Nat.one_ne_zero, Nat.reduceAdd, Nat.reduceLT, Nat.reduceLeDiff, Nat.reduceEqDiff, true_implies, false_implies, implies_true, Option.some.injEq, forall_eq', forall_eq, reduceCtorEq, brT, brF, br_s, i_10, i_01, ib_0_2, ib_1_2, tn_0, tn_1, Int32.le_refl, eq_self, rv_bN, rv_iM, RCX 0, RCG 2, RCT 4, RCT 15, RCT 25, RCS 35, RCS 49, RCH 63, RCP 67, RCB 72, RCR 77, RCM 81, RLY, lit_at hw, RCT P, hT', p3, g_72 hT hτ hv hd2, z, g_86 hw hP p3 hτ hv hρ hr hp hl ha hb hc hd, e0]
  exact hQ
abbrev rcP (a b q : Nat) : Prop := min a b ≤ q ∧ q ≤ max a b
def ilT (ρ : Rw) (p a b c q : Nat) : Nat := tOn ρ p q + (if rcP a b q then c else 0)
def ilG (τ ρ : Rw) (p l a b c q : Nat) : Nat := gOn τ ρ p q + (if rcP a b q then c else 0) * τ (16 + l)
theorem c_107 {w : mT} {σ : mS} {tp n : Nat} {t : Nat → Nat} {τ ρ : Rw} {bk : Nat → Rw} {has : Nat → Bool} {im : Nat → Rw} {p l a b c q : Nat} {D : Nat} {K : Int32 → Hp → Prop} (h : cIn w σ tp t τ ρ n bk has im) (hp : p < τ 1) (hl : l < τ 0) (ha : a < τ (28 + p)) (hb : b < τ (28 + p)) (hc : 1 ≤ c ∧ c ≤ 99) (hq : q < τ (28 + p)) (hn : wlN τ ρ p l a b c = 0) (hD : 5 ≤ D) : wpI D 107 [.ref 0, .int (Int32.ofNat p), .int (Int32.ofNat l), .int (Int32.ofNat a), .int (Int32.ofNat b), .int (Int32.ofNat c), .int (Int32.ofNat q)] (mW w σ) K ↔ K (grV (ilT ρ p a b c q) (ilG τ ρ p l a b c q)) (mW w (gU σ (ilT ρ p a b c q) (ilG τ ρ p l a b c q))) := by
  have h' := h
  obtain ⟨hw, hS, hH, ⟨P, hP, p3, p4, hτ⟩, hρ, hv, hr, h1, htp, htb, ht⟩ := h
  have hT := isTP hw hP
  have hT' := hT
  simp only [isT] at hT'
  refine cI_of (m := 4) (fun d hd Q hQ => ?_) rfl hD
  have hd2 : 2 ≤ d := by omega
  have v0 := hv.1
  have v1 := hv.2.1
  have v2 := (hv.2.2.2.2.2.1 p hp).2
  have z := bC_t hp hv hq
  have e0 : (Int32.ofNat (wlN τ ρ p l a b c) = 0) ↔ True := iff_true_intro (by rw [hn]; rfl)
  have mn := min_of (a := b) (b := a) (by omega) (by omega)
  have mx := max_2 (a := a) (b := b) (by omega) (by omega)
  have c1 := on_lt (i := q) (j := min a b) (by omega) (by omega)
  have c2 := on_lt (i := max a b) (j := q) (by omega) (by omega)
  have tl := tOn_lt hr (by omega : p < 3) (by omega : q < 12)
  have gl := gOn_le (c := q) hv hr (by omega : p < 3)
  have gr := (hv.2.2.2.2.1 l hl).2.2
  have eb : inB (Int32.ofNat l) 12 = true := on_inB (by omega) (by omega)
  have en := on_nat (i := l) (by omega)
  have eg := (hτ.2.2.2.2.1 l hl).2
  have e56 := fun {K : Int32 → Hp → Prop} => g_56 (K := K) (isS35 hw) hρ hr (by omega : p < 3) (by omega : q < 12) hd2
  have e57 := fun {K : Int32 → Hp → Prop} => g_57 (K := K) (isS35 hw) hT hρ hτ hv hr (by omega : p < 3) (by omega : q < 12) hd2
  have hcg : c * τ (16 + l) ≤ 99 * 999 := Nat.mul_le_mul hc.2 gr
  refine b107_0 ?_
  by_cases y : rcP a b q
  · have c1' := iff_false_intro (fun x => absurd (c1.mp x) (by omega))
    have c2' := iff_false_intro (fun x => absurd (c2.mp x) (by omega))
    have eT : ilT ρ p a b c q = tOn ρ p q + c := by unfold ilT; rw [if_pos y]
    have eG : ilG τ ρ p l a b c q = gOn τ ρ p q + c * τ (16 + l) := by unfold ilG; rw [if_pos y]
    rw [eT, eG] at hQ
    simp only [↓br_pos, ↓br_neg, ↓rF_I, ↓rF_L, ↓rF_R, ↓rF_N, rO_m, rB_m, ↓rI_m, wI_m, ↓rB2_m, ↓rB3_m, wB2_m, wB3_m, ↓rL_m, wL_m, ↓rQ_m, wQ_m, ↓lI_m, pI_m, pL_m, pR_m, sI_m, sBy_m, sBo_m, sL_m, sQ_m, fst_m, true_and, and_true, tg_some, ln_some, uI_1, uI_2, uL_1, uL_2, uL_3, uQ_1, uQ_2, uQ_3, rv_i, rv_l, rv_n, rv_b0, rv_b1, RMR, ne_eq, reduceCtorEq, not_false_eq_true, Option.getD_some, if_true, if_false, and_self, false_and, and_false, Nat.add_left_cancel_iff, Nat.add_eq_left, Nat.left_eq_add, Nat.one_ne_zero, Nat.reduceAdd, Nat.reduceLT, Nat.reduceLeDiff, Nat.reduceEqDiff, true_implies, false_implies, implies_true, Option.some.injEq, forall_eq', forall_eq, reduceCtorEq, brT, brF, br_s, i_10, i_01, ib_0_2, ib_1_2, tn_0, tn_1, Int32.le_refl, eq_self, rv_bN, rv_iM, RCX 0, RCG 2, RCT 4, RCT 15, RCT 25, RCS 35, RCS 49, RCH 63, RCP 67, RCB 72, RCR 77, RCM 81, RLY, lit_at hw, RCT P, hT', p3, g_72 hT hτ hv hd2, z, g_86 hw hP p3 hτ hv hρ hr hp hl ha hb hc hd, e0, mn, mx, c1', c2']
    refine b107_56 ?_
    simp only [↓br_pos, ↓br_neg, ↓rF_I, ↓rF_L, ↓rF_R, ↓rF_N, rO_m, rB_m, ↓rI_m, wI_m, ↓rB2_m, ↓rB3_m, wB2_m, wB3_m, ↓rL_m, wL_m, ↓rQ_m, wQ_m, ↓lI_m, pI_m, pL_m, pR_m, sI_m, sBy_m, sBo_m, sL_m, sQ_m, fst_m, true_and, and_true, tg_some, ln_some, uI_1, uI_2, uL_1, uL_2, uL_3, uQ_1, uQ_2, uQ_3, rv_i, rv_l, rv_n, rv_b0, rv_b1, RMR, ne_eq, reduceCtorEq, not_false_eq_true, Option.getD_some, if_true, if_false, and_self, false_and, and_false, Nat.add_left_cancel_iff, Nat.add_eq_left, Nat.left_eq_add, Nat.one_ne_zero, Nat.reduceAdd, Nat.reduceLT, Nat.reduceLeDiff, Nat.reduceEqDiff, true_implies, false_implies, implies_true, Option.some.injEq, forall_eq', forall_eq, reduceCtorEq, brT, brF, br_s, i_10, i_01, ib_0_2, ib_1_2, tn_0, tn_1, Int32.le_refl, eq_self, rv_bN, rv_iM, RCX 0, RCG 2, RCT 4, RCT 15, RCT 25, RCS 35, RCS 49, RCH 63, RCP 67, RCB 72, RCR 77, RCM 81, RLY, lit_at hw, RCT P, hT', p3, e56, e57, eb, en, eg, of_mul, of_add, g_126' (w := w) (σ := σ) hw (by omega : tOn ρ p q + c < 2147483648) (by omega : gOn τ ρ p q + c * τ (16 + l) < 2147483648) hd2]
    exact hQ
  · have eT : ilT ρ p a b c q = tOn ρ p q + 0 := by unfold ilT; rw [if_neg y]
    have eG : ilG τ ρ p l a b c q = gOn τ ρ p q + 0 * τ (16 + l) := by unfold ilG; rw [if_neg y]
    rw [eT, eG] at hQ
    have m0 : (0 : Int32) * Int32.ofNat (τ (16 + l)) = Int32.ofNat (0 * τ (16 + l)) := of_mul (a := 0)
    have a0 : Int32.ofNat (tOn ρ p q) + 0 = Int32.ofNat (tOn ρ p q + 0) := of_add (b := 0)
    have fin : Wp 107 56 [.ref 0, .int (Int32.ofNat p), .int (Int32.ofNat l), .int (Int32.ofNat a), .int (Int32.ofNat b), .int (Int32.ofNat c), .int (Int32.ofNat q), jk, jk] [.int (0 : Int32)] (mW w σ) Q d := by
      refine b107_56 ?_
      simp only [↓br_pos, ↓br_neg, ↓rF_I, ↓rF_L, ↓rF_R, ↓rF_N, rO_m, rB_m, ↓rI_m, wI_m, ↓rB2_m, ↓rB3_m, wB2_m, wB3_m, ↓rL_m, wL_m, ↓rQ_m, wQ_m, ↓lI_m, pI_m, pL_m, pR_m, sI_m, sBy_m, sBo_m, sL_m, sQ_m, fst_m, true_and, and_true, tg_some, ln_some, uI_1, uI_2, uL_1, uL_2, uL_3, uQ_1, uQ_2, uQ_3, rv_i, rv_l, rv_n, rv_b0, rv_b1, RMR, ne_eq, reduceCtorEq, not_false_eq_true, Option.getD_some, if_true, if_false, and_self, false_and, and_false, Nat.add_left_cancel_iff, Nat.add_eq_left, Nat.left_eq_add, Nat.one_ne_zero, Nat.reduceAdd, Nat.reduceLT, Nat.reduceLeDiff, Nat.reduceEqDiff, true_implies, false_implies, implies_true, Option.some.injEq, forall_eq', forall_eq, reduceCtorEq, brT, brF, br_s, i_10, i_01, ib_0_2, ib_1_2, tn_0, tn_1, Int32.le_refl, eq_self, rv_bN, rv_iM, RCX 0, RCG 2, RCT 4, RCT 15, RCT 25, RCS 35, RCS 49, RCH 63, RCP 67, RCB 72, RCR 77, RCM 81, RLY, lit_at hw, RCT P, hT', p3, e56, e57, eb, en, eg, m0, a0, of_add, g_126' (w := w) (σ := σ) hw (by omega : tOn ρ p q + 0 < 2147483648) (by omega : gOn τ ρ p q + 0 * τ (16 + l) < 2147483648) hd2]
      exact hQ
    by_cases x : q < min a b
    · have c1' := iff_true_intro (c1.mpr x)
      simp only [↓br_pos, ↓br_neg, ↓rF_I, ↓rF_L, ↓rF_R, ↓rF_N, rO_m, rB_m, ↓rI_m, wI_m, ↓rB2_m, ↓rB3_m, wB2_m, wB3_m, ↓rL_m, wL_m, ↓rQ_m, wQ_m, ↓lI_m, pI_m, pL_m, pR_m, sI_m, sBy_m, sBo_m, sL_m, sQ_m, fst_m, true_and, and_true, tg_some, ln_some, uI_1, uI_2, uL_1, uL_2, uL_3, uQ_1, uQ_2, uQ_3, rv_i, rv_l, rv_n, rv_b0, rv_b1, RMR, ne_eq, reduceCtorEq, not_false_eq_true, Option.getD_some, if_true, if_false, and_self, false_and, and_false, Nat.add_left_cancel_iff, Nat.add_eq_left, Nat.left_eq_add, Nat.one_ne_zero, Nat.reduceAdd, Nat.reduceLT, Nat.reduceLeDiff, Nat.reduceEqDiff, true_implies, false_implies, implies_true, Option.some.injEq, forall_eq', forall_eq, reduceCtorEq, brT, brF, br_s, i_10, i_01, ib_0_2, ib_1_2, tn_0, tn_1, Int32.le_refl, eq_self, rv_bN, rv_iM, RCX 0, RCG 2, RCT 4, RCT 15, RCT 25, RCS 35, RCS 49, RCH 63, RCP 67, RCB 72, RCR 77, RCM 81, RLY, lit_at hw, RCT P, hT', p3, g_72 hT hτ hv hd2, z, g_86 hw hP p3 hτ hv hρ hr hp hl ha hb hc hd, e0, mn, mx, c1']
      exact fin
    · have c1' := iff_false_intro (fun r => x (c1.mp r))
      have c2' := iff_true_intro (c2.mpr (by omega))
      simp only [↓br_pos, ↓br_neg, ↓rF_I, ↓rF_L, ↓rF_R, ↓rF_N, rO_m, rB_m, ↓rI_m, wI_m, ↓rB2_m, ↓rB3_m, wB2_m, wB3_m, ↓rL_m, wL_m, ↓rQ_m, wQ_m, ↓lI_m, pI_m, pL_m, pR_m, sI_m, sBy_m, sBo_m, sL_m, sQ_m, fst_m, true_and, and_true, tg_some, ln_some, uI_1, uI_2, uL_1, uL_2, uL_3, uQ_1, uQ_2, uQ_3, rv_i, rv_l, rv_n, rv_b0, rv_b1, RMR, ne_eq, reduceCtorEq, not_false_eq_true, Option.getD_some, if_true, if_false, and_self, false_and, and_false, Nat.add_left_cancel_iff, Nat.add_eq_left, Nat.left_eq_add, Nat.one_ne_zero, Nat.reduceAdd, Nat.reduceLT, Nat.reduceLeDiff, Nat.reduceEqDiff, true_implies, false_implies, implies_true, Option.some.injEq, forall_eq', forall_eq, reduceCtorEq, brT, brF, br_s, i_10, i_01, ib_0_2, ib_1_2, tn_0, tn_1, Int32.le_refl, eq_self, rv_bN, rv_iM, RCX 0, RCG 2, RCT 4, RCT 15, RCT 25, RCS 35, RCS 49, RCH 63, RCP 67, RCB 72, RCR 77, RCM 81, RLY, lit_at hw, RCT P, hT', p3, g_72 hT hτ hv hd2, z, g_86 hw hP p3 hτ hv hρ hr hp hl ha hb hc hd, e0, mn, mx, c1', c2']
      exact fin
end
