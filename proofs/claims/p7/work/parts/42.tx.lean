/-! the class's Reader reads a TEXT; text -/
def frY (p : Nat) (σ σ' : mS) : Prop := (∀ a, a ≠ 2 → a ≠ 14 → (a < p ∨ p + 10 ≤ a) → σ'.1 a = σ.1 a) ∧ σ'.2.1 = σ.2.1 ∧ ∀ a, a ≠ 2 → σ'.2.2 a = σ.2.2 a
theorem frY_X {p : Nat} {σ σ' σ'' : mS} (h : frY p σ σ') (h' : frX p σ' σ'') : frY p σ σ'' := ⟨fun a h1 h2 h3 => (h'.1 a h1 h2 h3).trans (h.1 a h1 h2 h3), by rw [h'.2]; exact h.2.1, fun a ha => by rw [h'.2]; exact h.2.2 a ha⟩
theorem frX_c {p : Nat} {σ σ' : mS} (h : frR 2 3 σ σ') : frX p σ σ' := frX_R h
theorem isT15 {w : mT} (hw : lit w) : isT w 15 := by
  unfold isT
  simp only [Nat.reduceAdd, Nat.reduceLT, RLY, lit_at hw, and_self]
theorem isT25 {w : mT} (hw : lit w) : isT w 25 := by
  unfold isT
  simp only [Nat.reduceAdd, Nat.reduceLT, RLY, lit_at hw, and_self]
theorem vT_00 : vTold τ00 := ⟨by decide, by decide, by decide, by decide, fun l hl => absurd hl (Nat.not_lt_zero _), fun p hp => absurd hp (Nat.not_lt_zero _), fun s hs => absurd hs (Nat.not_lt_zero _)⟩
def st27_15 (σ : mS) (n : Nat) : mS := uI (uI (uI (uI (uI (uI (uQ (uI (uI (uI (uI (uQ σ 2 0 (some 1)) 2 1 (Int32.ofNat n)) 2 3 0) 2 5 0) 2 6 0) 2 7 (some 15)) 2 9 0) 15 0 0) 15 1 1) 15 2 0) 15 3 0) 15 4 0
theorem fr27_15 {σ : mS} {n : Nat} : frY 15 σ (st27_15 σ n) := by
  refine ⟨fun a h2 h14 h3 => funext fun j => ?_, rfl, fun a ha => funext fun j => ?_⟩
  · unfold st27_15
    rw [uI_1, if_neg (by omega), uI_1, if_neg (by omega), uI_1, if_neg (by omega), uI_1, if_neg (by omega), uI_1, if_neg (by omega), uI_1, if_neg (by omega), uQ_1, uI_1, if_neg (by omega), uI_1, if_neg (by omega), uI_1, if_neg (by omega), uI_1, if_neg (by omega), uQ_1]
  · show (uQ (uI (uI (uI (uI (uQ σ 2 0 (some 1)) 2 1 (Int32.ofNat n)) 2 3 0) 2 5 0) 2 6 0) 2 7 (some 15)).2.2 a j = _
    rw [uQ_3, if_neg (fun q => ha q.1)]
    show (uQ σ 2 0 (some 1)).2.2 a j = _
    rw [uQ_3, if_neg (fun q => ha q.1)]
theorem g_27_15 {w : mT} {σ : mS} {t : Nat → Nat} {n : Nat} (hw : lit w) (ht : ∀ i, t i < 256) (htp : ∀ i, i < 600 → σ.1 1 i = Int32.ofNat (t i)) (hn : n ≤ 600) : ∃ σ', frY 15 σ σ' ∧ ((rAll t n).1 = 0 → tTold σ' 15 (rAll t n).2.1 ∧ vTold (rAll t n).2.1 ∧ σ'.1 15 0 = Int32.ofNat (rAll t n).2.2) ∧ (rAll t n).1 < 5000 ∧ ∀ {D : Nat} {K : Int32 → Hp → Prop}, 7 ≤ D → (wpI D 27 [.ref 2, .ref 1, .int (Int32.ofNat n), .ref 15] (mW w σ) K ↔ K (Int32.ofNat (rAll t n).1) (mW w σ')) := by
  have e := fr27_15 (σ := σ) (n := n)
  have c1 : (st27_15 σ n).1 2 1 = Int32.ofNat n := by unfold st27_15; simp only [uI_1, uQ_1, Nat.reduceEqDiff, false_and, and_false, and_self, if_false, if_true]
  have c3 : (st27_15 σ n).1 2 3 = 0 := by unfold st27_15; simp only [uI_1, uQ_1, Nat.reduceEqDiff, false_and, and_false, and_self, if_false, if_true]
  have c5 : (st27_15 σ n).1 2 5 = 0 := by unfold st27_15; simp only [uI_1, uQ_1, Nat.reduceEqDiff, false_and, and_false, and_self, if_false, if_true]
  have c6 : (st27_15 σ n).1 2 6 = 0 := by unfold st27_15; simp only [uI_1, uQ_1, Nat.reduceEqDiff, false_and, and_false, and_self, if_false, if_true]
  have c9 : (st27_15 σ n).1 2 9 = 0 := by unfold st27_15; simp only [uI_1, uQ_1, Nat.reduceEqDiff, false_and, and_false, and_self, if_false, if_true]
  have d0 : (st27_15 σ n).1 15 0 = 0 := by unfold st27_15; rw [uI_1, if_neg (by omega), uI_1, if_neg (by omega), uI_1, if_neg (by omega), uI_1, if_neg (by omega), uI_1, if_pos ⟨rfl, rfl⟩]
  have d1 : (st27_15 σ n).1 15 1 = 1 := by unfold st27_15; rw [uI_1, if_neg (by omega), uI_1, if_neg (by omega), uI_1, if_neg (by omega), uI_1, if_pos ⟨rfl, rfl⟩]
  have d2 : (st27_15 σ n).1 15 2 = 0 := by unfold st27_15; rw [uI_1, if_neg (by omega), uI_1, if_neg (by omega), uI_1, if_pos ⟨rfl, rfl⟩]
  have d3 : (st27_15 σ n).1 15 3 = 0 := by unfold st27_15; rw [uI_1, if_neg (by omega), uI_1, if_pos ⟨rfl, rfl⟩]
  have d4 : (st27_15 σ n).1 15 4 = 0 := by unfold st27_15; rw [uI_1, if_pos ⟨rfl, rfl⟩]
  have b0 : (st27_15 σ n).2.2 2 0 = some 1 := by
    show (uQ (uI (uI (uI (uI (uQ σ 2 0 (some 1)) 2 1 (Int32.ofNat n)) 2 3 0) 2 5 0) 2 6 0) 2 7 (some 15)).2.2 2 0 = _
    rw [uQ_3, if_neg (by omega)]
    show (uQ σ 2 0 (some 1)).2.2 2 0 = _
    rw [uQ_3, if_pos ⟨rfl, rfl⟩]
  have b7 : (st27_15 σ n).2.2 2 7 = some 15 := by
    show (uQ (uI (uI (uI (uI (uQ σ 2 0 (some 1)) 2 1 (Int32.ofNat n)) 2 3 0) 2 5 0) 2 6 0) 2 7 (some 15)).2.2 2 7 = _
    rw [uQ_3, if_pos ⟨rfl, rfl⟩]
  have hB : tBy (st27_15 σ n) t := ⟨b0, fun i hi => by rw [e.1 1 (by omega) (by omega) (by omega)]; exact htp i hi⟩
  obtain ⟨σ1, f1, t1, e1⟩ := g_39w (g := g00) hw ht hB c1 c3 c5 c6 c9 (Nat.zero_le _) hn
  have vg1 := vG_w (t := t) (n := n) (g := g00) (Nat.zero_le _) hn
  have T1 : tTold σ1 15 τ00 := by
    have r : ∀ a, 15 ≤ a → a < 25 → σ1.1 a = (st27_15 σ n).1 a := fun a h1 h2 => f1.1 a (by omega)
    refine ⟨by rw [r 15 (by omega) (by omega)]; exact d1, by rw [r 15 (by omega) (by omega)]; exact d2, by rw [r 15 (by omega) (by omega)]; exact d3, by rw [r 15 (by omega) (by omega)]; exact d4, fun l hl => absurd hl (Nat.not_lt_zero _), fun p hp => absurd hp (Nat.not_lt_zero _), fun s hs => absurd hs (Nat.not_lt_zero _)⟩
  have S1 : rS σ1 t n 15 (adv t n g00) (fun _ => 0) τ00 := ⟨t1, fun i hi => absurd hi (by rw [adv_g (by omega)]; show ¬ i < 0; omega), T1, by rw [f1.2]; exact b7⟩
  have V1 : rV n (adv t n g00) τ00 := ⟨vg1, by rw [adv_g (by omega)]; rfl, vT_00, by rw [adv_g (by omega)]; rfl⟩
  obtain ⟨σ2, x2, z2, lt2, e2⟩ := lp_27_15 (n := n) (x := Int32.ofNat n) hw ht 600 0 σ1 (adv t n g00) τ00 (fun _ => 0) 0 rfl S1 V1 (by rw [adv_g (by omega)]; exact Nat.zero_le _) (by rw [f1.1 15 (by omega)]; exact d0)
  refine ⟨σ2, frY_X (frY_X e (frX_R f1)) x2, z2, lt2, fun hD => cI_of (m := 6) (fun d hd Q hQ => ?_) rfl hD⟩
  have hd1 : 1 ≤ d := by omega
  have hd2 : 2 ≤ d := by omega
  have hd3 : 3 ≤ d := by omega
  have hd4 : 4 ≤ d := by omega
  have hd5 : 5 ≤ d := by omega
  have hd6 : 6 ≤ d := by omega
  have hm : (if Int32.ofNat 600 < Int32.ofNat n then Int32.ofNat 600 else Int32.ofNat n) = Int32.ofNat n := by
    rw [min_of (by omega) (by omega)]; congr 1; omega
  unfold st27_15 at e1
  refine b27_0 ?_
  simp only [↓br_pos, ↓br_neg, ↓rF_I, ↓rF_L, ↓rF_R, ↓rF_N, rO_m, rB_m, ↓rI_m, wI_m, ↓rB2_m, ↓rB3_m, wB2_m, wB3_m, ↓rL_m, wL_m, ↓rQ_m, wQ_m, ↓lI_m, pI_m, pL_m, pR_m, sI_m, sBy_m, sBo_m, sL_m, sQ_m, fst_m, true_and, and_true, tg_some, ln_some, uI_1, uI_2, uL_1, uL_2, uL_3, uQ_1, uQ_2, uQ_3, rv_i, rv_l, rv_n, rv_b0, rv_b1, RMR, ne_eq, reduceCtorEq, not_false_eq_true, Option.getD_some, if_true, if_false, and_self, false_and, and_false, Nat.add_left_cancel_iff, Nat.add_eq_left, Nat.left_eq_add, Nat.one_ne_zero, Nat.reduceAdd, Nat.reduceLT, Nat.reduceLeDiff, Nat.reduceEqDiff, true_implies, false_implies, implies_true, Option.some.injEq, forall_eq', forall_eq, reduceCtorEq, brT, brF, br_s, i_10, i_01, ib_0_2, ib_1_2, tn_0, tn_1, Int32.le_refl, eq_self, rv_bN, rv_iM, RCX 0, RCG 2, RCT 4, RCT 15, RCT 25, RCS 35, RCS 49, RCH 63, RCP 67, RCB 72, RCR 77, RCM 81, RLY, lit_at hw, hm, g_69 (isT15 hw) hd1, e1 hd3]
  exact e2 hd hQ
def st27_25 (σ : mS) (n : Nat) : mS := uI (uI (uI (uI (uI (uI (uQ (uI (uI (uI (uI (uQ σ 2 0 (some 1)) 2 1 (Int32.ofNat n)) 2 3 0) 2 5 0) 2 6 0) 2 7 (some 25)) 2 9 0) 25 0 0) 25 1 1) 25 2 0) 25 3 0) 25 4 0
theorem fr27_25 {σ : mS} {n : Nat} : frY 25 σ (st27_25 σ n) := by
  refine ⟨fun a h2 h14 h3 => funext fun j => ?_, rfl, fun a ha => funext fun j => ?_⟩
  · unfold st27_25
    rw [uI_1, if_neg (by omega), uI_1, if_neg (by omega), uI_1, if_neg (by omega), uI_1, if_neg (by omega), uI_1, if_neg (by omega), uI_1, if_neg (by omega), uQ_1, uI_1, if_neg (by omega), uI_1, if_neg (by omega), uI_1, if_neg (by omega), uI_1, if_neg (by omega), uQ_1]
  · show (uQ (uI (uI (uI (uI (uQ σ 2 0 (some 1)) 2 1 (Int32.ofNat n)) 2 3 0) 2 5 0) 2 6 0) 2 7 (some 25)).2.2 a j = _
    rw [uQ_3, if_neg (fun q => ha q.1)]
    show (uQ σ 2 0 (some 1)).2.2 a j = _
    rw [uQ_3, if_neg (fun q => ha q.1)]
theorem g_27_25 {w : mT} {σ : mS} {t : Nat → Nat} {n : Nat} (hw : lit w) (ht : ∀ i, t i < 256) (htp : ∀ i, i < 600 → σ.1 1 i = Int32.ofNat (t i)) (hn : n ≤ 600) : ∃ σ', frY 25 σ σ' ∧ ((rAll t n).1 = 0 → tTold σ' 25 (rAll t n).2.1 ∧ vTold (rAll t n).2.1 ∧ σ'.1 25 0 = Int32.ofNat (rAll t n).2.2) ∧ (rAll t n).1 < 5000 ∧ ∀ {D : Nat} {K : Int32 → Hp → Prop}, 7 ≤ D → (wpI D 27 [.ref 2, .ref 1, .int (Int32.ofNat n), .ref 25] (mW w σ) K ↔ K (Int32.ofNat (rAll t n).1) (mW w σ')) := by
  have e := fr27_25 (σ := σ) (n := n)
  have c1 : (st27_25 σ n).1 2 1 = Int32.ofNat n := by unfold st27_25; simp only [uI_1, uQ_1, Nat.reduceEqDiff, false_and, and_false, and_self, if_false, if_true]
  have c3 : (st27_25 σ n).1 2 3 = 0 := by unfold st27_25; simp only [uI_1, uQ_1, Nat.reduceEqDiff, false_and, and_false, and_self, if_false, if_true]
  have c5 : (st27_25 σ n).1 2 5 = 0 := by unfold st27_25; simp only [uI_1, uQ_1, Nat.reduceEqDiff, false_and, and_false, and_self, if_false, if_true]
  have c6 : (st27_25 σ n).1 2 6 = 0 := by unfold st27_25; simp only [uI_1, uQ_1, Nat.reduceEqDiff, false_and, and_false, and_self, if_false, if_true]
  have c9 : (st27_25 σ n).1 2 9 = 0 := by unfold st27_25; simp only [uI_1, uQ_1, Nat.reduceEqDiff, false_and, and_false, and_self, if_false, if_true]
  have d0 : (st27_25 σ n).1 25 0 = 0 := by unfold st27_25; rw [uI_1, if_neg (by omega), uI_1, if_neg (by omega), uI_1, if_neg (by omega), uI_1, if_neg (by omega), uI_1, if_pos ⟨rfl, rfl⟩]
  have d1 : (st27_25 σ n).1 25 1 = 1 := by unfold st27_25; rw [uI_1, if_neg (by omega), uI_1, if_neg (by omega), uI_1, if_neg (by omega), uI_1, if_pos ⟨rfl, rfl⟩]
  have d2 : (st27_25 σ n).1 25 2 = 0 := by unfold st27_25; rw [uI_1, if_neg (by omega), uI_1, if_neg (by omega), uI_1, if_pos ⟨rfl, rfl⟩]
  have d3 : (st27_25 σ n).1 25 3 = 0 := by unfold st27_25; rw [uI_1, if_neg (by omega), uI_1, if_pos ⟨rfl, rfl⟩]
  have d4 : (st27_25 σ n).1 25 4 = 0 := by unfold st27_25; rw [uI_1, if_pos ⟨rfl, rfl⟩]
  have b0 : (st27_25 σ n).2.2 2 0 = some 1 := by
    show (uQ (uI (uI (uI (uI (uQ σ 2 0 (some 1)) 2 1 (Int32.ofNat n)) 2 3 0) 2 5 0) 2 6 0) 2 7 (some 25)).2.2 2 0 = _
    rw [uQ_3, if_neg (by omega)]
    show (uQ σ 2 0 (some 1)).2.2 2 0 = _
    rw [uQ_3, if_pos ⟨rfl, rfl⟩]
  have b7 : (st27_25 σ n).2.2 2 7 = some 25 := by
    show (uQ (uI (uI (uI (uI (uQ σ 2 0 (some 1)) 2 1 (Int32.ofNat n)) 2 3 0) 2 5 0) 2 6 0) 2 7 (some 25)).2.2 2 7 = _
    rw [uQ_3, if_pos ⟨rfl, rfl⟩]
  have hB : tBy (st27_25 σ n) t := ⟨b0, fun i hi => by rw [e.1 1 (by omega) (by omega) (by omega)]; exact htp i hi⟩
  obtain ⟨σ1, f1, t1, e1⟩ := g_39w (g := g00) hw ht hB c1 c3 c5 c6 c9 (Nat.zero_le _) hn
  have vg1 := vG_w (t := t) (n := n) (g := g00) (Nat.zero_le _) hn
  have T1 : tTold σ1 25 τ00 := by
    have r : ∀ a, 25 ≤ a → a < 35 → σ1.1 a = (st27_25 σ n).1 a := fun a h1 h2 => f1.1 a (by omega)
    refine ⟨by rw [r 25 (by omega) (by omega)]; exact d1, by rw [r 25 (by omega) (by omega)]; exact d2, by rw [r 25 (by omega) (by omega)]; exact d3, by rw [r 25 (by omega) (by omega)]; exact d4, fun l hl => absurd hl (Nat.not_lt_zero _), fun p hp => absurd hp (Nat.not_lt_zero _), fun s hs => absurd hs (Nat.not_lt_zero _)⟩
  have S1 : rS σ1 t n 25 (adv t n g00) (fun _ => 0) τ00 := ⟨t1, fun i hi => absurd hi (by rw [adv_g (by omega)]; show ¬ i < 0; omega), T1, by rw [f1.2]; exact b7⟩
  have V1 : rV n (adv t n g00) τ00 := ⟨vg1, by rw [adv_g (by omega)]; rfl, vT_00, by rw [adv_g (by omega)]; rfl⟩
  obtain ⟨σ2, x2, z2, lt2, e2⟩ := lp_27_25 (n := n) (x := Int32.ofNat n) hw ht 600 0 σ1 (adv t n g00) τ00 (fun _ => 0) 0 rfl S1 V1 (by rw [adv_g (by omega)]; exact Nat.zero_le _) (by rw [f1.1 25 (by omega)]; exact d0)
  refine ⟨σ2, frY_X (frY_X e (frX_R f1)) x2, z2, lt2, fun hD => cI_of (m := 6) (fun d hd Q hQ => ?_) rfl hD⟩
  have hd1 : 1 ≤ d := by omega
  have hd2 : 2 ≤ d := by omega
  have hd3 : 3 ≤ d := by omega
  have hd4 : 4 ≤ d := by omega
  have hd5 : 5 ≤ d := by omega
  have hd6 : 6 ≤ d := by omega
  have hm : (if Int32.ofNat 600 < Int32.ofNat n then Int32.ofNat 600 else Int32.ofNat n) = Int32.ofNat n := by
    rw [min_of (by omega) (by omega)]; congr 1; omega
  unfold st27_25 at e1
  refine b27_0 ?_
  simp only [↓br_pos, ↓br_neg, ↓rF_I, ↓rF_L, ↓rF_R, ↓rF_N, rO_m, rB_m, ↓rI_m, wI_m, ↓rB2_m, ↓rB3_m, wB2_m, wB3_m, ↓rL_m, wL_m, ↓rQ_m, wQ_m, ↓lI_m, pI_m, pL_m, pR_m, sI_m, sBy_m, sBo_m, sL_m, sQ_m, fst_m, true_and, and_true, tg_some, ln_some, uI_1, uI_2, uL_1, uL_2, uL_3, uQ_1, uQ_2, uQ_3, rv_i, rv_l, rv_n, rv_b0, rv_b1, RMR, ne_eq, reduceCtorEq, not_false_eq_true, Option.getD_some, if_true, if_false, and_self, false_and, and_false, Nat.add_left_cancel_iff, Nat.add_eq_left, Nat.left_eq_add, Nat.one_ne_zero, Nat.reduceAdd, Nat.reduceLT, Nat.reduceLeDiff, Nat.reduceEqDiff, true_implies, false_implies, implies_true, Option.some.injEq, forall_eq', forall_eq, reduceCtorEq, brT, brF, br_s, i_10, i_01, ib_0_2, ib_1_2, tn_0, tn_1, Int32.le_refl, eq_self, rv_bN, rv_iM, RCX 0, RCG 2, RCT 4, RCT 15, RCT 25, RCS 35, RCS 49, RCH 63, RCP 67, RCB 72, RCR 77, RCM 81, RLY, lit_at hw, hm, g_69 (isT25 hw) hd1, e1 hd3]
  exact e2 hd hQ
