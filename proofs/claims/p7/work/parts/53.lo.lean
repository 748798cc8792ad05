/-! Loading: what it does is safe -/
theorem sm_ins {f : Nat → Nat} {a x : Nat} : ∀ n, a ≤ n → sm (n + 1) (fun i => if i < a then f i else if i = a then x else f (i - 1)) = sm n f + x := by
  intro n
  induction n with
  | zero =>
    intro ha
    have e : a = 0 := by omega
    subst e
    rfl
  | succ n ih =>
    intro ha
    rw [sm_s]
    by_cases c : a = n + 1
    · rw [if_neg (by omega), if_pos c.symm]
      congr 1
      exact sm_eq (fun i hi => if_pos (by omega))
    · rw [ih (by omega), if_neg (by omega), if_neg (by omega), sm_s]
      show sm n f + x + f n = sm n f + f n + x
      omega
/-- the ships that did not sail, by some row of theirs -/
def opS (ρ : Rw) (g : Nat → Nat) (s : Nat) : Nat := if ρ (43 + s) = 0 then g s else 0
def loI (σ : mS) (ρ : Rw) (m n : Nat) (b : Nat → Nat) : Prop := σ.1 67 0 = Int32.ofNat n ∧ n ≤ m ∧ (∀ i, i < n → σ.1 70 i = Int32.ofNat (b i) ∧ b i < m ∧ ρ (43 + b i) = 0) ∧ ∀ g : Nat → Nat, sm n (fun i => g (b i)) = sm m (opS ρ g)
/-- what Loading sees of the others -/
def loE (w : mT) (σ : mS) (P : Nat) (τ ρ : Rw) : Prop := lit w ∧ (P = 15 ∨ P = 25) ∧ tTold σ P τ ∧ vTold τ ∧ tSt σ 35 τ ρ ∧ vRow τ ρ
theorem loE_fr {w : mT} {σ σ' : mS} {P : Nat} {τ ρ : Rw} (h : loE w σ P τ ρ) (f : frR 67 72 σ σ') : loE w σ' P τ ρ := by
  obtain ⟨a, b, c, d, e, g⟩ := h
  exact ⟨a, b, tTold_fr c (fun x h1 h2 => f.1 x (by omega)), d, tSt_fr e (fun x h1 h2 => f.1 x (by omega)), g⟩
theorem lo_due {σ : mS} {P s : Nat} {τ : Rw} (hτ : tTold σ P τ) (hs : s < τ 2) : σ.1 (P + 7) s = Int32.ofNat (τ (31 + 6 * s + 3)) := (hτ.2.2.2.2.2.2 s hs).2.2.2.1
theorem lo_load {σ : mS} {P s : Nat} {τ : Rw} (hτ : tTold σ P τ) (hs : s < τ 2) : σ.1 (P + 8) s = Int32.ofNat (τ (31 + 6 * s + 4)) := (hτ.2.2.2.2.2.2 s hs).2.2.2.2.1
theorem lo_fine {σ : mS} {P s : Nat} {τ : Rw} (hτ : tTold σ P τ) (hs : s < τ 2) : σ.1 (P + 9) s = Int32.ofNat (τ (31 + 6 * s + 5)) := (hτ.2.2.2.2.2.2 s hs).2.2.2.2.2
theorem open_iff {τ ρ : Rw} {s : Nat} (hr : vRow τ ρ) (hs : s < τ 2) : (Int32.ofNat (ρ (43 + s)) - 1 = (-1 : Int32)) ↔ ρ (43 + s) = 0 := m1_eq (by have := vR_sa hr s hs; omega)
/-- one is put where it belongs -/
theorem in_17 {w : mT} {P s n : Nat} {τ ρ : Rw} {b : Nat → Nat} (hs : s < τ 2) (hn : n ≤ s) (hb : ∀ i, i < n → b i < s) : ∀ (k : Nat) (σ : mS), k ≤ n → loE w σ P τ ρ → σ.1 67 0 = Int32.ofNat n → (∀ i, i < k → σ.1 70 i = Int32.ofNat (b i)) → (∀ i, k < i → i ≤ n → σ.1 70 i = Int32.ofNat (b (i - 1))) → ∃ σ' k', k' ≤ n ∧ frR 67 72 σ σ' ∧ σ'.1 67 0 = Int32.ofNat (n + 1) ∧ (∀ i, i ≤ n → σ'.1 70 i = Int32.ofNat (if i < k' then b i else if i = k' then s else b (i - 1))) ∧ ∀ {Q : Option (Option Value) → Hp → Prop} {d : Nat}, Wp 17 7 [.ref 67, .ref P, .ref 35, .int (Int32.ofNat (s + 1)), .int (Int32.ofNat k')] [] (mW w σ') Q d → Wp 17 31 [.ref 67, .ref P, .ref 35, .int (Int32.ofNat s), .int (Int32.ofNat k)] [] (mW w σ) Q d := by
  intro k
  induction k with
  | zero =>
    intro σ hk hE h0 h1 h2
    obtain ⟨hw, hP, hτ, hv, hρ, hr⟩ := hE
    have v2 := hv.2.2.1
    refine ⟨uI (uI σ 70 0 (Int32.ofNat s)) 67 0 (Int32.ofNat (n + 1)), 0, Nat.zero_le _, frR_tr (frR_I (by omega)) (frR_I (by omega)), ?_, fun i hi => ?_, fun {Q d} hQ => ?_⟩
    · rw [uI_1, if_pos ⟨rfl, rfl⟩]
    · rw [uI_1, if_neg (by omega), uI_1]
      by_cases c : i = 0
      · rw [if_pos ⟨rfl, c⟩, if_neg (by omega), if_pos c]
      · rw [if_neg (fun q => c q.2), if_neg (by omega), if_neg c]
        exact h2 i (by omega) hi
    · refine b17_31 ?_
      have c0 : (Int32.ofNat 0 ≤ (0 : Int32)) ↔ True := by decide
      have eb : inB (Int32.ofNat 0) 8 = true := by decide
      have en : (Int32.ofNat 0).toNatClampNeg = 0 := by decide
      simp only [↓br_pos, ↓br_neg, ↓rF_I, ↓rF_L, ↓rF_R, ↓rF_N, rO_m, rB_m, ↓rI_m, wI_m, ↓rB2_m, ↓rB3_m, wB2_m, wB3_m, ↓rL_m, wL_m, ↓rQ_m, wQ_m, ↓lI_m, pI_m, pL_m, pR_m, sI_m, sBy_m, sBo_m, sL_m, sQ_m, fst_m, true_and, and_true, tg_some, ln_some, uI_1, uI_2, uL_1, uL_2, uL_3, uQ_1, uQ_2, uQ_3, rv_i, rv_l, rv_n, rv_b0, rv_b1, RMR, ne_eq, reduceCtorEq, not_false_eq_true, Option.getD_some, if_true, if_false, and_self, false_and, and_false, Nat.add_left_cancel_iff, Nat.add_eq_left, Nat.left_eq_add, Nat.one_ne_zero, Nat.reduceAdd, Nat.reduceLT, Nat.reduceLeDiff, Nat.reduceEqDiff, true_implies, false_implies, implies_true, Option.some.injEq, forall_eq', forall_eq, reduceCtorEq, brT, brF, br_s, i_10, i_01, ib_0_2, ib_1_2, tn_0, tn_1, Int32.le_refl, eq_self, rv_bN, rv_iM, RCX 0, RCG 2, RCT 4, RCT 15, RCT 25, RCS 35, RCS 49, RCH 63, RCP 67, RCB 72, RCR 77, RCM 81, RLY, lit_at hw, c0, eb, en, h0, on_succ]
      exact hQ
  | succ k ih =>
    intro σ hk hE h0 h1 h2
    have hE' := hE
    obtain ⟨hw, hP, hτ, hv, hρ, hr⟩ := hE
    have hT' := isTP hw hP
    simp only [isT] at hT'
    have v2 := hv.2.2.1
    have c0 : (Int32.ofNat (k + 1) ≤ (0 : Int32)) ↔ False := iff_false_intro (fun q => absurd ((of_le0 (by omega)).mp q) (by omega))
    have e1 : Int32.ofNat (k + 1) - 1 = Int32.ofNat k := by rw [show (1 : Int32) = Int32.ofNat 1 by rfl, of_sub (by omega)]; rfl
    have e2 : Int32.ofNat (k + 1) + -1 = Int32.ofNat k := by rw [← e1]; exact (Int32.sub_eq_add_neg ..).symm
    have eb : inB (Int32.ofNat (k + 1)) 8 = true := on_inB (by omega) (by omega)
    have en := on_nat (i := k + 1) (by omega)
    have eb' : inB (Int32.ofNat k) 8 = true := on_inB (by omega) (by omega)
    have en' := on_nat (i := k) (by omega)
    have hbk := hb k (by omega)
    have ebb : inB (Int32.ofNat (b k)) 8 = true := on_inB (by omega) (by omega)
    have enb := on_nat (i := b k) (by omega)
    have ebs : inB (Int32.ofNat s) 8 = true := on_inB (by omega) (by omega)
    have ens := on_nat (i := s) (by omega)
    have m1 := h1 k (by omega)
    by_cases z : σ.1 (P + 7) (b k) ≤ σ.1 (P + 7) s
    · refine ⟨uI (uI σ 70 (k + 1) (Int32.ofNat s)) 67 0 (Int32.ofNat (n + 1)), k + 1, hk, frR_tr (frR_I (by omega)) (frR_I (by omega)), ?_, fun i hi => ?_, fun {Q d} hQ => ?_⟩
      · rw [uI_1, if_pos ⟨rfl, rfl⟩]
      · rw [uI_1, if_neg (by omega), uI_1]
        by_cases c : i = k + 1
        · rw [if_pos ⟨rfl, c⟩, if_neg (by omega), if_pos c]
        · rw [if_neg (fun q => c q.2)]
          by_cases c2 : i < k + 1
          · rw [if_pos c2]; exact h1 i c2
          · rw [if_neg c2, if_neg c]; exact h2 i (by omega) hi
      · refine b17_31 ?_
        simp only [↓br_pos, ↓br_neg, ↓rF_I, ↓rF_L, ↓rF_R, ↓rF_N, rO_m, rB_m, ↓rI_m, wI_m, ↓rB2_m, ↓rB3_m, wB2_m, wB3_m, ↓rL_m, wL_m, ↓rQ_m, wQ_m, ↓lI_m, pI_m, pL_m, pR_m, sI_m, sBy_m, sBo_m, sL_m, sQ_m, fst_m, true_and, and_true, tg_some, ln_some, uI_1, uI_2, uL_1, uL_2, uL_3, uQ_1, uQ_2, uQ_3, rv_i, rv_l, rv_n, rv_b0, rv_b1, RMR, ne_eq, reduceCtorEq, not_false_eq_true, Option.getD_some, if_true, if_false, and_self, false_and, and_false, Nat.add_left_cancel_iff, Nat.add_eq_left, Nat.left_eq_add, Nat.one_ne_zero, Nat.reduceAdd, Nat.reduceLT, Nat.reduceLeDiff, Nat.reduceEqDiff, true_implies, false_implies, implies_true, Option.some.injEq, forall_eq', forall_eq, reduceCtorEq, brT, brF, br_s, i_10, i_01, ib_0_2, ib_1_2, tn_0, tn_1, Int32.le_refl, eq_self, rv_bN, rv_iM, RCX 0, RCG 2, RCT 4, RCT 15, RCT 25, RCS 35, RCS 49, RCH 63, RCP 67, RCB 72, RCR 77, RCM 81, RLY, lit_at hw, RCT P, hT', c0, e1, eb, en, eb', en', m1, ebb, enb, ebs, ens, z, h0, on_succ]
        exact hQ
    · have f1 : frR 67 72 σ (uI σ 70 (k + 1) (Int32.ofNat (b k))) := frR_I (by omega)
      obtain ⟨σ', k', g1, g2, g3, g4, g5⟩ := ih (uI σ 70 (k + 1) (Int32.ofNat (b k))) (by omega) (loE_fr hE' f1) (by rw [uI_1, if_neg (by omega)]; exact h0) (fun i hi => by rw [uI_1, if_neg (by omega)]; exact h1 i (by omega)) (fun i hi hi2 => by
        rw [uI_1]
        by_cases c : i = k + 1
        · subst c; rw [if_pos ⟨rfl, rfl⟩]; rfl
        · rw [if_neg (fun q => c q.2)]; exact h2 i (by omega) hi2)
      refine ⟨σ', k', g1, frR_tr f1 g2, g3, g4, fun {Q d} hQ => ?_⟩
      refine b17_31 ?_
      simp only [↓br_pos, ↓br_neg, ↓rF_I, ↓rF_L, ↓rF_R, ↓rF_N, rO_m, rB_m, ↓rI_m, wI_m, ↓rB2_m, ↓rB3_m, wB2_m, wB3_m, ↓rL_m, wL_m, ↓rQ_m, wQ_m, ↓lI_m, pI_m, pL_m, pR_m, sI_m, sBy_m, sBo_m, sL_m, sQ_m, fst_m, true_and, and_true, tg_some, ln_some, uI_1, uI_2, uL_1, uL_2, uL_3, uQ_1, uQ_2, uQ_3, rv_i, rv_l, rv_n, rv_b0, rv_b1, RMR, ne_eq, reduceCtorEq, not_false_eq_true, Option.getD_some, if_true, if_false, and_self, false_and, and_false, Nat.add_left_cancel_iff, Nat.add_eq_left, Nat.left_eq_add, Nat.one_ne_zero, Nat.reduceAdd, Nat.reduceLT, Nat.reduceLeDiff, Nat.reduceEqDiff, true_implies, false_implies, implies_true, Option.some.injEq, forall_eq', forall_eq, reduceCtorEq, brT, brF, br_s, i_10, i_01, ib_0_2, ib_1_2, tn_0, tn_1, Int32.le_refl, eq_self, rv_bN, rv_iM, RCX 0, RCG 2, RCT 4, RCT 15, RCT 25, RCS 35, RCS 49, RCH 63, RCP 67, RCB 72, RCR 77, RCM 81, RLY, lit_at hw, RCT P, hT', c0, e1, e2, eb, en, eb', en', m1, ebb, enb, ebs, ens, z]
      exact g5 hQ
theorem opS_s {ρ : Rw} {g : Nat → Nat} {s : Nat} : sm (s + 1) (opS ρ g) = sm s (opS ρ g) + (if ρ (43 + s) = 0 then g s else 0) := rfl
theorem lp_17 {w : mT} {P : Nat} {τ ρ : Rw} : ∀ (r s n : Nat) (σ : mS) (b : Nat → Nat), s + r = τ 2 → loE w σ P τ ρ → loI σ ρ s n b → ∃ σ' n' b', frR 67 72 σ σ' ∧ loI σ' ρ (τ 2) n' b' ∧ ∀ {Q : Option (Option Value) → Hp → Prop} {d : Nat} (x : Value), (x = jk ∨ ∃ u : Int32, x = .int u) → Q (some none) (mW w σ') → Wp 17 7 [.ref 67, .ref P, .ref 35, .int (Int32.ofNat s), x] [] (mW w σ) Q d := by
  intro r
  induction r with
  | zero =>
    intro s n σ b hs hE hI
    obtain ⟨hw, hP, hτ, hv, hρ, hr⟩ := hE
    have hT' := isTP hw hP
    simp only [isT] at hT'
    have hs' : s = τ 2 := by omega
    subst hs'
    have e4 : σ.1 P 4 = Int32.ofNat (τ 2) := hτ.2.2.2.1
    refine ⟨σ, n, b, frR_rf, hI, fun {Q d} x hx hQ => ?_⟩
    rcases hx with rfl | ⟨u, rfl⟩
    · refine b17_7 ?_
      simp only [↓br_pos, ↓br_neg, ↓rF_I, ↓rF_L, ↓rF_R, ↓rF_N, rO_m, rB_m, ↓rI_m, wI_m, ↓rB2_m, ↓rB3_m, wB2_m, wB3_m, ↓rL_m, wL_m, ↓rQ_m, wQ_m, ↓lI_m, pI_m, pL_m, pR_m, sI_m, sBy_m, sBo_m, sL_m, sQ_m, fst_m, true_and, and_true, tg_some, ln_some, uI_1, uI_2, uL_1, uL_2, uL_3, uQ_1, uQ_2, uQ_3, rv_i, rv_l, rv_n, rv_b0, rv_b1, RMR, ne_eq, reduceCtorEq, not_false_eq_true, Option.getD_some, if_true, if_false, and_self, false_and, and_false, Nat.add_left_cancel_iff, Nat.add_eq_left, Nat.left_eq_add, Nat.one_ne_zero, Nat.reduceAdd, Nat.reduceLT, Nat.reduceLeDiff, Nat.reduceEqDiff, true_implies, false_implies, implies_true, Option.some.injEq, forall_eq', forall_eq, reduceCtorEq, brT, brF, br_s, i_10, i_01, ib_0_2, ib_1_2, tn_0, tn_1, Int32.le_refl, eq_self, rv_bN, rv_iM, RCX 0, RCG 2, RCT 4, RCT 15, RCT 25, RCS 35, RCS 49, RCH 63, RCP 67, RCB 72, RCR 77, RCM 81, RLY, lit_at hw, RCT P, hT', e4, Int32.le_refl]
      exact hQ
    · refine b17_7a ?_
      simp only [↓br_pos, ↓br_neg, ↓rF_I, ↓rF_L, ↓rF_R, ↓rF_N, rO_m, rB_m, ↓rI_m, wI_m, ↓rB2_m, ↓rB3_m, wB2_m, wB3_m, ↓rL_m, wL_m, ↓rQ_m, wQ_m, ↓lI_m, pI_m, pL_m, pR_m, sI_m, sBy_m, sBo_m, sL_m, sQ_m, fst_m, true_and, and_true, tg_some, ln_some, uI_1, uI_2, uL_1, uL_2, uL_3, uQ_1, uQ_2, uQ_3, rv_i, rv_l, rv_n, rv_b0, rv_b1, RMR, ne_eq, reduceCtorEq, not_false_eq_true, Option.getD_some, if_true, if_false, and_self, false_and, and_false, Nat.add_left_cancel_iff, Nat.add_eq_left, Nat.left_eq_add, Nat.one_ne_zero, Nat.reduceAdd, Nat.reduceLT, Nat.reduceLeDiff, Nat.reduceEqDiff, true_implies, false_implies, implies_true, Option.some.injEq, forall_eq', forall_eq, reduceCtorEq, brT, brF, br_s, i_10, i_01, ib_0_2, ib_1_2, tn_0, tn_1, Int32.le_refl, eq_self, rv_bN, rv_iM, RCX 0, RCG 2, RCT 4, RCT 15, RCT 25, RCS 35, RCS 49, RCH 63, RCP 67, RCB 72, RCR 77, RCM 81, RLY, lit_at hw, RCT P, hT', e4, Int32.le_refl]
      exact hQ
  | succ r ih =>
    intro s n σ b hs hE hI
    have hE' := hE
    obtain ⟨hw, hP, hτ, hv, hρ, hr⟩ := hE
    have hT' := isTP hw hP
    simp only [isT] at hT'
    have v2 := hv.2.2.1
    have hs' : s < τ 2 := by omega
    have e4 : σ.1 P 4 = Int32.ofNat (τ 2) := hτ.2.2.2.1
    have l1 : (Int32.ofNat (τ 2) ≤ Int32.ofNat s) ↔ False := iff_false_intro (fun q => absurd ((on_le (by omega) (by omega)).mp q) (by omega))
    have eb : inB (Int32.ofNat s) 8 = true := on_inB (by omega) (by omega)
    have en := on_nat (i := s) (by omega)
    have es : σ.1 42 s = Int32.ofNat (ρ (43 + s)) - 1 := tS_sa hρ hs'
    have oi := open_iff hr hs'
    obtain ⟨i1, i2, i3, i4⟩ := hI
    by_cases z : ρ (43 + s) = 0
    · have oi' := iff_true_intro (oi.mpr z)
      obtain ⟨σ1, k1, g1, g2, g3, g4, g5⟩ := in_17 (w := w) (P := P) (τ := τ) (ρ := ρ) hs' i2 (fun i hi => (i3 i hi).2.1) n σ (Nat.le_refl _) hE' i1 (fun i hi => (i3 i hi).1) (fun i h1 h2 => by omega)
      obtain ⟨σ2, n2, b2, f2, I2, e2⟩ := ih (s + 1) (n + 1) σ1 (fun i => if i < k1 then b i else if i = k1 then s else b (i - 1)) (by omega) (loE_fr hE' g2) ⟨g3, by omega, fun i hi => ⟨g4 i (by omega), by
          show (if i < k1 then b i else if i = k1 then s else b (i - 1)) < s + 1 ∧ ρ (43 + (if i < k1 then b i else if i = k1 then s else b (i - 1))) = 0
          by_cases c : i < k1
          · rw [if_pos c]; have := i3 i (by omega); exact ⟨by omega, this.2.2⟩
          · rw [if_neg c]
            by_cases c2 : i = k1
            · rw [if_pos c2]; exact ⟨by omega, z⟩
            · rw [if_neg c2]; have := i3 (i - 1) (by omega); exact ⟨by omega, this.2.2⟩⟩, fun g => by
          rw [opS_s, if_pos z, ← i4 g, ← sm_ins (f := fun i => g (b i)) (a := k1) (x := g s) n g1]
          refine sm_eq (fun i hi => ?_)
          show g (if i < k1 then b i else if i = k1 then s else b (i - 1)) = _
          by_cases c : i < k1
          · rw [if_pos c, if_pos c]
          · rw [if_neg c, if_neg c]
            by_cases c2 : i = k1
            · rw [if_pos c2, if_pos c2]
            · rw [if_neg c2, if_neg c2]⟩
      refine ⟨σ2, n2, b2, frR_tr g2 f2, I2, fun {Q d} x hx hQ => ?_⟩
      have nx := g5 (d := d) (e2 (.int (Int32.ofNat k1)) (Or.inr ⟨_, rfl⟩) hQ)
      rcases hx with rfl | ⟨u, rfl⟩
      · refine b17_7 ?_
        simp only [↓br_pos, ↓br_neg, ↓rF_I, ↓rF_L, ↓rF_R, ↓rF_N, rO_m, rB_m, ↓rI_m, wI_m, ↓rB2_m, ↓rB3_m, wB2_m, wB3_m, ↓rL_m, wL_m, ↓rQ_m, wQ_m, ↓lI_m, pI_m, pL_m, pR_m, sI_m, sBy_m, sBo_m, sL_m, sQ_m, fst_m, true_and, and_true, tg_some, ln_some, uI_1, uI_2, uL_1, uL_2, uL_3, uQ_1, uQ_2, uQ_3, rv_i, rv_l, rv_n, rv_b0, rv_b1, RMR, ne_eq, reduceCtorEq, not_false_eq_true, Option.getD_some, if_true, if_false, and_self, false_and, and_false, Nat.add_left_cancel_iff, Nat.add_eq_left, Nat.left_eq_add, Nat.one_ne_zero, Nat.reduceAdd, Nat.reduceLT, Nat.reduceLeDiff, Nat.reduceEqDiff, true_implies, false_implies, implies_true, Option.some.injEq, forall_eq', forall_eq, reduceCtorEq, brT, brF, br_s, i_10, i_01, ib_0_2, ib_1_2, tn_0, tn_1, Int32.le_refl, eq_self, rv_bN, rv_iM, RCX 0, RCG 2, RCT 4, RCT 15, RCT 25, RCS 35, RCS 49, RCH 63, RCP 67, RCB 72, RCR 77, RCM 81, RLY, lit_at hw, RCT P, hT', e4, l1, eb, en, es, oi', i1]
        exact nx
      · refine b17_7a ?_
        simp only [↓br_pos, ↓br_neg, ↓rF_I, ↓rF_L, ↓rF_R, ↓rF_N, rO_m, rB_m, ↓rI_m, wI_m, ↓rB2_m, ↓rB3_m, wB2_m, wB3_m, ↓rL_m, wL_m, ↓rQ_m, wQ_m, ↓lI_m, pI_m, pL_m, pR_m, sI_m, sBy_m, sBo_m, sL_m, sQ_m, fst_m, true_and, and_true, tg_some, ln_some, uI_1, uI_2, uL_1, uL_2, uL_3, uQ_1, uQ_2, uQ_3, rv_i, rv_l, rv_n, rv_b0, rv_b1, RMR, ne_eq, reduceCtorEq, not_false_eq_true, Option.getD_some, if_true, if_false, and_self, false_and, and_false, Nat.add_left_cancel_iff, Nat.add_eq_left, Nat.left_eq_add, Nat.one_ne_zero, Nat.reduceAdd, Nat.reduceLT, Nat.reduceLeDiff, Nat.reduceEqDiff, true_implies, false_implies, implies_true, Option.some.injEq, forall_eq', forall_eq, reduceCtorEq, brT, brF, br_s, i_10, i_01, ib_0_2, ib_1_2, tn_0, tn_1, Int32.le_refl, eq_self, rv_bN, rv_iM, RCX 0, RCG 2, RCT 4, RCT 15, RCT 25, RCS 35, RCS 49, RCH 63, RCP 67, RCB 72, RCR 77, RCM 81, RLY, lit_at hw, RCT P, hT', e4, l1, eb, en, es, oi', i1]
        exact nx
    · have oi' := iff_false_intro (fun q => z (oi.mp q))
      obtain ⟨σ2, n2, b2, f2, I2, e2⟩ := ih (s + 1) n σ b (by omega) hE' ⟨i1, by omega, fun i hi => ⟨(i3 i hi).1, by have := (i3 i hi).2.1; omega, (i3 i hi).2.2⟩, fun g => by rw [opS_s, if_neg z, i4 g]; rfl⟩
      refine ⟨σ2, n2, b2, f2, I2, fun {Q d} x hx hQ => ?_⟩
      rcases hx with rfl | ⟨u, rfl⟩
      · refine b17_7 ?_
        simp only [↓br_pos, ↓br_neg, ↓rF_I, ↓rF_L, ↓rF_R, ↓rF_N, rO_m, rB_m, ↓rI_m, wI_m, ↓rB2_m, ↓rB3_m, wB2_m, wB3_m, ↓rL_m, wL_m, ↓rQ_m, wQ_m, ↓lI_m, pI_m, pL_m, pR_m, sI_m, sBy_m, sBo_m, sL_m, sQ_m, fst_m, true_and, and_true, tg_some, ln_some, uI_1, uI_2, uL_1, uL_2, uL_3, uQ_1, uQ_2, uQ_3, rv_i, rv_l, rv_n, rv_b0, rv_b1, RMR, ne_eq, reduceCtorEq, not_false_eq_true, Option.getD_some, if_true, if_false, and_self, false_and, and_false, Nat.add_left_cancel_iff, Nat.add_eq_left, Nat.left_eq_add, Nat.one_ne_zero, Nat.reduceAdd, Nat.reduceLT, Nat.reduceLeDiff, Nat.reduceEqDiff, true_implies, false_implies, implies_true, Option.some.injEq, forall_eq', forall_eq, reduceCtorEq, brT, brF, br_s, i_10, i_01, ib_0_2, ib_1_2, tn_0, tn_1, Int32.le_refl, eq_self, rv_bN, rv_iM, RCX 0, RCG 2, RCT 4, RCT 15, RCT 25, RCS 35, RCS 49, RCH 63, RCP 67, RCB 72, RCR 77, RCM 81, RLY, lit_at hw, RCT P, hT', e4, l1, eb, en, es, oi', on_succ]
        exact e2 jk (Or.inl rfl) hQ
      · refine b17_7a ?_
        simp only [↓br_pos, ↓br_neg, ↓rF_I, ↓rF_L, ↓rF_R, ↓rF_N, rO_m, rB_m, ↓rI_m, wI_m, ↓rB2_m, ↓rB3_m, wB2_m, wB3_m, ↓rL_m, wL_m, ↓rQ_m, wQ_m, ↓lI_m, pI_m, pL_m, pR_m, sI_m, sBy_m, sBo_m, sL_m, sQ_m, fst_m, true_and, and_true, tg_some, ln_some, uI_1, uI_2, uL_1, uL_2, uL_3, uQ_1, uQ_2, uQ_3, rv_i, rv_l, rv_n, rv_b0, rv_b1, RMR, ne_eq, reduceCtorEq, not_false_eq_true, Option.getD_some, if_true, if_false, and_self, false_and, and_false, Nat.add_left_cancel_iff, Nat.add_eq_left, Nat.left_eq_add, Nat.one_ne_zero, Nat.reduceAdd, Nat.reduceLT, Nat.reduceLeDiff, Nat.reduceEqDiff, true_implies, false_implies, implies_true, Option.some.injEq, forall_eq', forall_eq, reduceCtorEq, brT, brF, br_s, i_10, i_01, ib_0_2, ib_1_2, tn_0, tn_1, Int32.le_refl, eq_self, rv_bN, rv_iM, RCX 0, RCG 2, RCT 4, RCT 15, RCT 25, RCS 35, RCS 49, RCH 63, RCP 67, RCB 72, RCR 77, RCM 81, RLY, lit_at hw, RCT P, hT', e4, l1, eb, en, es, oi', on_succ]
        exact e2 (.int u) (Or.inr ⟨_, rfl⟩) hQ
theorem s_17 {w : mT} {σ : mS} {P : Nat} {τ ρ : Rw} (hE : loE w σ P τ ρ) : ∃ σ' n b, frR 67 72 σ σ' ∧ loI σ' ρ (τ 2) n b ∧ ∀ {D : Nat} {K : Hp → Prop}, 1 ≤ D → (wpV D 17 [.ref 67, .ref P, .ref 35] (mW w σ) K ↔ K (mW w σ')) := by
  have f1 : frR 67 72 σ (uI σ 67 0 0) := frR_I (by omega)
  obtain ⟨σ2, n2, b2, f2, I2, e2⟩ := lp_17 (w := w) (P := P) (τ := τ) (ρ := ρ) (τ 2) 0 0 (uI σ 67 0 0) (fun _ => 0) (by omega) (loE_fr hE f1) ⟨by rw [uI_1, if_pos ⟨rfl, rfl⟩]; rfl, Nat.le_refl _, fun i hi => by omega, fun g => rfl⟩
  refine ⟨σ2, n2, b2, frR_tr f1 f2, I2, fun hD => cV_of (m := 0) (fun d hd Q hQ => ?_) rfl hD⟩
  have hw := hE.1
  refine b17_0 ?_
  simp only [↓br_pos, ↓br_neg, ↓rF_I, ↓rF_L, ↓rF_R, ↓rF_N, rO_m, rB_m, ↓rI_m, wI_m, ↓rB2_m, ↓rB3_m, wB2_m, wB3_m, ↓rL_m, wL_m, ↓rQ_m, wQ_m, ↓lI_m, pI_m, pL_m, pR_m, sI_m, sBy_m, sBo_m, sL_m, sQ_m, fst_m, true_and, and_true, tg_some, ln_some, uI_1, uI_2, uL_1, uL_2, uL_3, uQ_1, uQ_2, uQ_3, rv_i, rv_l, rv_n, rv_b0, rv_b1, RMR, ne_eq, reduceCtorEq, not_false_eq_true, Option.getD_some, if_true, if_false, and_self, false_and, and_false, Nat.add_left_cancel_iff, Nat.add_eq_left, Nat.left_eq_add, Nat.one_ne_zero, Nat.reduceAdd, Nat.reduceLT, Nat.reduceLeDiff, Nat.reduceEqDiff, true_implies, false_implies, implies_true, Option.some.injEq, forall_eq', forall_eq, reduceCtorEq, brT, brF, br_s, i_10, i_01, ib_0_2, ib_1_2, tn_0, tn_1, Int32.le_refl, eq_self, rv_bN, rv_iM, RCX 0, RCG 2, RCT 4, RCT 15, RCT 25, RCS 35, RCS 49, RCH 63, RCP 67, RCB 72, RCR 77, RCM 81, RLY, lit_at hw]
  exact e2 jk (Or.inl rfl) hQ
