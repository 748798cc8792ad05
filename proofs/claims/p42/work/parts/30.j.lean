section
/-! State: a state begins -/
def sBeg (τ : Rw) : Rw := fun j => if 12 ≤ j ∧ j < 24 then τ (j - 8) else 0
theorem sBeg_l {τ : Rw} {l : Nat} (h : l < 12) : sBeg τ (12 + l) = τ (4 + l) := by
  unfold sBeg
  rw [if_pos (by omega)]
  congr 1; omega
theorem sBeg_0 {τ : Rw} {j : Nat} (h : j < 12 ∨ 24 ≤ j) : sBeg τ j = 0 := by
  unfold sBeg
  exact if_neg (by omega)
theorem sm_cn {n c : Nat} {f : Nat → Nat} (h : ∀ i, i < n → f i ≤ c) : sm n f ≤ n * c := by
  induction n with
  | zero => exact Nat.zero_le _
  | succ n ih =>
    have a := ih (fun i hi => h i (by omega))
    have b := h n (by omega)
    rw [sm_s, Nat.succ_mul]; omega
theorem vRow_beg {τ : Rw} (hv : vTold τ) : vRow τ (sBeg τ) := by
  have v0 := hv.1
  have v2 := hv.2.2.1
  have z : ∀ j, (j < 12 ∨ 24 ≤ j) → sBeg τ j = 0 := fun j h => sBeg_0 h
  refine vR_mk (by rw [z 0 (by omega)]; omega) (fun m hm => Or.inl (z _ (by omega))) (fun m hm => by rw [z _ (by omega)]; omega) (by rw [z _ (by omega)]; omega) (by rw [z _ (by omega)]; omega) (fun p hp => by rw [z _ (by omega)]; omega) (fun p hp k hk => ?_) (fun p hp k hk hk2 c hc => z _ (by unfold li; omega)) ?_ (fun s hs => by rw [z _ (by omega), z _ (by omega)]; omega) (fun s hs => by rw [z _ (by omega)]; omega) (fun i hi => ?_) (fun i hi => ?_)
  · rw [z _ (by omega)] at hk; omega
  · have a1 : sm (τ 0) (fun l => sBeg τ (12 + l)) ≤ τ 0 * 9999 := sm_cn (fun l hl => by rw [sBeg_l (by omega)]; exact (hv.2.2.2.2.1 l hl).2.1)
    have a2 : sm 3 (fun p => sm 12 (fun c => tOn (sBeg τ) p c)) = 0 := sm_z (fun p hp => sm_z (fun c hc => by unfold tOn; rw [z _ (by omega)]; rfl))
    have a3 : sm (τ 2) (fun s => sBeg τ (27 + s)) = 0 := sm_z (fun s hs => z _ (by omega))
    unfold allT
    rw [a2, a3]
    have : τ 0 * 9999 ≤ 12 * 9999 := Nat.mul_le_mul_right _ v0
    omega
  · rw [z _ (by omega)] at hi; omega
  · rw [z _ (by omega)] at hi; omega
def V48 (σ : mS) (t : Nat) : Nat → Nat → Int32 := fun A J => if A = 1 then σ.1 (t + 1) J else if A = 7 ∨ A = 8 then -1 else 0
theorem lp_48a {w : mT} {σ : mS} {r t : Nat} (hR : isS w r) (hT : isT w t) (hd : r + 14 ≤ t ∨ t + 10 ≤ r) : ∀ (n i : Nat) (σi : mS) (R : Nat → Nat → Prop), i + n = 12 → cpV σ σi r (V48 σ t) R → ∃ σ', cpV σ σ' r (V48 σ t) (fun A J => R A J ∨ (A = 1 ∧ i ≤ J ∧ J < 12)) ∧ ∀ {Q : Option (Option Value) → Hp → Prop} {d : Nat}, Wp 48 38 [.ref r, .ref t, .int (0 : Int32)] [] (mW w σ') Q d → Wp 48 12 [.ref r, .ref t, .int (Int32.ofNat i)] [] (mW w σi) Q d := by
  simp only [isS] at hR
  simp only [isT] at hT
  intro n
  induction n with
  | zero =>
    intro i σi R hi h
    refine ⟨σi, cpV_mo h (fun A J q => q.resolve_right (by omega)), fun hQ => ?_⟩
    have l1 : ((12 : Int32) ≤ Int32.ofNat i) ↔ True := iff_true_intro ((on_le (i := 12) (by omega) (by omega)).mpr (by omega))
    refine b48_12 ?_
    simp only [↓rF_I, ↓rF_L, ↓rF_R, ↓rF_N, rO_m, rB_m, ↓rI_m, wI_m, ↓rB2_m, ↓rB3_m, wB2_m, wB3_m, ↓rL_m, wL_m, ↓rQ_m, wQ_m, ↓lI_m, pI_m, pL_m, pR_m, sI_m, sBy_m, sBo_m, sL_m, sQ_m, fst_m, true_and, and_true, tg_some, ln_some, uI_1, uI_2, uL_1, uL_2, uL_3, uQ_1, uQ_2, uQ_3, rv_i, rv_l, rv_n, rv_b0, rv_b1, RMR, ne_eq, reduceCtorEq, not_false_eq_true, Option.getD_some, if_true, if_false, and_self, false_and, and_false, Nat.add_left_cancel_iff, Nat.add_eq_left, Nat.left_eq_add, Nat.one_ne_zero, Nat.reduceAdd, Nat.reduceLT, Nat.reduceLeDiff, Nat.reduceEqDiff, true_implies, false_implies, implies_true, Option.some.injEq, forall_eq', forall_eq, reduceCtorEq, brT, brF, br_s, i_10, i_01, ib_0_2, ib_1_2, tn_0, tn_1, Int32.le_refl, eq_self, rv_bN, rv_iM, l1]
    exact hQ
  | succ n ih =>
    intro i σi R hi h
    have e : σi.1 (t + 1) i = σ.1 (t + 1) i := congrFun (h.1.1 (t + 1) (by omega)) i
    obtain ⟨σ', h1, h2⟩ := ih (i + 1) _ _ (by omega) (cpV_I (A := 1) (J := i) (v := σ.1 (t + 1) i) h (by omega) rfl)
    have hm : ∀ A J, (R A J ∨ (A = 1 ∧ i ≤ J ∧ J < 12)) → ((R A J ∨ (A = 1 ∧ i ≤ J ∧ J < i + 1)) ∨ (A = 1 ∧ i + 1 ≤ J ∧ J < 12)) := fun A J q => by
      rcases q with q | q
      · exact Or.inl (Or.inl (q))
      · have z : (A = 1 ∧ i ≤ J ∧ J < i + 1) ∨ (A = 1 ∧ i + 1 ≤ J ∧ J < 12) := by omega
        rcases z with z | z
        · exact Or.inl (Or.inr z)
        · exact Or.inr z
    refine ⟨σ', cpV_mo h1 hm, fun hQ => ?_⟩
    have l1 : ((12 : Int32) ≤ Int32.ofNat i) ↔ False := iff_false_intro (fun q => absurd ((on_le (i := 12) (by omega) (by omega)).mp q) (by omega))
    have eb : inB (Int32.ofNat i) 12 = true := on_inB (by omega) (by omega)
    have en := on_nat (i := i) (by omega)
    refine b48_12 ?_
    simp only [↓rF_I, ↓rF_L, ↓rF_R, ↓rF_N, rO_m, rB_m, ↓rI_m, wI_m, ↓rB2_m, ↓rB3_m, wB2_m, wB3_m, ↓rL_m, wL_m, ↓rQ_m, wQ_m, ↓lI_m, pI_m, pL_m, pR_m, sI_m, sBy_m, sBo_m, sL_m, sQ_m, fst_m, true_and, and_true, tg_some, ln_some, uI_1, uI_2, uL_1, uL_2, uL_3, uQ_1, uQ_2, uQ_3, rv_i, rv_l, rv_n, rv_b0, rv_b1, RMR, ne_eq, reduceCtorEq, not_false_eq_true, Option.getD_some, if_true, if_false, and_self, false_and, and_false, Nat.add_left_cancel_iff, Nat.add_eq_left, Nat.left_eq_add, Nat.one_ne_zero, Nat.reduceAdd, Nat.reduceLT, Nat.reduceLeDiff, Nat.reduceEqDiff, true_implies, false_implies, implies_true, Option.some.injEq, forall_eq', forall_eq, reduceCtorEq, brT, brF, br_s, i_10, i_01, ib_0_2, ib_1_2, tn_0, tn_1, Int32.le_refl, eq_self, rv_bN, rv_iM, RCS r, RCT t, hR, hT, l1, eb, en, e, on_succ]
    exact h2 hQ
theorem lp_48b {w : mT} {σ : mS} {r t : Nat} (hR : isS w r) : ∀ (n i : Nat) (σi : mS) (R : Nat → Nat → Prop), i + n = 3 → cpV σ σi r (V48 σ t) R → ∃ σ', cpV σ σ' r (V48 σ t) (fun A J => R A J ∨ (A = 2 ∧ i ≤ J ∧ J < 3)) ∧ ∀ {Q : Option (Option Value) → Hp → Prop} {d : Nat}, Wp 48 58 [.ref r, .ref t, .int (0 : Int32)] [] (mW w σ') Q d → Wp 48 38 [.ref r, .ref t, .int (Int32.ofNat i)] [] (mW w σi) Q d := by
  simp only [isS] at hR
  intro n
  induction n with
  | zero =>
    intro i σi R hi h
    refine ⟨σi, cpV_mo h (fun A J q => q.resolve_right (by omega)), fun hQ => ?_⟩
    have l1 : ((3 : Int32) ≤ Int32.ofNat i) ↔ True := iff_true_intro ((on_le (i := 3) (by omega) (by omega)).mpr (by omega))
    refine b48_38 ?_
    simp only [↓rF_I, ↓rF_L, ↓rF_R, ↓rF_N, rO_m, rB_m, ↓rI_m, wI_m, ↓rB2_m, ↓rB3_m, wB2_m, wB3_m, ↓rL_m, wL_m, ↓rQ_m, wQ_m, ↓lI_m, pI_m, pL_m, pR_m, sI_m, sBy_m, sBo_m, sL_m, sQ_m, fst_m, true_and, and_true, tg_some, ln_some, uI_1, uI_2, uL_1, uL_2, uL_3, uQ_1, uQ_2, uQ_3, rv_i, rv_l, rv_n, rv_b0, rv_b1, RMR, ne_eq, reduceCtorEq, not_false_eq_true, Option.getD_some, if_true, if_false, and_self, false_and, and_false, Nat.add_left_cancel_iff, Nat.add_eq_left, Nat.left_eq_add, Nat.one_ne_zero, Nat.reduceAdd, Nat.reduceLT, Nat.reduceLeDiff, Nat.reduceEqDiff, true_implies, false_implies, implies_true, Option.some.injEq, forall_eq', forall_eq, reduceCtorEq, brT, brF, br_s, i_10, i_01, ib_0_2, ib_1_2, tn_0, tn_1, Int32.le_refl, eq_self, rv_bN, rv_iM, l1]
    exact hQ
  | succ n ih =>
    intro i σi R hi h
    obtain ⟨σ', h1, h2⟩ := ih (i + 1) _ _ (by omega) (cpV_I (A := 2) (J := i) (v := 0) h (by omega) rfl)
    have hm : ∀ A J, (R A J ∨ (A = 2 ∧ i ≤ J ∧ J < 3)) → ((R A J ∨ (A = 2 ∧ i ≤ J ∧ J < i + 1)) ∨ (A = 2 ∧ i + 1 ≤ J ∧ J < 3)) := fun A J q => by
      rcases q with q | q
      · exact Or.inl (Or.inl (q))
      · have z : (A = 2 ∧ i ≤ J ∧ J < i + 1) ∨ (A = 2 ∧ i + 1 ≤ J ∧ J < 3) := by omega
        rcases z with z | z
        · exact Or.inl (Or.inr z)
        · exact Or.inr z
    refine ⟨σ', cpV_mo h1 hm, fun hQ => ?_⟩
    have l1 : ((3 : Int32) ≤ Int32.ofNat i) ↔ False := iff_false_intro (fun q => absurd ((on_le (i := 3) (by omega) (by omega)).mp q) (by omega))
    have eb : inB (Int32.ofNat i) 3 = true := on_inB (by omega) (by omega)
    have en := on_nat (i := i) (by omega)
    refine b48_38 ?_
    simp only [↓rF_I, ↓rF_L, ↓rF_R, ↓rF_N, rO_m, rB_m, ↓rI_m, wI_m, ↓rB2_m, ↓rB3_m, wB2_m, wB3_m, ↓rL_m, wL_m, ↓rQ_m, wQ_m, ↓lI_m, pI_m, pL_m, pR_m, sI_m, sBy_m, sBo_m, sL_m, sQ_m, fst_m, true_and, and_true, tg_some, ln_some, uI_1, uI_2, uL_1, uL_2, uL_3, uQ_1, uQ_2, uQ_3, rv_i, rv_l, rv_n, rv_b0, rv_b1, RMR, ne_eq, reduceCtorEq, not_false_eq_true, Option.getD_some, if_true, if_false, and_self, false_and, and_false, Nat.add_left_cancel_iff, Nat.add_eq_left, Nat.left_eq_add, Nat.one_ne_zero, Nat.reduceAdd, Nat.reduceLT, Nat.reduceLeDiff, Nat.reduceEqDiff, true_implies, false_implies, implies_true, Option.some.injEq, forall_eq', forall_eq, reduceCtorEq, brT, brF, br_s, i_10, i_01, ib_0_2, ib_1_2, tn_0, tn_1, Int32.le_refl, eq_self, rv_bN, rv_iM, RCS r, hR, l1, eb, en, on_succ]
    exact h2 hQ
theorem lp_48c {w : mT} {σ : mS} {r t : Nat} (hR : isS w r) : ∀ (n i : Nat) (σi : mS) (R : Nat → Nat → Prop), i + n = 8 → cpV σ σi r (V48 σ t) R → ∃ σ', cpV σ σ' r (V48 σ t) (fun A J => R A J ∨ (5 ≤ A ∧ A < 8 ∧ i ≤ J ∧ J < 8)) ∧ ∀ {Q : Option (Option Value) → Hp → Prop} {d : Nat}, Wp 48 93 [.ref r, .ref t, .int (0 : Int32)] [] (mW w σ') Q d → Wp 48 58 [.ref r, .ref t, .int (Int32.ofNat i)] [] (mW w σi) Q d := by
  simp only [isS] at hR
  intro n
  induction n with
  | zero =>
    intro i σi R hi h
    refine ⟨σi, cpV_mo h (fun A J q => q.resolve_right (by omega)), fun hQ => ?_⟩
    have l1 : ((8 : Int32) ≤ Int32.ofNat i) ↔ True := iff_true_intro ((on_le (i := 8) (by omega) (by omega)).mpr (by omega))
    refine b48_58 ?_
    simp only [↓rF_I, ↓rF_L, ↓rF_R, ↓rF_N, rO_m, rB_m, ↓rI_m, wI_m, ↓rB2_m, ↓rB3_m, wB2_m, wB3_m, ↓rL_m, wL_m, ↓rQ_m, wQ_m, ↓lI_m, pI_m, pL_m, pR_m, sI_m, sBy_m, sBo_m, sL_m, sQ_m, fst_m, true_and, and_true, tg_some, ln_some, uI_1, uI_2, uL_1, uL_2, uL_3, uQ_1, uQ_2, uQ_3, rv_i, rv_l, rv_n, rv_b0, rv_b1, RMR, ne_eq, reduceCtorEq, not_false_eq_true, Option.getD_some, if_true, if_false, and_self, false_and, and_false, Nat.add_left_cancel_iff, Nat.add_eq_left, Nat.left_eq_add, Nat.one_ne_zero, Nat.reduceAdd, Nat.reduceLT, Nat.reduceLeDiff, Nat.reduceEqDiff, true_implies, false_implies, implies_true, Option.some.injEq, forall_eq', forall_eq, reduceCtorEq, brT, brF, br_s, i_10, i_01, ib_0_2, ib_1_2, tn_0, tn_1, Int32.le_refl, eq_self, rv_bN, rv_iM, l1]
    exact hQ
  | succ n ih =>
    intro i σi R hi h
    obtain ⟨σ', h1, h2⟩ := ih (i + 1) _ _ (by omega) (cpV_I (A := 7) (J := i) (v := -1) (cpV_I (A := 6) (J := i) (v := 0) (cpV_I (A := 5) (J := i) (v := 0) h (by omega) rfl) (by omega) rfl) (by omega) rfl)
    have hm : ∀ A J, (R A J ∨ (5 ≤ A ∧ A < 8 ∧ i ≤ J ∧ J < 8)) → ((((R A J ∨ (A = 5 ∧ i ≤ J ∧ J < i + 1)) ∨ (A = 6 ∧ i ≤ J ∧ J < i + 1)) ∨ (A = 7 ∧ i ≤ J ∧ J < i + 1)) ∨ (5 ≤ A ∧ A < 8 ∧ i + 1 ≤ J ∧ J < 8)) := fun A J q => by
      rcases q with q | q
      · exact Or.inl (Or.inl (Or.inl (Or.inl (q))))
      · have z : (A = 5 ∧ i ≤ J ∧ J < i + 1) ∨ (A = 6 ∧ i ≤ J ∧ J < i + 1) ∨ (A = 7 ∧ i ≤ J ∧ J < i + 1) ∨ (5 ≤ A ∧ A < 8 ∧ i + 1 ≤ J ∧ J < 8) := by omega
        rcases z with z | z | z | z
        · exact Or.inl (Or.inl (Or.inl (Or.inr z)))
        · exact Or.inl (Or.inl (Or.inr z))
        · exact Or.inl (Or.inr z)
        · exact Or.inr z
    refine ⟨σ', cpV_mo h1 hm, fun hQ => ?_⟩
    have l1 : ((8 : Int32) ≤ Int32.ofNat i) ↔ False := iff_false_intro (fun q => absurd ((on_le (i := 8) (by omega) (by omega)).mp q) (by omega))
    have eb : inB (Int32.ofNat i) 8 = true := on_inB (by omega) (by omega)
    have en := on_nat (i := i) (by omega)
    refine b48_58 ?_
    simp only [↓rF_I, ↓rF_L, ↓rF_R, ↓rF_N, rO_m, rB_m, ↓rI_m, wI_m, ↓rB2_m, ↓rB3_m, wB2_m, wB3_m, ↓rL_m, wL_m, ↓rQ_m, wQ_m, ↓lI_m, pI_m, pL_m, pR_m, sI_m, sBy_m, sBo_m, sL_m, sQ_m, fst_m, true_and, and_true, tg_some, ln_some, uI_1, uI_2, uL_1, uL_2, uL_3, uQ_1, uQ_2, uQ_3, rv_i, rv_l, rv_n, rv_b0, rv_b1, RMR, ne_eq, reduceCtorEq, not_false_eq_true, Option.getD_some, if_true, if_false, and_self, false_and, and_false, Nat.add_left_cancel_iff, Nat.add_eq_left, Nat.left_eq_add, Nat.one_ne_zero, Nat.reduceAdd, Nat.reduceLT, Nat.reduceLeDiff, Nat.reduceEqDiff, true_implies, false_implies, implies_true, Option.some.injEq, forall_eq', forall_eq, reduceCtorEq, brT, brF, br_s, i_10, i_01, ib_0_2, ib_1_2, tn_0, tn_1, Int32.le_refl, eq_self, rv_bN, rv_iM, RCS r, hR, l1, eb, en, on_succ]
    exact h2 hQ
theorem lp_48d {w : mT} {σ : mS} {r t : Nat} (hR : isS w r) : ∀ (n i : Nat) (σi : mS) (R : Nat → Nat → Prop), i + n = 2 → cpV σ σi r (V48 σ t) R → ∃ σ', cpV σ σ' r (V48 σ t) (fun A J => R A J ∨ (8 ≤ A ∧ A < 13 ∧ i ≤ J ∧ J < 2)) ∧ ∀ {Q : Option (Option Value) → Hp → Prop} {d : Nat}, Q (some none) (mW w σ') → Wp 48 93 [.ref r, .ref t, .int (Int32.ofNat i)] [] (mW w σi) Q d := by
  simp only [isS] at hR
  intro n
  induction n with
  | zero =>
    intro i σi R hi h
    refine ⟨σi, cpV_mo h (fun A J q => q.resolve_right (by omega)), fun hQ => ?_⟩
    have l1 : ((2 : Int32) ≤ Int32.ofNat i) ↔ True := iff_true_intro ((on_le (i := 2) (by omega) (by omega)).mpr (by omega))
    refine b48_93 ?_
    simp only [↓rF_I, ↓rF_L, ↓rF_R, ↓rF_N, rO_m, rB_m, ↓rI_m, wI_m, ↓rB2_m, ↓rB3_m, wB2_m, wB3_m, ↓rL_m, wL_m, ↓rQ_m, wQ_m, ↓lI_m, pI_m, pL_m, pR_m, sI_m, sBy_m, sBo_m, sL_m, sQ_m, fst_m, true_and, and_true, tg_some, ln_some, uI_1, uI_2, uL_1, uL_2, uL_3, uQ_1, uQ_2, uQ_3, rv_i, rv_l, rv_n, rv_b0, rv_b1, RMR, ne_eq, reduceCtorEq, not_false_eq_true, Option.getD_some, if_true, if_false, and_self, false_and, and_false, Nat.add_left_cancel_iff, Nat.add_eq_left, Nat.left_eq_add, Nat.one_ne_zero, Nat.reduceAdd, Nat.reduceLT, Nat.reduceLeDiff, Nat.reduceEqDiff, true_implies, false_implies, implies_true, Option.some.injEq, forall_eq', forall_eq, reduceCtorEq, brT, brF, br_s, i_10, i_01, ib_0_2, ib_1_2, tn_0, tn_1, Int32.le_refl, eq_self, rv_bN, rv_iM, l1]
    exact hQ
  | succ n ih =>
    intro i σi R hi h
    obtain ⟨σ', h1, h2⟩ := ih (i + 1) _ _ (by omega) (cpV_I (A := 12) (J := i) (v := 0) (cpV_I (A := 11) (J := i) (v := 0) (cpV_I (A := 10) (J := i) (v := 0) (cpV_I (A := 9) (J := i) (v := 0) (cpV_I (A := 8) (J := i) (v := -1) h (by omega) rfl) (by omega) rfl) (by omega) rfl) (by omega) rfl) (by omega) rfl)
    have hm : ∀ A J, (R A J ∨ (8 ≤ A ∧ A < 13 ∧ i ≤ J ∧ J < 2)) → ((((((R A J ∨ (A = 8 ∧ i ≤ J ∧ J < i + 1)) ∨ (A = 9 ∧ i ≤ J ∧ J < i + 1)) ∨ (A = 10 ∧ i ≤ J ∧ J < i + 1)) ∨ (A = 11 ∧ i ≤ J ∧ J < i + 1)) ∨ (A = 12 ∧ i ≤ J ∧ J < i + 1)) ∨ (8 ≤ A ∧ A < 13 ∧ i + 1 ≤ J ∧ J < 2)) := fun A J q => by
      rcases q with q | q
      · exact Or.inl (Or.inl (Or.inl (Or.inl (Or.inl (Or.inl (q))))))
      · have z : (A = 8 ∧ i ≤ J ∧ J < i + 1) ∨ (A = 9 ∧ i ≤ J ∧ J < i + 1) ∨ (A = 10 ∧ i ≤ J ∧ J < i + 1) ∨ (A = 11 ∧ i ≤ J ∧ J < i + 1) ∨ (A = 12 ∧ i ≤ J ∧ J < i + 1) ∨ (8 ≤ A ∧ A < 13 ∧ i + 1 ≤ J ∧ J < 2) := by omega
        rcases z with z | z | z | z | z | z
        · exact Or.inl (Or.inl (Or.inl (Or.inl (Or.inl (Or.inr z)))))
        · exact Or.inl (Or.inl (Or.inl (Or.inl (Or.inr z))))
        · exact Or.inl (Or.inl (Or.inl (Or.inr z)))
        · exact Or.inl (Or.inl (Or.inr z))
        · exact Or.inl (Or.inr z)
        · exact Or.inr z
    refine ⟨σ', cpV_mo h1 hm, fun hQ => ?_⟩
    have l1 : ((2 : Int32) ≤ Int32.ofNat i) ↔ False := iff_false_intro (fun q => absurd ((on_le (i := 2) (by omega) (by omega)).mp q) (by omega))
    have eb : inB (Int32.ofNat i) 2 = true := on_inB (by omega) (by omega)
    have en := on_nat (i := i) (by omega)
    refine b48_93 ?_
    simp only [↓rF_I, ↓rF_L, ↓rF_R, ↓rF_N, rO_m, rB_m, ↓rI_m, wI_m, ↓rB2_m, ↓rB3_m, wB2_m, wB3_m, ↓rL_m, wL_m, ↓rQ_m, wQ_m, ↓lI_m, pI_m, pL_m, pR_m, sI_m, sBy_m, sBo_m, sL_m, sQ_m, fst_m, true_and, and_true, tg_some, ln_some, uI_1, uI_2, uL_1, uL_2, uL_3, uQ_1, uQ_2, uQ_3, rv_i, rv_l, rv_n, rv_b0, rv_b1, RMR, ne_eq, reduceCtorEq, not_false_eq_true, Option.getD_some, if_true, if_false, and_self, false_and, and_false, Nat.add_left_cancel_iff, Nat.add_eq_left, Nat.left_eq_add, Nat.one_ne_zero, Nat.reduceAdd, Nat.reduceLT, Nat.reduceLeDiff, Nat.reduceEqDiff, true_implies, false_implies, implies_true, Option.some.injEq, forall_eq', forall_eq, reduceCtorEq, brT, brF, br_s, i_10, i_01, ib_0_2, ib_1_2, tn_0, tn_1, Int32.le_refl, eq_self, rv_bN, rv_iM, RCS r, hR, l1, eb, en, on_succ]
    exact h2 hQ
theorem g_48 {w : mT} {σ : mS} {r t : Nat} {τ : Rw} (hR : isS w r) (hT : isT w t) (hτ : tTold σ t τ) (hv : vTold τ) (hd : r + 14 ≤ t ∨ t + 10 ≤ r) : ∃ σ', frR r (r + 14) σ σ' ∧ tSt σ' r τ (sBeg τ) ∧ ∀ {D : Nat} {K : Hp → Prop}, 1 ≤ D → (wpV D 48 [.ref r, .ref t] (mW w σ) K ↔ K (mW w σ')) := by
  have c1 : cpV σ (uI (uI σ r 0 0) r 1 0) r (V48 σ t) _ := cpV_I (A := 0) (cpV_I (A := 0) cpV_0 (by omega) rfl) (by omega) rfl
  obtain ⟨σa, h1, k1⟩ := lp_48a hR hT hd 12 0 _ _ rfl c1
  obtain ⟨σb, h2, k2⟩ := lp_48b hR 3 0 _ _ rfl h1
  obtain ⟨σc, h3, k3⟩ := lp_48c hR 8 0 _ _ rfl h2
  obtain ⟨σe, h4, k4⟩ := lp_48d hR 2 0 _ _ rfl h3
  have v0 := hv.1
  have v2 := hv.2.2.1
  have z : ∀ j, (j < 12 ∨ 24 ≤ j) → sBeg τ j = 0 := fun j h => sBeg_0 h
  have g0 : ∀ A J, (A = 0 ∧ J < 2) ∨ (A = 2 ∧ J < 3) ∨ (5 ≤ A ∧ A < 7 ∧ J < 8) ∨ (9 ≤ A ∧ A < 13 ∧ J < 2) → σe.1 (r + A) J = 0 := fun A J q => by
    rw [h4.2 A J (by omega)]
    unfold V48
    rw [if_neg (by omega), if_neg (by omega)]
  have g1 : ∀ A J, (A = 7 ∧ J < 8) ∨ (A = 8 ∧ J < 2) → σe.1 (r + A) J = -1 := fun A J q => by
    rw [h4.2 A J (by omega)]
    unfold V48
    rw [if_neg (by omega), if_pos (by omega)]
  have g2 : ∀ J, J < 12 → σe.1 (r + 1) J = σ.1 (t + 1) J := fun J q => by
    rw [h4.2 1 J (by omega)]
    exact if_pos rfl
  refine ⟨σe, h4.1, ?_, fun hD => ?_⟩
  · refine ⟨?_, ?_, fun l hl => ?_, fun p hp => ?_, fun p hp k hk => ?_, fun p hp k hk c hc => ?_, fun s hs => ⟨?_, ?_, ?_⟩, fun m hm => ⟨?_, ?_, ?_, ?_, ?_⟩, fun i hi => ?_, fun i hi => ?_⟩
    · rw [z 0 (by omega)]; exact g0 0 0 (by omega)
    · rw [z 1 (by omega)]; exact g0 0 1 (by omega)
    · rw [g2 l (by omega), sBeg_l (by omega)]; exact (hτ.2.2.2.2.1 l hl).1
    · rw [z _ (by omega)]; exact g0 2 p (by omega)
    · rw [z _ (by omega)] at hk; omega
    · rw [z _ (by omega)] at hk; omega
    · rw [z _ (by omega)]; exact g0 5 s (by omega)
    · rw [z _ (by omega)]; exact g0 6 s (by omega)
    · rw [z _ (by omega), g1 7 s (by omega)]; decide
    · rw [z _ (by omega), g1 8 m (by omega)]; decide
    · rw [z _ (by omega)]; exact g0 9 m (by omega)
    · rw [z _ (by omega)]; exact g0 10 m (by omega)
    · rw [z _ (by omega)]; exact g0 11 m (by omega)
    · rw [z _ (by omega)]; exact g0 12 m (by omega)
    · rw [z _ (by omega)] at hi; omega
    · rw [z _ (by omega)] at hi; omega
  · simp only [isS] at hR
    refine cV_of (m := 0) (fun d hdd Q hQ => ?_) rfl hD
    refine b48_0 ?_
    simp only [↓rF_I, ↓rF_L, ↓rF_R, ↓rF_N, rO_m, rB_m, ↓rI_m, wI_m, ↓rB2_m, ↓rB3_m, wB2_m, wB3_m, ↓rL_m, wL_m, ↓rQ_m, wQ_m, ↓lI_m, pI_m, pL_m, pR_m, sI_m, sBy_m, sBo_m, sL_m, sQ_m, fst_m, true_and, and_true, tg_some, ln_some, uI_1, uI_2, uL_1, uL_2, uL_3, uQ_1, uQ_2, uQ_3, rv_i, rv_l, rv_n, rv_b0, rv_b1, RMR, ne_eq, reduceCtorEq, not_false_eq_true, Option.getD_some, if_true, if_false, and_self, false_and, and_false, Nat.add_left_cancel_iff, Nat.add_eq_left, Nat.left_eq_add, Nat.one_ne_zero, Nat.reduceAdd, Nat.reduceLT, Nat.reduceLeDiff, Nat.reduceEqDiff, true_implies, false_implies, implies_true, Option.some.injEq, forall_eq', forall_eq, reduceCtorEq, brT, brF, br_s, i_10, i_01, ib_0_2, ib_1_2, tn_0, tn_1, Int32.le_refl, eq_self, rv_bN, rv_iM, RCS r, hR]
    exact k1 (k2 (k3 (k4 hQ)))
/-- a TEXT is cleared -/
theorem g_69 {w : mT} {σ : mS} {t D : Nat} {K : Hp → Prop} (hT : isT w t) (hD : 1 ≤ D) : wpV D 69 [.ref t] (mW w σ) K ↔ K (mW w (uI (uI (uI (uI (uI σ t 0 0) t 1 1) t 2 0) t 3 0) t 4 0)) := by
  simp only [isT] at hT
  refine cV_of (m := 0) (fun d hd Q hQ => ?_) rfl hD
  refine b69_0 ?_
  simp only [↓rF_I, ↓rF_L, ↓rF_R, ↓rF_N, rO_m, rB_m, ↓rI_m, wI_m, ↓rB2_m, ↓rB3_m, wB2_m, wB3_m, ↓rL_m, wL_m, ↓rQ_m, wQ_m, ↓lI_m, pI_m, pL_m, pR_m, sI_m, sBy_m, sBo_m, sL_m, sQ_m, fst_m, true_and, and_true, tg_some, ln_some, uI_1, uI_2, uL_1, uL_2, uL_3, uQ_1, uQ_2, uQ_3, rv_i, rv_l, rv_n, rv_b0, rv_b1, RMR, ne_eq, reduceCtorEq, not_false_eq_true, Option.getD_some, if_true, if_false, and_self, false_and, and_false, Nat.add_left_cancel_iff, Nat.add_eq_left, Nat.left_eq_add, Nat.one_ne_zero, Nat.reduceAdd, Nat.reduceLT, Nat.reduceLeDiff, Nat.reduceEqDiff, true_implies, false_implies, implies_true, Option.some.injEq, forall_eq', forall_eq, reduceCtorEq, brT, brF, br_s, i_10, i_01, ib_0_2, ib_1_2, tn_0, tn_1, Int32.le_refl, eq_self, rv_bN, rv_iM, RCT t, hT]
  exact hQ
end
section
/-! one MINUTE, told in numbers -/
def sMv (τ ρ : Rw) (m p c : Nat) : Rw := if frP τ ρ m p c then sGo ρ m p c else ρ
def way1 (ρ : Rw) (m : Nat) : Rw := if ρ (6 + m) < 10 then rSet ρ (6 + m) (ρ (6 + m) + 1) else ρ
abbrev arrP (τ ρ : Rw) (m p g : Nat) : Prop := ¬ (way1 ρ m (6 + m) < 10) ∧ frP τ ρ m p g
def sTr (τ ρ : Rw) (m p g : Nat) : Rw := if arrP τ ρ m p g then rSet (sGo (way1 ρ m) m p g) (6 + m) 0 else way1 ρ m
def nx (a g : Nat) : Nat := if a < g then a + 1 else a - 1
def sCut (τ ρ : Rw) (p g : Nat) : Rw := if tkP τ ρ (ρ 109) then sE1 (sMove τ ρ p g (ρ 109)) else sE1 ρ
def sAft (τ ρ : Rw) (p g : Nat) : Rw := if g = ρ 54 then sE0 ρ else sMv τ (rSet ρ 56 (nx g (ρ 54))) 0 p (nx g (ρ 54))
def sNew (ρ : Rw) (p : Nat) : Rw := rSet (sAdd ρ p (ρ 52)) 57 (ρ (24 + p) + 1)
def sLay (τ ρ : Rw) (p g : Nat) : Rw := if ρ (12 + ρ 52) = 0 ∨ (ρ 57 = 0 ∧ 60 ≤ ρ (24 + p)) then sE0 ρ else
  if ρ 57 = 0 then sAft τ (sPour (sNew ρ p) p (ρ (24 + p)) g (min (ρ 55) (ρ (12 + ρ 52)))) p g else sAft τ (sPour ρ p (ρ 57 - 1) g (min (ρ 55) (ρ (12 + ρ 52)))) p g
def pO (ρ : Rw) (m : Nat) : Nat := if m = 0 then ρ 51 else ρ 107
def gO (ρ : Rw) (m : Nat) : Nat := if m = 0 then ρ 56 else ρ 108
def kW (τ ρ : Rw) (m : Nat) : Bool := if onAtD ρ m (pO ρ m) = true then (if cellAt ρ m = gO ρ m then false else decide (¬ frP τ ρ m (pO ρ m) (nx (cellAt ρ m) (gO ρ m)))) else decide (¬ ρ (6 + m) < 10 ∧ ¬ frP τ ρ m (pO ρ m) (gO ρ m))
def kSt (τ ρ : Rw) (m : Nat) : Rw := if onAtD ρ m (pO ρ m) = true then (if cellAt ρ m = gO ρ m then (if m = 1 then sCut τ ρ (pO ρ m) (gO ρ m) else sLay τ ρ (pO ρ m) (gO ρ m)) else sMv τ ρ m (pO ρ m) (nx (cellAt ρ m) (gO ρ m))) else sTr τ ρ m (pO ρ m) (gO ρ m)
/-! it keeps what a state can be -/
theorem vRow_mv {τ ρ : Rw} {m p c : Nat} (hv : vTold τ) (h : vRow τ ρ) (hm : m < 2) (hp : p < τ 1) (hc : c < τ (28 + p)) : vRow τ (sMv τ ρ m p c) := by
  unfold sMv
  split
  · exact vRow_go hv h hm hp hc
  · exact h
theorem vRow_w1 {τ ρ : Rw} {m : Nat} (hv : vTold τ) (h : vRow τ ρ) (hm : m < 2) : vRow τ (way1 ρ m) := by
  unfold way1
  split
  · exact vRow_s hv h (by omega)
  · exact h
theorem vRow_tr {τ ρ : Rw} {m p g : Nat} (hv : vTold τ) (h : vRow τ ρ) (hm : m < 2) (hp : p < τ 1) (hc : g < τ (28 + p)) : vRow τ (sTr τ ρ m p g) := by
  unfold sTr
  split
  · exact vRow_s hv (vRow_go hv (vRow_w1 hv h hm) hm hp hc) (by omega)
  · exact vRow_w1 hv h hm
theorem vRow_cut {τ ρ : Rw} {p g : Nat} (hv : vTold τ) (h : vRow τ ρ) (hn : 0 < ρ 11) (hp : p < τ 1) (hg : g < τ (28 + p)) : vRow τ (sCut τ ρ p g) := by
  have v1 := hv.2.1
  have v2 := (hv.2.2.2.2.2.1 p hp).2
  have hs : ρ 109 < τ 2 := (vR_o1 h 0 hn).2.2
  unfold sCut
  split
  · refine vRow_E1 hv (vRow_move hv h (by omega) (by omega) hs) ?_
    rw [sMove_g (by omega) (by omega) (by have := hv.2.2.1; omega)]; exact hn
  · exact vRow_E1 hv h hn
theorem nx_lt {a g n : Nat} (ha : a < n) (hg : g < n) : nx a g < n := by unfold nx; split <;> omega
theorem vRow_aft {τ ρ : Rw} {p g : Nat} (hv : vTold τ) (h : vRow τ ρ) (hn : 0 < ρ 10) (hp : p = ρ 51) (hg : g < τ (28 + p)) : vRow τ (sAft τ ρ p g) := by
  have o := vR_o0 h 0 hn
  have o0 : ρ 51 < τ 1 := o.1
  have o2 : ρ 54 < τ (28 + ρ 51) := o.2.2.1
  subst hp
  unfold sAft
  split
  · exact vRow_E0 hv h hn
  · exact vRow_mv hv (vRow_go0 hv h (nx_lt hg o2)) (by omega) o0 (nx_lt hg o2)
theorem vRow_new {τ ρ : Rw} {p : Nat} (hv : vTold τ) (h : vRow τ ρ) (hn : 0 < ρ 10) (hp : p = ρ 51) (hk : ρ (24 + p) < 60) : vRow τ (sNew ρ p) := by
  have o := vR_o0 h 0 hn
  have o0 : ρ 51 < τ 1 := o.1
  have o1 : ρ 52 < τ 0 := o.2.1
  have v1 := hv.2.1
  subst hp
  have e51 : sAdd ρ (ρ 51) (ρ 52) 51 = ρ 51 := by rw [sAdd_1, if_neg (by omega), if_neg (by unfold lo; omega)]
  have e52 : sAdd ρ (ρ 51) (ρ 52) 52 = ρ 52 := by rw [sAdd_1, if_neg (by omega), if_neg (by unfold lo; omega)]
  unfold sNew
  refine vRow_la0 hv (vRow_add hv h (by omega) o1 hk) ?_ ?_
  · rw [e51, sAdd_1, if_pos rfl]; omega
  · rw [e51, e52, sAdd_1, if_neg (by unfold lo; omega), if_pos rfl]
theorem sNew_1 {ρ : Rw} {p j : Nat} : sNew ρ p j = if j = 57 then ρ (24 + p) + 1 else if j = 24 + p then ρ (24 + p) + 1 else if j = lo p (ρ (24 + p)) then ρ 52 else ρ j := by
  unfold sNew
  rw [rSet_1, sAdd_1]
/-- what is poured from a new layer on, and from an old one -/
theorem pour_new {τ ρ : Rw} {p g : Nat} (hv : vTold τ) (h : vRow τ ρ) (hn : 0 < ρ 10) (hp : p = ρ 51) (hg : g < τ (28 + p)) (hk : ρ (24 + p) < 60) : ρ (24 + p) < sNew ρ p (24 + p) ∧ min (ρ 55) (ρ (12 + ρ 52)) ≤ sNew ρ p (12 + sNew ρ p (lo p (ρ (24 + p)))) ∧ (∀ t, sPour (sNew ρ p) p (ρ (24 + p)) g t 10 = ρ 10 ∧ sPour (sNew ρ p) p (ρ (24 + p)) g t 51 = ρ 51 ∧ sPour (sNew ρ p) p (ρ (24 + p)) g t 54 = ρ 54) := by
  have o := vR_o0 h 0 hn
  have o0 : ρ 51 < τ 1 := o.1
  have o1 : ρ 52 < τ 0 := o.2.1
  have v0 := hv.1
  have v1 := hv.2.1
  have e1 : sNew ρ p (lo p (ρ (24 + p))) = ρ 52 := by
    rw [sNew_1, if_neg (by unfold lo; omega), if_neg (by unfold lo; omega), if_pos rfl]
  have e2 : sNew ρ p (12 + ρ 52) = ρ (12 + ρ 52) := by
    rw [sNew_1, if_neg (by omega), if_neg (by omega), if_neg (by unfold lo; omega)]
  refine ⟨?_, ?_, fun t => ⟨?_, ?_, ?_⟩⟩
  · rw [sNew_1, if_neg (by omega), if_pos rfl]; omega
  · rw [e1, e2]; omega
  · rw [sPour_1, e1, if_neg (by omega), if_neg (by unfold li; omega), sNew_1, if_neg (by omega), if_neg (by omega), if_neg (by unfold lo; omega)]
  · rw [sPour_1, e1, if_neg (by omega), if_neg (by unfold li; omega), sNew_1, if_neg (by omega), if_neg (by omega), if_neg (by unfold lo; omega)]
  · rw [sPour_1, e1, if_neg (by omega), if_neg (by unfold li; omega), sNew_1, if_neg (by omega), if_neg (by omega), if_neg (by unfold lo; omega)]
theorem pour_old {τ ρ : Rw} {p g : Nat} (hv : vTold τ) (h : vRow τ ρ) (hn : 0 < ρ 10) (hp : p = ρ 51) (hL : ρ 57 ≠ 0) : ρ 57 - 1 < ρ (24 + p) ∧ ρ (lo p (ρ 57 - 1)) = ρ 52 ∧ (∀ t, sPour ρ p (ρ 57 - 1) g t 10 = ρ 10 ∧ sPour ρ p (ρ 57 - 1) g t 51 = ρ 51 ∧ sPour ρ p (ρ 57 - 1) g t 54 = ρ 54) := by
  have o := vR_o0 h 0 hn
  have o1 : ρ 52 < τ 0 := o.2.1
  have v0 := hv.1
  have o5 : ρ 57 = 0 ∨ (ρ 57 ≤ ρ (24 + ρ 51) ∧ ρ (lo (ρ 51) (ρ 57 - 1)) = ρ 52) := o.2.2.2.2.2
  obtain ⟨a, b⟩ := o5.resolve_left hL
  subst hp
  refine ⟨by omega, b, fun t => ⟨?_, ?_, ?_⟩⟩
  · rw [sPour_1, b, if_neg (by omega), if_neg (by unfold li; omega)]
  · rw [sPour_1, b, if_neg (by omega), if_neg (by unfold li; omega)]
  · rw [sPour_1, b, if_neg (by omega), if_neg (by unfold li; omega)]
theorem vRow_lay {τ ρ : Rw} {p g : Nat} (hv : vTold τ) (h : vRow τ ρ) (hn : 0 < ρ 10) (hp : p = ρ 51) (hg : g < τ (28 + p)) : vRow τ (sLay τ ρ p g) := by
  have o := vR_o0 h 0 hn
  have o0 : ρ 51 < τ 1 := o.1
  have v1 := hv.2.1
  have v2 := (hv.2.2.2.2.2.1 p (by omega)).2
  unfold sLay
  split
  · exact vRow_E0 hv h hn
  · rename_i hz
    split
    · rename_i hL
      obtain ⟨a, b, c⟩ := pour_new hv h hn hp hg (by omega)
      refine vRow_aft hv (vRow_pour hv (vRow_new hv h hn hp (by omega)) (by omega) a (by omega) b) ?_ ?_ hg
      · rw [(c _).1]; exact hn
      · rw [(c _).2.1]; exact hp
    · rename_i hL
      obtain ⟨a, b, c⟩ := pour_old (g := g) hv h hn hp hL
      refine vRow_aft hv (vRow_pour hv h (by omega) a (by omega) (by rw [b]; omega)) ?_ ?_ hg
      · rw [(c _).1]; exact hn
      · rw [(c _).2.1]; exact hp
theorem on_cell {τ ρ : Rw} {m p : Nat} (hv : vTold τ) (h : vRow τ ρ) (hm : m < 2) (ho : onAtD ρ m p = true) : p < τ 1 ∧ cellAt ρ m < τ (28 + p) := by
  obtain ⟨a, b⟩ := of_decide_eq_true ho
  rcases vR_on h hm with z | ⟨q, c, h1, h2, h3⟩
  · exact absurd z a
  · have v2 := (hv.2.2.2.2.2.1 q h1).2
    have e : q = p := by omega
    subst e
    refine ⟨h1, ?_⟩
    unfold cellAt
    rw [h3, show (100 * q + c + 1 - 1) % 100 = c by omega]; exact h2
theorem pg_lt {τ ρ : Rw} {m : Nat} (h : vRow τ ρ) (hm : m < 2) (hn : 0 < ρ (10 + m)) : pO ρ m < τ 1 ∧ gO ρ m < τ (28 + pO ρ m) := by
  have : m = 0 ∨ m = 1 := by omega
  rcases this with rfl | rfl
  · have o := vR_o0 h 0 hn
    exact ⟨o.1, o.2.2.2.1⟩
  · have o := vR_o1 h 0 hn
    exact ⟨o.1, o.2.1⟩
theorem vRow_k {τ ρ : Rw} {m : Nat} (hv : vTold τ) (h : vRow τ ρ) (hm : m < 2) (hn : 0 < ρ (10 + m)) : vRow τ (kSt τ ρ m) := by
  obtain ⟨a, b⟩ := pg_lt h hm hn
  unfold kSt
  split
  · rename_i ho
    have oc := (on_cell hv h hm ho).2
    split
    · have : m = 0 ∨ m = 1 := by omega
      rcases this with rfl | rfl
      · rw [if_neg (by omega)]
        exact vRow_lay hv h hn rfl b
      · rw [if_pos rfl]
        exact vRow_cut hv h hn a b
    · exact vRow_mv hv h hm a (nx_lt oc b)
  · exact vRow_tr hv h hm a b
/-- the whole MINUTE -/
abbrev mW1 (τ ρ : Rw) : Bool := if 0 < ρ 11 then kW τ ρ 1 else false
def mR1 (τ ρ : Rw) : Rw := if 0 < ρ 11 then kSt τ ρ 1 else ρ
abbrev mW0 (τ ρ : Rw) : Bool := if 0 < ρ 10 then kW τ (mR1 τ ρ) 0 else false
def mR0 (τ ρ : Rw) : Rw := if 0 < ρ 10 then kSt τ (mR1 τ ρ) 0 else mR1 τ ρ
def sMin (τ ρ : Rw) : Rw := rSet (rSet (rSet (mR0 τ ρ) 9 (mR0 τ ρ 9 + if mW1 τ ρ = true then 1 else 0)) 8 (mR0 τ ρ 8 + if mW0 τ ρ = true then 1 else 0)) 1 (mR0 τ ρ 1 + 1)
abbrev mPs (τ ρ : Rw) : Prop := ((mW1 τ ρ = true ∨ ¬ 0 < ρ 11) ∧ (mW0 τ ρ = true ∨ ¬ 0 < ρ 10)) ∧ (mW1 τ ρ = true ∨ mW0 τ ρ = true)
/-- the taker's step leaves the stacker's orders -/
theorem sMv_g {τ ρ : Rw} {m p c j : Nat} (h1 : j ≠ 2 + m) (h2 : j ≠ 4 + m) : sMv τ ρ m p c j = ρ j := by
  unfold sMv
  split
  · unfold sGo; rw [rS_ne h1, rS_ne h2]
  · rfl
theorem sTr_g {τ ρ : Rw} {m p c j : Nat} (h1 : j ≠ 2 + m) (h2 : j ≠ 4 + m) (h3 : j ≠ 6 + m) : sTr τ ρ m p c j = ρ j := by
  have w : way1 ρ m j = ρ j := by
    unfold way1
    split
    · rw [rS_ne h3]
    · rfl
  unfold sTr
  split
  · unfold sGo; rw [rS_ne h3, rS_ne h1, rS_ne h2, w]
  · exact w
theorem k1_g {τ ρ : Rw} (hv : vTold τ) (h : vRow τ ρ) (hn : 0 < ρ 11) {j : Nat} (hj : j = 10 ∨ (51 ≤ j ∧ j < 107)) : kSt τ ρ 1 j = ρ j := by
  have hs : ρ 109 < τ 2 := (vR_o1 h 0 hn).2.2
  have v2 := hv.2.2.1
  have e : ∀ q : Rw, sE1 q j = q j := fun q => by unfold sE1; rw [if_neg (by omega), if_neg (by omega), if_neg (by omega)]
  unfold kSt
  split
  · split
    · rw [if_pos rfl]
      unfold sCut
      split
      · rw [e, sMove_g (by omega) (by omega) (by omega)]
      · rw [e]
    · exact sMv_g (by omega) (by omega)
  · exact sTr_g (by omega) (by omega) (by omega)
theorem vRow_m1 {τ ρ : Rw} (hv : vTold τ) (h : vRow τ ρ) : vRow τ (mR1 τ ρ) := by
  unfold mR1
  split
  · rename_i z; exact vRow_k hv h (by omega) z
  · exact h
theorem m1_10 {τ ρ : Rw} (hv : vTold τ) (h : vRow τ ρ) : mR1 τ ρ 10 = ρ 10 := by
  unfold mR1
  split
  · rename_i z; exact k1_g hv h z (by omega)
  · rfl
theorem vRow_m0 {τ ρ : Rw} (hv : vTold τ) (h : vRow τ ρ) : vRow τ (mR0 τ ρ) := by
  unfold mR0
  split
  · rename_i z; exact vRow_k hv (vRow_m1 hv h) (by omega) (by show 0 < mR1 τ ρ 10; rw [m1_10 hv h]; exact z)
  · exact vRow_m1 hv h
theorem vRow_min {τ ρ : Rw} (hv : vTold τ) (h : vRow τ ρ) : vRow τ (sMin τ ρ) :=
  vRow_s hv (vRow_s hv (vRow_s hv (vRow_m0 hv h) (by omega)) (by omega)) (by omega)
end
section
/-! one MINUTE of the class -/
theorem tS_o0 {σ : mS} {r : Nat} {τ ρ : Rw} (h : tSt σ r τ ρ) (hn : 0 < ρ 10) : σ.1 (r + 13) 0 = Int32.ofNat (ρ 51) ∧ σ.1 (r + 13) 1 = Int32.ofNat (ρ 52) ∧ σ.1 (r + 13) 2 = Int32.ofNat (ρ 56) ∧ σ.1 (r + 13) 3 = Int32.ofNat (ρ 54) ∧ σ.1 (r + 13) 4 = Int32.ofNat (ρ 55) ∧ σ.1 (r + 13) 5 = Int32.ofNat (ρ 57) - 1 := h.2.2.2.2.2.2.2.2.1 0 hn
theorem tS_o1 {σ : mS} {r : Nat} {τ ρ : Rw} (h : tSt σ r τ ρ) (hn : 0 < ρ 11) : σ.1 (r + 13) 48 = Int32.ofNat (ρ 107) ∧ σ.1 (r + 13) 49 = Int32.ofNat (ρ 109) ∧ σ.1 (r + 13) 50 = Int32.ofNat (ρ 108) := h.2.2.2.2.2.2.2.2.2 0 hn
theorem g_23 {w : mT} {σ : mS} {r t m p c : Nat} {τ ρ : Rw} (hR : isS w r) (hT : isT w t) (hρ : tSt σ r τ ρ) (hτ : tTold σ t τ) (hv : vTold τ) (h : vRow τ ρ) (hm : m < 2) (hp : p < 1000) (hc : c < 1000) : ∃ σ', frR r (r + 14) σ σ' ∧ tSt σ' r τ (sMv τ ρ m p c) ∧ ∀ {D : Nat} {K : Int32 → Hp → Prop}, 3 ≤ D → (wpI D 23 [.ref t, .ref r, .int (Int32.ofNat m), .int (Int32.ofNat p), .int (Int32.ofNat c)] (mW w σ) K ↔ K (iB (frP τ ρ m p c)) (mW w σ')) := by
  have hR' := hR
  simp only [isS] at hR'
  have hs1 := onP_lt hv (vR_on h hm)
  have hs2 := onP_lt hv (vR_on h (by omega : 1 - m < 2))
  by_cases z : frP τ ρ m p c
  · obtain ⟨σ1, f1, t1, e1⟩ := g_54 (w := w) hR hρ (vRow_b hv h) hm hs1 hp hc
    refine ⟨σ1, f1, by unfold sMv; rw [if_pos z]; exact t1, fun hD => cI_of (m := 2) (fun d hd Q hQ => ?_) rfl hD⟩
    have hd1 : 1 ≤ d := by omega
    have hd2 : 2 ≤ d := by omega
    have ez : iB (frP τ ρ m p c) = 1 := iB_t z
    rw [ez] at hQ
    refine b23_0 ?_
    simp only [↓rF_I, ↓rF_L, ↓rF_R, ↓rF_N, rO_m, rB_m, ↓rI_m, wI_m, ↓rB2_m, ↓rB3_m, wB2_m, wB3_m, ↓rL_m, wL_m, ↓rQ_m, wQ_m, ↓lI_m, pI_m, pL_m, pR_m, sI_m, sBy_m, sBo_m, sL_m, sQ_m, fst_m, true_and, and_true, tg_some, ln_some, uI_1, uI_2, uL_1, uL_2, uL_3, uQ_1, uQ_2, uQ_3, rv_i, rv_l, rv_n, rv_b0, rv_b1, RMR, ne_eq, reduceCtorEq, not_false_eq_true, Option.getD_some, if_true, if_false, and_self, false_and, and_false, Nat.add_left_cancel_iff, Nat.add_eq_left, Nat.left_eq_add, Nat.one_ne_zero, Nat.reduceAdd, Nat.reduceLT, Nat.reduceLeDiff, Nat.reduceEqDiff, true_implies, false_implies, implies_true, Option.some.injEq, forall_eq', forall_eq, reduceCtorEq, brT, brF, br_s, i_10, i_01, ib_0_2, ib_1_2, tn_0, tn_1, Int32.le_refl, eq_self, rv_bN, rv_iM, RCS r, hR', g_55 hR hT hρ hτ hv hm hs2 hp hc hd2, ez, e1 hd2]
    exact hQ
  · refine ⟨σ, frR_rf, by unfold sMv; rw [if_neg z]; exact hρ, fun hD => cI_of (m := 2) (fun d hd Q hQ => ?_) rfl hD⟩
    have hd1 : 1 ≤ d := by omega
    have hd2 : 2 ≤ d := by omega
    have ez : iB (frP τ ρ m p c) = 0 := iB_f z
    rw [ez] at hQ
    refine b23_0 ?_
    simp only [↓rF_I, ↓rF_L, ↓rF_R, ↓rF_N, rO_m, rB_m, ↓rI_m, wI_m, ↓rB2_m, ↓rB3_m, wB2_m, wB3_m, ↓rL_m, wL_m, ↓rQ_m, wQ_m, ↓lI_m, pI_m, pL_m, pR_m, sI_m, sBy_m, sBo_m, sL_m, sQ_m, fst_m, true_and, and_true, tg_some, ln_some, uI_1, uI_2, uL_1, uL_2, uL_3, uQ_1, uQ_2, uQ_3, rv_i, rv_l, rv_n, rv_b0, rv_b1, RMR, ne_eq, reduceCtorEq, not_false_eq_true, Option.getD_some, if_true, if_false, and_self, false_and, and_false, Nat.add_left_cancel_iff, Nat.add_eq_left, Nat.left_eq_add, Nat.one_ne_zero, Nat.reduceAdd, Nat.reduceLT, Nat.reduceLeDiff, Nat.reduceEqDiff, true_implies, false_implies, implies_true, Option.some.injEq, forall_eq', forall_eq, reduceCtorEq, brT, brF, br_s, i_10, i_01, ib_0_2, ib_1_2, tn_0, tn_1, Int32.le_refl, eq_self, rv_bN, rv_iM, RCS r, hR', g_55 hR hT hρ hτ hv hm hs2 hp hc hd2, ez]
    exact hQ
theorem i10_lt {a : Nat} (h : a < 2147483648) : (Int32.ofNat a < (10 : Int32)) ↔ a < 10 := on_lt (j := 10) h (by omega)
theorem frP_w {τ ρ : Rw} {m p c : Nat} (hm : m < 2) : frP τ (way1 ρ m) m p c ↔ frP τ ρ m p c := by
  have e : way1 ρ m (2 + (1 - m)) = ρ (2 + (1 - m)) := by
    unfold way1
    split
    · rw [rS_ne (by omega)]
    · rfl
  unfold frP onAtD cellAt
  rw [e]
theorem g_22 {w : mT} {σ : mS} {r t m p g : Nat} {τ ρ : Rw} (hR : isS w r) (hT : isT w t) (hd : t + 10 ≤ r ∨ r + 14 ≤ t) (hρ : tSt σ r τ ρ) (hτ : tTold σ t τ) (hv : vTold τ) (h : vRow τ ρ) (hm : m < 2) (hp : p < τ 1) (hg : g < τ (28 + p)) : ∃ σ', frR r (r + 14) σ σ' ∧ tSt σ' r τ (sTr τ ρ m p g) ∧ ∀ {D : Nat} {K : Int32 → Hp → Prop}, 4 ≤ D → (wpI D 22 [.ref t, .ref r, .int (Int32.ofNat m), .int (Int32.ofNat p), .int (Int32.ofNat g)] (mW w σ) K ↔ K (iB (¬ (¬ ρ (6 + m) < 10 ∧ ¬ frP τ ρ m p g))) (mW w σ')) := by
  have hR' := hR
  simp only [isS] at hR'
  have v1 := hv.2.1
  have v2 := (hv.2.2.2.2.2.1 p hp).2
  have hw := vR_way h hm
  have hb := vRow_b hv h
  have ew := tS_wy hρ hm
  have eb : inB (Int32.ofNat m) 2 = true := on_inB hm (by omega)
  have en := on_nat (i := m) (by omega)
  have hW := vRow_w1 hv h hm
  by_cases a : ρ (6 + m) < 10
  · have w1 : way1 ρ m = rSet ρ (6 + m) (ρ (6 + m) + 1) := if_pos a
    have ts1 : tSt (uI σ (r + 10) m (Int32.ofNat (ρ (6 + m) + 1))) r τ (way1 ρ m) := by
      rw [w1]
      exact tSt_w hρ hb (by unfold in0; omega) (lA_wy hm) (tv_0 (by unfold isSh; omega)).symm (by omega)
    have fr1 : frR r (r + 14) σ (uI σ (r + 10) m (Int32.ofNat (ρ (6 + m) + 1))) := frR_I (by omega)
    have l1 : (Int32.ofNat (ρ (6 + m)) < (10 : Int32)) ↔ True := iff_true_intro ((i10_lt (by omega)).mpr a)
    have ez : iB (¬ (¬ ρ (6 + m) < 10 ∧ ¬ frP τ ρ m p g)) = 1 := iB_t (fun q => q.1 a)
    have ewy : way1 ρ m (6 + m) = ρ (6 + m) + 1 := by rw [w1, rS_eq]
    by_cases b : ρ (6 + m) + 1 < 10
    · have l2 : (Int32.ofNat (ρ (6 + m) + 1) < (10 : Int32)) ↔ True := iff_true_intro ((i10_lt (by omega)).mpr b)
      refine ⟨_, fr1, by unfold sTr; rw [if_neg (fun q => q.1 (by omega))]; exact ts1, fun hD => cI_of (m := 3) (fun d hd Q hQ => ?_) rfl hD⟩
      rw [ez] at hQ
      refine b22_0 ?_
      simp only [↓rF_I, ↓rF_L, ↓rF_R, ↓rF_N, rO_m, rB_m, ↓rI_m, wI_m, ↓rB2_m, ↓rB3_m, wB2_m, wB3_m, ↓rL_m, wL_m, ↓rQ_m, wQ_m, ↓lI_m, pI_m, pL_m, pR_m, sI_m, sBy_m, sBo_m, sL_m, sQ_m, fst_m, true_and, and_true, tg_some, ln_some, uI_1, uI_2, uL_1, uL_2, uL_3, uQ_1, uQ_2, uQ_3, rv_i, rv_l, rv_n, rv_b0, rv_b1, RMR, ne_eq, reduceCtorEq, not_false_eq_true, Option.getD_some, if_true, if_false, and_self, false_and, and_false, Nat.add_left_cancel_iff, Nat.add_eq_left, Nat.left_eq_add, Nat.one_ne_zero, Nat.reduceAdd, Nat.reduceLT, Nat.reduceLeDiff, Nat.reduceEqDiff, true_implies, false_implies, implies_true, Option.some.injEq, forall_eq', forall_eq, reduceCtorEq, brT, brF, br_s, i_10, i_01, ib_0_2, ib_1_2, tn_0, tn_1, Int32.le_refl, eq_self, rv_bN, rv_iM, RCS r, hR', eb, en, ew, l1, on_succ, l2]
      refine b22_65 ?_
      simp only [↓rF_I, ↓rF_L, ↓rF_R, ↓rF_N, rO_m, rB_m, ↓rI_m, wI_m, ↓rB2_m, ↓rB3_m, wB2_m, wB3_m, ↓rL_m, wL_m, ↓rQ_m, wQ_m, ↓lI_m, pI_m, pL_m, pR_m, sI_m, sBy_m, sBo_m, sL_m, sQ_m, fst_m, true_and, and_true, tg_some, ln_some, uI_1, uI_2, uL_1, uL_2, uL_3, uQ_1, uQ_2, uQ_3, rv_i, rv_l, rv_n, rv_b0, rv_b1, RMR, ne_eq, reduceCtorEq, not_false_eq_true, Option.getD_some, if_true, if_false, and_self, false_and, and_false, Nat.add_left_cancel_iff, Nat.add_eq_left, Nat.left_eq_add, Nat.one_ne_zero, Nat.reduceAdd, Nat.reduceLT, Nat.reduceLeDiff, Nat.reduceEqDiff, true_implies, false_implies, implies_true, Option.some.injEq, forall_eq', forall_eq, reduceCtorEq, brT, brF, br_s, i_10, i_01, ib_0_2, ib_1_2, tn_0, tn_1, Int32.le_refl, eq_self, rv_bN, rv_iM]
      exact hQ
    · have l2 : (Int32.ofNat (ρ (6 + m) + 1) < (10 : Int32)) ↔ False := iff_false_intro (fun q => b ((i10_lt (by omega)).mp q))
      obtain ⟨σ2, f2, t2, e2⟩ := g_23 (p := p) (c := g) hR hT ts1 (tTold_R hτ fr1 (by omega)) hv hW hm (by omega) (by omega)
      by_cases z : frP τ ρ m p g
      · have zw := (frP_w (τ := τ) (ρ := ρ) (p := p) (c := g) hm).mpr z
        have ezw : iB (frP τ (way1 ρ m) m p g) = 1 := iB_t zw
        have ar : arrP τ ρ m p g := ⟨by omega, z⟩
        refine ⟨uI σ2 (r + 10) m 0, frR_tr fr1 (frR_tr f2 (frR_I (by omega))), ?_, fun hD => cI_of (m := 3) (fun d hd Q hQ => ?_) rfl hD⟩
        · unfold sTr
          rw [if_pos ar]
          unfold sMv at t2
          rw [if_pos zw] at t2
          exact tSt_w t2 (vRow_b hv (vRow_go hv hW hm hp hg)) (by unfold in0; omega) (lA_wy hm) (tv_0 (by unfold isSh; omega)).symm (by omega)
        · have hd1 : 1 ≤ d := by omega
          have hd2 : 2 ≤ d := by omega
          have hd3 : 3 ≤ d := by omega
          rw [ez] at hQ
          refine b22_0 ?_
          simp only [↓rF_I, ↓rF_L, ↓rF_R, ↓rF_N, rO_m, rB_m, ↓rI_m, wI_m, ↓rB2_m, ↓rB3_m, wB2_m, wB3_m, ↓rL_m, wL_m, ↓rQ_m, wQ_m, ↓lI_m, pI_m, pL_m, pR_m, sI_m, sBy_m, sBo_m, sL_m, sQ_m, fst_m, true_and, and_true, tg_some, ln_some, uI_1, uI_2, uL_1, uL_2, uL_3, uQ_1, uQ_2, uQ_3, rv_i, rv_l, rv_n, rv_b0, rv_b1, RMR, ne_eq, reduceCtorEq, not_false_eq_true, Option.getD_some, if_true, if_false, and_self, false_and, and_false, Nat.add_left_cancel_iff, Nat.add_eq_left, Nat.left_eq_add, Nat.one_ne_zero, Nat.reduceAdd, Nat.reduceLT, Nat.reduceLeDiff, Nat.reduceEqDiff, true_implies, false_implies, implies_true, Option.some.injEq, forall_eq', forall_eq, reduceCtorEq, brT, brF, br_s, i_10, i_01, ib_0_2, ib_1_2, tn_0, tn_1, Int32.le_refl, eq_self, rv_bN, rv_iM, RCS r, hR', eb, en, ew, l1, on_succ, l2, e2 hd3, ezw]
          exact hQ
      · have zw : ¬ frP τ (way1 ρ m) m p g := fun q => z ((frP_w hm).mp q)
        have ezw : iB (frP τ (way1 ρ m) m p g) = 0 := iB_f zw
        refine ⟨σ2, frR_tr fr1 f2, ?_, fun hD => cI_of (m := 3) (fun d hd Q hQ => ?_) rfl hD⟩
        · unfold sTr
          rw [if_neg (fun q => z q.2)]
          unfold sMv at t2
          rw [if_neg zw] at t2
          exact t2
        · have hd1 : 1 ≤ d := by omega
          have hd2 : 2 ≤ d := by omega
          have hd3 : 3 ≤ d := by omega
          rw [ez] at hQ
          refine b22_0 ?_
          simp only [↓rF_I, ↓rF_L, ↓rF_R, ↓rF_N, rO_m, rB_m, ↓rI_m, wI_m, ↓rB2_m, ↓rB3_m, wB2_m, wB3_m, ↓rL_m, wL_m, ↓rQ_m, wQ_m, ↓lI_m, pI_m, pL_m, pR_m, sI_m, sBy_m, sBo_m, sL_m, sQ_m, fst_m, true_and, and_true, tg_some, ln_some, uI_1, uI_2, uL_1, uL_2, uL_3, uQ_1, uQ_2, uQ_3, rv_i, rv_l, rv_n, rv_b0, rv_b1, RMR, ne_eq, reduceCtorEq, not_false_eq_true, Option.getD_some, if_true, if_false, and_self, false_and, and_false, Nat.add_left_cancel_iff, Nat.add_eq_left, Nat.left_eq_add, Nat.one_ne_zero, Nat.reduceAdd, Nat.reduceLT, Nat.reduceLeDiff, Nat.reduceEqDiff, true_implies, false_implies, implies_true, Option.some.injEq, forall_eq', forall_eq, reduceCtorEq, brT, brF, br_s, i_10, i_01, ib_0_2, ib_1_2, tn_0, tn_1, Int32.le_refl, eq_self, rv_bN, rv_iM, RCS r, hR', eb, en, ew, l1, on_succ, l2, e2 hd3, ezw]
          refine b22_65 ?_
          simp only [↓rF_I, ↓rF_L, ↓rF_R, ↓rF_N, rO_m, rB_m, ↓rI_m, wI_m, ↓rB2_m, ↓rB3_m, wB2_m, wB3_m, ↓rL_m, wL_m, ↓rQ_m, wQ_m, ↓lI_m, pI_m, pL_m, pR_m, sI_m, sBy_m, sBo_m, sL_m, sQ_m, fst_m, true_and, and_true, tg_some, ln_some, uI_1, uI_2, uL_1, uL_2, uL_3, uQ_1, uQ_2, uQ_3, rv_i, rv_l, rv_n, rv_b0, rv_b1, RMR, ne_eq, reduceCtorEq, not_false_eq_true, Option.getD_some, if_true, if_false, and_self, false_and, and_false, Nat.add_left_cancel_iff, Nat.add_eq_left, Nat.left_eq_add, Nat.one_ne_zero, Nat.reduceAdd, Nat.reduceLT, Nat.reduceLeDiff, Nat.reduceEqDiff, true_implies, false_implies, implies_true, Option.some.injEq, forall_eq', forall_eq, reduceCtorEq, brT, brF, br_s, i_10, i_01, ib_0_2, ib_1_2, tn_0, tn_1, Int32.le_refl, eq_self, rv_bN, rv_iM]
          exact hQ
  · have w1 : way1 ρ m = ρ := if_neg a
    have l1 : (Int32.ofNat (ρ (6 + m)) < (10 : Int32)) ↔ False := iff_false_intro (fun q => a ((i10_lt (by omega)).mp q))
    obtain ⟨σ2, f2, t2, e2⟩ := g_23 (p := p) (c := g) hR hT hρ hτ hv h hm (by omega) (by omega)
    by_cases z : frP τ ρ m p g
    · have ezw : iB (frP τ ρ m p g) = 1 := iB_t z
      have ar : arrP τ ρ m p g := ⟨by rw [w1]; exact a, z⟩
      have ez : iB (¬ (¬ ρ (6 + m) < 10 ∧ ¬ frP τ ρ m p g)) = 1 := iB_t (fun q => q.2 z)
      refine ⟨uI σ2 (r + 10) m 0, frR_tr f2 (frR_I (by omega)), ?_, fun hD => cI_of (m := 3) (fun d hd Q hQ => ?_) rfl hD⟩
      · unfold sTr
        rw [if_pos ar, w1]
        unfold sMv at t2
        rw [if_pos z] at t2
        exact tSt_w t2 (vRow_b hv (vRow_go hv h hm hp hg)) (by unfold in0; omega) (lA_wy hm) (tv_0 (by unfold isSh; omega)).symm (by omega)
      · have hd1 : 1 ≤ d := by omega
        have hd2 : 2 ≤ d := by omega
        have hd3 : 3 ≤ d := by omega
        rw [ez] at hQ
        refine b22_0 ?_
        simp only [↓rF_I, ↓rF_L, ↓rF_R, ↓rF_N, rO_m, rB_m, ↓rI_m, wI_m, ↓rB2_m, ↓rB3_m, wB2_m, wB3_m, ↓rL_m, wL_m, ↓rQ_m, wQ_m, ↓lI_m, pI_m, pL_m, pR_m, sI_m, sBy_m, sBo_m, sL_m, sQ_m, fst_m, true_and, and_true, tg_some, ln_some, uI_1, uI_2, uL_1, uL_2, uL_3, uQ_1, uQ_2, uQ_3, rv_i, rv_l, rv_n, rv_b0, rv_b1, RMR, ne_eq, reduceCtorEq, not_false_eq_true, Option.getD_some, if_true, if_false, and_self, false_and, and_false, Nat.add_left_cancel_iff, Nat.add_eq_left, Nat.left_eq_add, Nat.one_ne_zero, Nat.reduceAdd, Nat.reduceLT, Nat.reduceLeDiff, Nat.reduceEqDiff, true_implies, false_implies, implies_true, Option.some.injEq, forall_eq', forall_eq, reduceCtorEq, brT, brF, br_s, i_10, i_01, ib_0_2, ib_1_2, tn_0, tn_1, Int32.le_refl, eq_self, rv_bN, rv_iM, RCS r, hR', eb, en, ew, l1, on_succ, e2 hd3, ezw]
        exact hQ
    · have ezw : iB (frP τ ρ m p g) = 0 := iB_f z
      have ez : iB (¬ (¬ ρ (6 + m) < 10 ∧ ¬ frP τ ρ m p g)) = 0 := iB_f (fun q => q ⟨a, z⟩)
      refine ⟨σ2, f2, ?_, fun hD => cI_of (m := 3) (fun d hd Q hQ => ?_) rfl hD⟩
      · unfold sTr
        rw [if_neg (fun q => z q.2), w1]
        unfold sMv at t2
        rw [if_neg z] at t2
        exact t2
      · have hd1 : 1 ≤ d := by omega
        have hd2 : 2 ≤ d := by omega
        have hd3 : 3 ≤ d := by omega
        rw [ez] at hQ
        refine b22_0 ?_
        simp only [↓rF_I, ↓rF_L, ↓rF_R, ↓rF_N, rO_m, rB_m, ↓rI_m, wI_m, ↓rB2_m, ↓rB3_m, wB2_m, wB3_m, ↓rL_m, wL_m, ↓rQ_m, wQ_m, ↓lI_m, pI_m, pL_m, pR_m, sI_m, sBy_m, sBo_m, sL_m, sQ_m, fst_m, true_and, and_true, tg_some, ln_some, uI_1, uI_2, uL_1, uL_2, uL_3, uQ_1, uQ_2, uQ_3, rv_i, rv_l, rv_n, rv_b0, rv_b1, RMR, ne_eq, reduceCtorEq, not_false_eq_true, Option.getD_some, if_true, if_false, and_self, false_and, and_false, Nat.add_left_cancel_iff, Nat.add_eq_left, Nat.left_eq_add, Nat.one_ne_zero, Nat.reduceAdd, Nat.reduceLT, Nat.reduceLeDiff, Nat.reduceEqDiff, true_implies, false_implies, implies_true, Option.some.injEq, forall_eq', forall_eq, reduceCtorEq, brT, brF, br_s, i_10, i_01, ib_0_2, ib_1_2, tn_0, tn_1, Int32.le_refl, eq_self, rv_bN, rv_iM, RCS r, hR', eb, en, ew, l1, on_succ, e2 hd3, ezw]
        refine b22_65 ?_
        simp only [↓rF_I, ↓rF_L, ↓rF_R, ↓rF_N, rO_m, rB_m, ↓rI_m, wI_m, ↓rB2_m, ↓rB3_m, wB2_m, wB3_m, ↓rL_m, wL_m, ↓rQ_m, wQ_m, ↓lI_m, pI_m, pL_m, pR_m, sI_m, sBy_m, sBo_m, sL_m, sQ_m, fst_m, true_and, and_true, tg_some, ln_some, uI_1, uI_2, uL_1, uL_2, uL_3, uQ_1, uQ_2, uQ_3, rv_i, rv_l, rv_n, rv_b0, rv_b1, RMR, ne_eq, reduceCtorEq, not_false_eq_true, Option.getD_some, if_true, if_false, and_self, false_and, and_false, Nat.add_left_cancel_iff, Nat.add_eq_left, Nat.left_eq_add, Nat.one_ne_zero, Nat.reduceAdd, Nat.reduceLT, Nat.reduceLeDiff, Nat.reduceEqDiff, true_implies, false_implies, implies_true, Option.some.injEq, forall_eq', forall_eq, reduceCtorEq, brT, brF, br_s, i_10, i_01, ib_0_2, ib_1_2, tn_0, tn_1, Int32.le_refl, eq_self, rv_bN, rv_iM]
        exact hQ
end
section
/-- an order ends -/
theorem eo_1 {w : mT} {σ : mS} {r : Nat} {τ ρ : Rw} (hR : isS w r) (hρ : tSt σ r τ ρ) (hb : bRow τ ρ) (hn : 0 < ρ 11) : ∃ σ', frR r (r + 14) σ σ' ∧ tSt σ' r τ (sE1 ρ) ∧ ∀ {D : Nat} {K : Hp → Prop}, 2 ≤ D → (wpV D 67 [.ref r, .int (1 : Int32)] (mW w σ) K ↔ K (mW w σ')) :=
  ⟨_, frR_tr (frR_tr (frR_I (by omega)) (frR_G (by omega))) (frR_I (by omega)), sE1_st hρ hb hn rfl, fun hD => g_67 (m := 1) hR (by omega) (tS_or hρ (by omega : 1 < 2)) ⟨hn, hb.2.2.2.1⟩ hD⟩
theorem eo_0 {w : mT} {σ : mS} {r : Nat} {τ ρ : Rw} (hR : isS w r) (hρ : tSt σ r τ ρ) (hb : bRow τ ρ) (hn : 0 < ρ 10) : ∃ σ', frR r (r + 14) σ σ' ∧ tSt σ' r τ (sE0 ρ) ∧ ∀ {D : Nat} {K : Hp → Prop}, 2 ≤ D → (wpV D 67 [.ref r, .int (0 : Int32)] (mW w σ) K ↔ K (mW w σ')) :=
  ⟨_, frR_tr (frR_tr (frR_I (by omega)) (frR_G (by omega))) (frR_I (by omega)), sE0_st hρ hb hn rfl, fun hD => g_67 (m := 0) hR (by omega) (tS_or hρ (by omega : 0 < 2)) ⟨hn, hb.2.2.1⟩ hD⟩
theorem g_24 {w : mT} {σ : mS} {r t p g : Nat} {τ ρ : Rw} (hR : isS w r) (hT : isT w t) (hρ : tSt σ r τ ρ) (hτ : tTold σ t τ) (hv : vTold τ) (h : vRow τ ρ) (hn : 0 < ρ 11) (hp : p < τ 1) (hg : g < τ (28 + p)) : ∃ σ', frR r (r + 14) σ σ' ∧ tSt σ' r τ (sCut τ ρ p g) ∧ ∀ {D : Nat} {K : Hp → Prop}, 4 ≤ D → (wpV D 24 [.ref t, .ref r, .int (Int32.ofNat p), .int (Int32.ofNat g)] (mW w σ) K ↔ K (mW w σ')) := by
  have hR' := hR
  simp only [isS] at hR'
  have v1 := hv.2.1
  have v2 := (hv.2.2.2.2.2.1 p hp).2
  have v3 := hv.2.2.1
  have hs : ρ 109 < τ 2 := (vR_o1 h 0 hn).2.2
  have o1 := (tS_o1 hρ hn).2.1
  have i49 : (1 : Int32) * 8 * 6 + 1 = Int32.ofNat 49 := by decide
  have eb : inB (Int32.ofNat 49) 96 = true := on_inB (by omega) (by omega)
  have en := on_nat (i := 49) (by omega)
  by_cases z : tkP τ ρ (ρ 109)
  · have ez : iB (tkP τ ρ (ρ 109)) = 1 := iB_t z
    obtain ⟨σ1, f1, t1, e1⟩ := g_63 (c := g) hR hT hρ hτ hv h (by omega : p < 3) (by omega) hs
    have e11 : sMove τ ρ p g (ρ 109) 11 = ρ 11 := sMove_g (by omega) (by omega) (by omega)
    obtain ⟨σ2, f2, t2, e2⟩ := eo_1 hR t1 (vRow_b hv (vRow_move hv h (by omega) (by omega) hs)) (by rw [e11]; exact hn)
    refine ⟨σ2, frR_tr f1 f2, by unfold sCut; rw [if_pos z]; exact t2, fun hD => cV_of (m := 3) (fun d hd Q hQ => ?_) rfl hD⟩
    have hd1 : 1 ≤ d := by omega
    have hd2 : 2 ≤ d := by omega
    have hd3 : 3 ≤ d := by omega
    refine b24_0 ?_
    simp only [↓rF_I, ↓rF_L, ↓rF_R, ↓rF_N, rO_m, rB_m, ↓rI_m, wI_m, ↓rB2_m, ↓rB3_m, wB2_m, wB3_m, ↓rL_m, wL_m, ↓rQ_m, wQ_m, ↓lI_m, pI_m, pL_m, pR_m, sI_m, sBy_m, sBo_m, sL_m, sQ_m, fst_m, true_and, and_true, tg_some, ln_some, uI_1, uI_2, uL_1, uL_2, uL_3, uQ_1, uQ_2, uQ_3, rv_i, rv_l, rv_n, rv_b0, rv_b1, RMR, ne_eq, reduceCtorEq, not_false_eq_true, Option.getD_some, if_true, if_false, and_self, false_and, and_false, Nat.add_left_cancel_iff, Nat.add_eq_left, Nat.left_eq_add, Nat.one_ne_zero, Nat.reduceAdd, Nat.reduceLT, Nat.reduceLeDiff, Nat.reduceEqDiff, true_implies, false_implies, implies_true, Option.some.injEq, forall_eq', forall_eq, reduceCtorEq, brT, brF, br_s, i_10, i_01, ib_0_2, ib_1_2, tn_0, tn_1, Int32.le_refl, eq_self, rv_bN, rv_iM, RCS r, hR', g_65 hd1, i49, eb, en, o1, g_62 hR hT hρ hτ hv h hs hd1, ez, e1 hd3, e2 hd2]
    exact hQ
  · have ez : iB (tkP τ ρ (ρ 109)) = 0 := iB_f z
    obtain ⟨σ2, f2, t2, e2⟩ := eo_1 hR hρ (vRow_b hv h) hn
    refine ⟨σ2, f2, by unfold sCut; rw [if_neg z]; exact t2, fun hD => cV_of (m := 3) (fun d hd Q hQ => ?_) rfl hD⟩
    have hd1 : 1 ≤ d := by omega
    have hd2 : 2 ≤ d := by omega
    have hd3 : 3 ≤ d := by omega
    refine b24_0 ?_
    simp only [↓rF_I, ↓rF_L, ↓rF_R, ↓rF_N, rO_m, rB_m, ↓rI_m, wI_m, ↓rB2_m, ↓rB3_m, wB2_m, wB3_m, ↓rL_m, wL_m, ↓rQ_m, wQ_m, ↓lI_m, pI_m, pL_m, pR_m, sI_m, sBy_m, sBo_m, sL_m, sQ_m, fst_m, true_and, and_true, tg_some, ln_some, uI_1, uI_2, uL_1, uL_2, uL_3, uQ_1, uQ_2, uQ_3, rv_i, rv_l, rv_n, rv_b0, rv_b1, RMR, ne_eq, reduceCtorEq, not_false_eq_true, Option.getD_some, if_true, if_false, and_self, false_and, and_false, Nat.add_left_cancel_iff, Nat.add_eq_left, Nat.left_eq_add, Nat.one_ne_zero, Nat.reduceAdd, Nat.reduceLT, Nat.reduceLeDiff, Nat.reduceEqDiff, true_implies, false_implies, implies_true, Option.some.injEq, forall_eq', forall_eq, reduceCtorEq, brT, brF, br_s, i_10, i_01, ib_0_2, ib_1_2, tn_0, tn_1, Int32.le_refl, eq_self, rv_bN, rv_iM, RCS r, hR', g_65 hd1, i49, eb, en, o1, g_62 hR hT hρ hτ hv h hs hd1, ez, e2 hd2]
    exact hQ
/-- the stacker goes on to the next cell of its order -/
theorem w_153 {w : mT} {σ : mS} {r t p g x : Nat} {τ ρ : Rw} (hR : isS w r) (hT : isT w t) (hd : t + 10 ≤ r ∨ r + 14 ≤ t) (hρ : tSt σ r τ ρ) (hτ : tTold σ t τ) (hv : vTold τ) (h : vRow τ ρ) (hp : p = ρ 51) (hp1 : p < τ 1) (hx : x < τ (28 + p)) : ∃ σ', frR r (r + 14) σ σ' ∧ tSt σ' r τ (sMv τ (rSet ρ 56 x) 0 p x) ∧ ∀ {d : Nat} {l la a7 a8 : Int32} {Q : Option (Option Value) → Hp → Prop}, 3 ≤ d → Q (some none) (mW w σ') → Wp 25 153 [.ref t, .ref r, .int (Int32.ofNat p), .int (Int32.ofNat g), .int ((0 : Int32) * 8 * 6), .int l, .int la, .int a7, .int a8, .int (Int32.ofNat x)] [] (mW w σ) Q d := by
  have hR' := hR
  simp only [isS] at hR'
  have v1 := hv.2.1
  have v2 := (hv.2.2.2.2.2.1 p hp1).2
  have fr1 : frR r (r + 14) σ (uI σ (r + 13) 2 (Int32.ofNat x)) := frR_I (by omega)
  have ts1 : tSt (uI σ (r + 13) 2 (Int32.ofNat x)) r τ (rSet ρ 56 x) := tSt_w hρ (vRow_b hv h) (by unfold in0; omega) (by decide) (tv_0 (by decide)).symm (by omega)
  obtain ⟨σ2, f2, t2, e2⟩ := g_23 (m := 0) (p := p) (c := x) hR hT ts1 (tTold_R hτ fr1 (by omega)) hv (vRow_go0 hv h (by rw [← hp]; exact hx)) (by omega) (by omega) (by omega)
  refine ⟨σ2, frR_tr fr1 f2, t2, fun hd3 hQ => ?_⟩
  have i2 : (0 : Int32) * 8 * 6 + 2 = Int32.ofNat 2 := by decide
  have eb : inB (Int32.ofNat 2) 96 = true := on_inB (by omega) (by omega)
  have en := on_nat (i := 2) (by omega)
  have e2' : ∀ {K : Int32 → Hp → Prop}, wpI _ 23 [.ref t, .ref r, .int (0 : Int32), .int (Int32.ofNat p), .int (Int32.ofNat x)] (mW w (uI σ (r + 13) 2 (Int32.ofNat x))) K ↔ K (iB (frP τ (rSet ρ 56 x) 0 p x)) (mW w σ2) := fun {K} => e2 hd3
  refine b25_153 ?_
  simp only [↓rF_I, ↓rF_L, ↓rF_R, ↓rF_N, rO_m, rB_m, ↓rI_m, wI_m, ↓rB2_m, ↓rB3_m, wB2_m, wB3_m, ↓rL_m, wL_m, ↓rQ_m, wQ_m, ↓lI_m, pI_m, pL_m, pR_m, sI_m, sBy_m, sBo_m, sL_m, sQ_m, fst_m, true_and, and_true, tg_some, ln_some, uI_1, uI_2, uL_1, uL_2, uL_3, uQ_1, uQ_2, uQ_3, rv_i, rv_l, rv_n, rv_b0, rv_b1, RMR, ne_eq, reduceCtorEq, not_false_eq_true, Option.getD_some, if_true, if_false, and_self, false_and, and_false, Nat.add_left_cancel_iff, Nat.add_eq_left, Nat.left_eq_add, Nat.one_ne_zero, Nat.reduceAdd, Nat.reduceLT, Nat.reduceLeDiff, Nat.reduceEqDiff, true_implies, false_implies, implies_true, Option.some.injEq, forall_eq', forall_eq, reduceCtorEq, brT, brF, br_s, i_10, i_01, ib_0_2, ib_1_2, tn_0, tn_1, Int32.le_refl, eq_self, rv_bN, rv_iM, RCS r, hR', i2, eb, en, e2']
  exact hQ
theorem tl_25 {w : mT} {σ : mS} {r t p g : Nat} {τ ρ : Rw} (hR : isS w r) (hT : isT w t) (hd : t + 10 ≤ r ∨ r + 14 ≤ t) (hρ : tSt σ r τ ρ) (hτ : tTold σ t τ) (hv : vTold τ) (h : vRow τ ρ) (hn : 0 < ρ 10) (hp : p = ρ 51) (hg : g < τ (28 + p)) : ∃ σ', frR r (r + 14) σ σ' ∧ tSt σ' r τ (sAft τ ρ p g) ∧
    ((g = ρ 54 ∧ ∀ {D : Nat} {K : Hp → Prop}, 2 ≤ D → (wpV D 67 [.ref r, .int (0 : Int32)] (mW w σ) K ↔ K (mW w σ'))) ∨
     (g < ρ 54 ∧ ∀ {d : Nat} {l la a7 a8 : Int32} {Q : Option (Option Value) → Hp → Prop}, 3 ≤ d → Q (some none) (mW w σ') → Wp 25 153 [.ref t, .ref r, .int (Int32.ofNat p), .int (Int32.ofNat g), .int ((0 : Int32) * 8 * 6), .int l, .int la, .int a7, .int a8, .int (Int32.ofNat (g + 1))] [] (mW w σ) Q d) ∨
     (ρ 54 < g ∧ ∀ {d : Nat} {l la a7 a8 : Int32} {Q : Option (Option Value) → Hp → Prop}, 3 ≤ d → Q (some none) (mW w σ') → Wp 25 153 [.ref t, .ref r, .int (Int32.ofNat p), .int (Int32.ofNat g), .int ((0 : Int32) * 8 * 6), .int l, .int la, .int a7, .int a8, .int (Int32.ofNat (g - 1))] [] (mW w σ) Q d)) := by
  have o := vR_o0 h 0 hn
  have o0 : ρ 51 < τ 1 := o.1
  have o2 : ρ 54 < τ (28 + ρ 51) := o.2.2.1
  rw [← hp] at o0 o2
  by_cases e : g = ρ 54
  · obtain ⟨σ2, f2, t2, e2⟩ := eo_0 hR hρ (vRow_b hv h) hn
    exact ⟨σ2, f2, by unfold sAft; rw [if_pos e]; exact t2, Or.inl ⟨e, e2⟩⟩
  · by_cases l : g < ρ 54
    · have en : nx g (ρ 54) = g + 1 := if_pos l
      obtain ⟨σ2, f2, t2, e2⟩ := w_153 (g := g) (x := g + 1) hR hT hd hρ hτ hv h hp o0 (by omega)
      exact ⟨σ2, f2, by unfold sAft; rw [if_neg e, en]; exact t2, Or.inr (Or.inl ⟨l, e2⟩)⟩
    · have en : nx g (ρ 54) = g - 1 := if_neg l
      obtain ⟨σ2, f2, t2, e2⟩ := w_153 (g := g) (x := g - 1) hR hT hd hρ hτ hv h hp o0 (by omega)
      exact ⟨σ2, f2, by unfold sAft; rw [if_neg e, en]; exact t2, Or.inr (Or.inr ⟨by omega, e2⟩)⟩
theorem min_of {a b : Nat} (ha : a < 2147483648) (hb : b < 2147483648) : (if Int32.ofNat a < Int32.ofNat b then Int32.ofNat a else Int32.ofNat b) = Int32.ofNat (min b a) := by
  by_cases h : a < b
  · rw [if_pos ((on_lt ha hb).mpr h)]; congr 1; omega
  · rw [if_neg (fun q => h ((on_lt ha hb).mp q))]; congr 1; omega
end
section
theorem g_25 {w : mT} {σ : mS} {r t p g : Nat} {τ ρ : Rw} (hR : isS w r) (hT : isT w t) (hd : t + 10 ≤ r ∨ r + 14 ≤ t) (hρ : tSt σ r τ ρ) (hτ : tTold σ t τ) (hv : vTold τ) (h : vRow τ ρ) (hn : 0 < ρ 10) (hp : p = ρ 51) (hg : g < τ (28 + p)) : ∃ σ', frR r (r + 14) σ σ' ∧ tSt σ' r τ (sLay τ ρ p g) ∧ ∀ {D : Nat} {K : Hp → Prop}, 4 ≤ D → (wpV D 25 [.ref t, .ref r, .int (Int32.ofNat p), .int (Int32.ofNat g)] (mW w σ) K ↔ K (mW w σ')) := by
  have hR' := hR
  simp only [isS] at hR'
  have o := vR_o0 h 0 hn
  have o0 : ρ 51 < τ 1 := o.1
  have oL : ρ 52 < τ 0 := o.2.1
  have oE : ρ 54 < τ (28 + ρ 51) := o.2.2.1
  have oT : 1 ≤ ρ 55 ∧ ρ 55 ≤ 99 := o.2.2.2.2.1
  have v0 := hv.1
  have v1 := hv.2.1
  have v2 := (hv.2.2.2.2.2.1 p (by omega)).2
  have hp3 : p < 3 := by omega
  rw [← hp] at oE
  obtain ⟨oo0, o1, oo2, o3, o4, o5⟩ := tS_o0 hρ hn
  have i1 : (0 : Int32) * 8 * 6 + 1 = Int32.ofNat 1 := by decide
  have i3 : (0 : Int32) * 8 * 6 + 3 = Int32.ofNat 3 := by decide
  have i4 : (0 : Int32) * 8 * 6 + 4 = Int32.ofNat 4 := by decide
  have i5 : (0 : Int32) * 8 * 6 + 5 = Int32.ofNat 5 := by decide
  have eb1 : inB (Int32.ofNat 1) 96 = true := by decide
  have eb3 : inB (Int32.ofNat 3) 96 = true := by decide
  have eb4 : inB (Int32.ofNat 4) 96 = true := by decide
  have eb5 : inB (Int32.ofNat 5) 96 = true := by decide
  have en1 := on_nat (i := 1) (by omega)
  have en3 := on_nat (i := 3) (by omega)
  have en4 := on_nat (i := 4) (by omega)
  have en5 := on_nat (i := 5) (by omega)
  have ebl : inB (Int32.ofNat (ρ 52)) 12 = true := on_inB (by omega) (by omega)
  have enl := on_nat (i := ρ 52) (by omega)
  have elf := tS_lf hρ oL
  have hlf := left_lt h oL
  have emn := min_of (a := ρ (12 + ρ 52)) (b := ρ 55) (by omega) (by omega)
  have ebp : inB (Int32.ofNat p) 3 = true := on_inB hp3 (by omega)
  have enp := on_nat (i := p) (by omega)
  have ela := tS_la hρ hp3
  have hla := vR_la h p hp3
  have hvO := o.2.2.2.2.2
  have hvO' : ρ 57 = 0 ∨ (ρ 57 ≤ ρ (24 + ρ 51) ∧ ρ (lo (ρ 51) (ρ 57 - 1)) = ρ 52) := hvO
  by_cases a : ρ (12 + ρ 52) = 0
  · obtain ⟨σ2, f2, t2, e2⟩ := eo_0 hR hρ (vRow_b hv h) hn
    refine ⟨σ2, f2, by unfold sLay; rw [if_pos (Or.inl a)]; exact t2, fun hD => cV_of (m := 3) (fun d hd Q hQ => ?_) rfl hD⟩
    have hd1 : 1 ≤ d := by omega
    have hd2 : 2 ≤ d := by omega
    have hd3 : 3 ≤ d := by omega
    have z : (Int32.ofNat (min (ρ 55) (ρ (12 + ρ 52))) = 0) ↔ True := iff_true_intro ((of_eq0 (by omega)).mpr (by omega))
    refine b25_0 ?_
    simp only [↓br_pos, ↓br_neg, ↓rF_I, ↓rF_L, ↓rF_R, ↓rF_N, rO_m, rB_m, ↓rI_m, wI_m, ↓rB2_m, ↓rB3_m, wB2_m, wB3_m, ↓rL_m, wL_m, ↓rQ_m, wQ_m, ↓lI_m, pI_m, pL_m, pR_m, sI_m, sBy_m, sBo_m, sL_m, sQ_m, fst_m, true_and, and_true, tg_some, ln_some, uI_1, uI_2, uL_1, uL_2, uL_3, uQ_1, uQ_2, uQ_3, rv_i, rv_l, rv_n, rv_b0, rv_b1, RMR, ne_eq, reduceCtorEq, not_false_eq_true, Option.getD_some, if_true, if_false, and_self, false_and, and_false, Nat.add_left_cancel_iff, Nat.add_eq_left, Nat.left_eq_add, Nat.one_ne_zero, Nat.reduceAdd, Nat.reduceLT, Nat.reduceLeDiff, Nat.reduceEqDiff, true_implies, false_implies, implies_true, Option.some.injEq, forall_eq', forall_eq, reduceCtorEq, brT, brF, br_s, i_10, i_01, ib_0_2, ib_1_2, tn_0, tn_1, Int32.le_refl, eq_self, rv_bN, rv_iM, RCS r, hR', g_65 hd1, i1, i3, i4, i5, eb1, eb3, eb4, eb5, en1, en3, en4, en5, o1, o3, o4, o5, ebl, enl, elf, emn, ebp, enp, ela]
    refine b25_28 ?_
    simp only [↓br_pos, ↓br_neg, ↓rF_I, ↓rF_L, ↓rF_R, ↓rF_N, rO_m, rB_m, ↓rI_m, wI_m, ↓rB2_m, ↓rB3_m, wB2_m, wB3_m, ↓rL_m, wL_m, ↓rQ_m, wQ_m, ↓lI_m, pI_m, pL_m, pR_m, sI_m, sBy_m, sBo_m, sL_m, sQ_m, fst_m, true_and, and_true, tg_some, ln_some, uI_1, uI_2, uL_1, uL_2, uL_3, uQ_1, uQ_2, uQ_3, rv_i, rv_l, rv_n, rv_b0, rv_b1, RMR, ne_eq, reduceCtorEq, not_false_eq_true, Option.getD_some, if_true, if_false, and_self, false_and, and_false, Nat.add_left_cancel_iff, Nat.add_eq_left, Nat.left_eq_add, Nat.one_ne_zero, Nat.reduceAdd, Nat.reduceLT, Nat.reduceLeDiff, Nat.reduceEqDiff, true_implies, false_implies, implies_true, Option.some.injEq, forall_eq', forall_eq, reduceCtorEq, brT, brF, br_s, i_10, i_01, ib_0_2, ib_1_2, tn_0, tn_1, Int32.le_refl, eq_self, rv_bN, rv_iM, RCS r, hR', g_65 hd1, i1, i3, i4, i5, eb1, eb3, eb4, eb5, en1, en3, en4, en5, o1, o3, o4, o5, ebl, enl, elf, emn, ebp, enp, ela, z, e2 hd2]
    exact hQ
  have z : (Int32.ofNat (min (ρ 55) (ρ (12 + ρ 52))) = 0) ↔ False := iff_false_intro (fun q => absurd ((of_eq0 (by omega)).mp q) (by omega))
  by_cases b : ρ 57 = 0
  · have o5' : σ.1 (r + 13) 5 = -1 := by rw [o5, b]; decide
    by_cases c : 60 ≤ ρ (24 + p)
    · obtain ⟨σ2, f2, t2, e2⟩ := eo_0 hR hρ (vRow_b hv h) hn
      refine ⟨σ2, f2, by unfold sLay; rw [if_pos (Or.inr ⟨b, c⟩)]; exact t2, fun hD => cV_of (m := 3) (fun d hd Q hQ => ?_) rfl hD⟩
      have hd1 : 1 ≤ d := by omega
      have hd2 : 2 ≤ d := by omega
      have hd3 : 3 ≤ d := by omega
      have l6 : (Int32.ofNat (ρ (24 + p)) < (60 : Int32)) ↔ False := iff_false_intro (fun q => absurd ((on_lt (j := 60) (by omega) (by omega)).mp q) (by omega))
      refine b25_0 ?_
      simp only [↓br_pos, ↓br_neg, ↓rF_I, ↓rF_L, ↓rF_R, ↓rF_N, rO_m, rB_m, ↓rI_m, wI_m, ↓rB2_m, ↓rB3_m, wB2_m, wB3_m, ↓rL_m, wL_m, ↓rQ_m, wQ_m, ↓lI_m, pI_m, pL_m, pR_m, sI_m, sBy_m, sBo_m, sL_m, sQ_m, fst_m, true_and, and_true, tg_some, ln_some, uI_1, uI_2, uL_1, uL_2, uL_3, uQ_1, uQ_2, uQ_3, rv_i, rv_l, rv_n, rv_b0, rv_b1, RMR, ne_eq, reduceCtorEq, not_false_eq_true, Option.getD_some, if_true, if_false, and_self, false_and, and_false, Nat.add_left_cancel_iff, Nat.add_eq_left, Nat.left_eq_add, Nat.one_ne_zero, Nat.reduceAdd, Nat.reduceLT, Nat.reduceLeDiff, Nat.reduceEqDiff, true_implies, false_implies, implies_true, Option.some.injEq, forall_eq', forall_eq, reduceCtorEq, brT, brF, br_s, i_10, i_01, ib_0_2, ib_1_2, tn_0, tn_1, Int32.le_refl, eq_self, rv_bN, rv_iM, RCS r, hR', g_65 hd1, i1, i3, i4, i5, eb1, eb3, eb4, eb5, en1, en3, en4, en5, o1, o3, o4, o5', ebl, enl, elf, emn, ebp, enp, ela]
      refine b25_28 ?_
      simp only [↓br_pos, ↓br_neg, ↓rF_I, ↓rF_L, ↓rF_R, ↓rF_N, rO_m, rB_m, ↓rI_m, wI_m, ↓rB2_m, ↓rB3_m, wB2_m, wB3_m, ↓rL_m, wL_m, ↓rQ_m, wQ_m, ↓lI_m, pI_m, pL_m, pR_m, sI_m, sBy_m, sBo_m, sL_m, sQ_m, fst_m, true_and, and_true, tg_some, ln_some, uI_1, uI_2, uL_1, uL_2, uL_3, uQ_1, uQ_2, uQ_3, rv_i, rv_l, rv_n, rv_b0, rv_b1, RMR, ne_eq, reduceCtorEq, not_false_eq_true, Option.getD_some, if_true, if_false, and_self, false_and, and_false, Nat.add_left_cancel_iff, Nat.add_eq_left, Nat.left_eq_add, Nat.one_ne_zero, Nat.reduceAdd, Nat.reduceLT, Nat.reduceLeDiff, Nat.reduceEqDiff, true_implies, false_implies, implies_true, Option.some.injEq, forall_eq', forall_eq, reduceCtorEq, brT, brF, br_s, i_10, i_01, ib_0_2, ib_1_2, tn_0, tn_1, Int32.le_refl, eq_self, rv_bN, rv_iM, RCS r, hR', g_65 hd1, i1, i3, i4, i5, eb1, eb3, eb4, eb5, en1, en3, en4, en5, o1, o3, o4, o5', ebl, enl, elf, emn, ebp, enp, ela, z, l6, e2 hd2]
      exact hQ
    · obtain ⟨pa, pb, pc⟩ := pour_new hv h hn hp hg (by omega)
      obtain ⟨σ1, f1, t1, e1⟩ := g_60 (l := ρ 52) hR hρ hv h hp3 (by omega)
      have hA := vRow_add hv h hp3 oL (by omega : ρ (24 + p) < 60)
      have hN := vRow_new hv h hn hp (by omega)
      have ts1 : tSt (uI σ1 (r + 13) 5 (Int32.ofNat (ρ (24 + p)))) r τ (sNew ρ p) := tSt_w t1 (vRow_b hv hA) (by unfold in0; omega) (by decide) (by rw [tv_1 (by decide), st_m1 (by omega)]; rfl) (by omega)
      have fr1 : frR r (r + 14) σ1 (uI σ1 (r + 13) 5 (Int32.ofNat (ρ (24 + p)))) := frR_I (by omega)
      obtain ⟨σ2, f2, t2, e2⟩ := g_61 (c := g) (t := min (ρ 55) (ρ (12 + ρ 52))) hR ts1 hv hN hp3 pa (by omega) pb
      have hP := vRow_pour hv hN hp3 pa (by omega : g < 12) pb
      have e54 := (pc (min (ρ 55) (ρ (12 + ρ 52)))).2.2
      obtain ⟨σ3, f3, t3, tl⟩ := tl_25 (g := g) hR hT hd t2 (tTold_R (tTold_R (tTold_R hτ f1 (by omega)) fr1 (by omega)) f2 (by omega)) hv hP (by rw [(pc _).1]; exact hn) (by rw [(pc _).2.1]; exact hp) hg
      refine ⟨σ3, frR_tr f1 (frR_tr fr1 (frR_tr f2 f3)), by unfold sLay; rw [if_neg (fun q => q.elim a (fun q => c q.2)), if_pos b]; exact t3, fun hD => cV_of (m := 3) (fun d hd Q hQ => ?_) rfl hD⟩
      have hd1 : 1 ≤ d := by omega
      have hd2 : 2 ≤ d := by omega
      have hd3 : 3 ≤ d := by omega
      have l6 : (Int32.ofNat (ρ (24 + p)) < (60 : Int32)) ↔ True := iff_true_intro ((on_lt (j := 60) (by omega) (by omega)).mpr (by omega))
      refine b25_0 ?_
      simp only [↓br_pos, ↓br_neg, ↓rF_I, ↓rF_L, ↓rF_R, ↓rF_N, rO_m, rB_m, ↓rI_m, wI_m, ↓rB2_m, ↓rB3_m, wB2_m, wB3_m, ↓rL_m, wL_m, ↓rQ_m, wQ_m, ↓lI_m, pI_m, pL_m, pR_m, sI_m, sBy_m, sBo_m, sL_m, sQ_m, fst_m, true_and, and_true, tg_some, ln_some, uI_1, uI_2, uL_1, uL_2, uL_3, uQ_1, uQ_2, uQ_3, rv_i, rv_l, rv_n, rv_b0, rv_b1, RMR, ne_eq, reduceCtorEq, not_false_eq_true, Option.getD_some, if_true, if_false, and_self, false_and, and_false, Nat.add_left_cancel_iff, Nat.add_eq_left, Nat.left_eq_add, Nat.one_ne_zero, Nat.reduceAdd, Nat.reduceLT, Nat.reduceLeDiff, Nat.reduceEqDiff, true_implies, false_implies, implies_true, Option.some.injEq, forall_eq', forall_eq, reduceCtorEq, brT, brF, br_s, i_10, i_01, ib_0_2, ib_1_2, tn_0, tn_1, Int32.le_refl, eq_self, rv_bN, rv_iM, RCS r, hR', g_65 hd1, i1, i3, i4, i5, eb1, eb3, eb4, eb5, en1, en3, en4, en5, o1, o3, o4, o5', ebl, enl, elf, emn, ebp, enp, ela]
      refine b25_28 ?_
      simp only [↓br_pos, ↓br_neg, ↓rF_I, ↓rF_L, ↓rF_R, ↓rF_N, rO_m, rB_m, ↓rI_m, wI_m, ↓rB2_m, ↓rB3_m, wB2_m, wB3_m, ↓rL_m, wL_m, ↓rQ_m, wQ_m, ↓lI_m, pI_m, pL_m, pR_m, sI_m, sBy_m, sBo_m, sL_m, sQ_m, fst_m, true_and, and_true, tg_some, ln_some, uI_1, uI_2, uL_1, uL_2, uL_3, uQ_1, uQ_2, uQ_3, rv_i, rv_l, rv_n, rv_b0, rv_b1, RMR, ne_eq, reduceCtorEq, not_false_eq_true, Option.getD_some, if_true, if_false, and_self, false_and, and_false, Nat.add_left_cancel_iff, Nat.add_eq_left, Nat.left_eq_add, Nat.one_ne_zero, Nat.reduceAdd, Nat.reduceLT, Nat.reduceLeDiff, Nat.reduceEqDiff, true_implies, false_implies, implies_true, Option.some.injEq, forall_eq', forall_eq, reduceCtorEq, brT, brF, br_s, i_10, i_01, ib_0_2, ib_1_2, tn_0, tn_1, Int32.le_refl, eq_self, rv_bN, rv_iM, RCS r, hR', g_65 hd1, i1, i3, i4, i5, eb1, eb3, eb4, eb5, en1, en3, en4, en5, o1, o3, o4, o5', ebl, enl, elf, emn, ebp, enp, ela, z, l6, e1 hd2]
      refine b25_103 ?_
      rcases tl with ⟨q1, q2⟩ | ⟨q1, q2⟩ | ⟨q1, q2⟩
      · have c1 : (Int32.ofNat g = Int32.ofNat (ρ 54)) ↔ True := iff_true_intro (by rw [q1, e54])
        simp only [↓br_pos, ↓br_neg, ↓rF_I, ↓rF_L, ↓rF_R, ↓rF_N, rO_m, rB_m, ↓rI_m, wI_m, ↓rB2_m, ↓rB3_m, wB2_m, wB3_m, ↓rL_m, wL_m, ↓rQ_m, wQ_m, ↓lI_m, pI_m, pL_m, pR_m, sI_m, sBy_m, sBo_m, sL_m, sQ_m, fst_m, true_and, and_true, tg_some, ln_some, uI_1, uI_2, uL_1, uL_2, uL_3, uQ_1, uQ_2, uQ_3, rv_i, rv_l, rv_n, rv_b0, rv_b1, RMR, ne_eq, reduceCtorEq, not_false_eq_true, Option.getD_some, if_true, if_false, and_self, false_and, and_false, Nat.add_left_cancel_iff, Nat.add_eq_left, Nat.left_eq_add, Nat.one_ne_zero, Nat.reduceAdd, Nat.reduceLT, Nat.reduceLeDiff, Nat.reduceEqDiff, true_implies, false_implies, implies_true, Option.some.injEq, forall_eq', forall_eq, reduceCtorEq, brT, brF, br_s, i_10, i_01, ib_0_2, ib_1_2, tn_0, tn_1, Int32.le_refl, eq_self, rv_bN, rv_iM, RCS r, hR', i5, eb5, en5, e2 hd2, c1, q2 hd2]
        exact hQ
      · have c1 : (Int32.ofNat g = Int32.ofNat (ρ 54)) ↔ False := iff_false_intro (fun q => absurd ((of_inj (by omega) (by omega)).mp q) (by omega))
        have c2 : (Int32.ofNat (ρ 54) ≤ Int32.ofNat g) ↔ False := iff_false_intro (fun q => absurd ((on_le (by omega) (by omega)).mp q) (by omega))
        simp only [↓br_pos, ↓br_neg, ↓rF_I, ↓rF_L, ↓rF_R, ↓rF_N, rO_m, rB_m, ↓rI_m, wI_m, ↓rB2_m, ↓rB3_m, wB2_m, wB3_m, ↓rL_m, wL_m, ↓rQ_m, wQ_m, ↓lI_m, pI_m, pL_m, pR_m, sI_m, sBy_m, sBo_m, sL_m, sQ_m, fst_m, true_and, and_true, tg_some, ln_some, uI_1, uI_2, uL_1, uL_2, uL_3, uQ_1, uQ_2, uQ_3, rv_i, rv_l, rv_n, rv_b0, rv_b1, RMR, ne_eq, reduceCtorEq, not_false_eq_true, Option.getD_some, if_true, if_false, and_self, false_and, and_false, Nat.add_left_cancel_iff, Nat.add_eq_left, Nat.left_eq_add, Nat.one_ne_zero, Nat.reduceAdd, Nat.reduceLT, Nat.reduceLeDiff, Nat.reduceEqDiff, true_implies, false_implies, implies_true, Option.some.injEq, forall_eq', forall_eq, reduceCtorEq, brT, brF, br_s, i_10, i_01, ib_0_2, ib_1_2, tn_0, tn_1, Int32.le_refl, eq_self, rv_bN, rv_iM, RCS r, hR', i5, eb5, en5, e2 hd2, c1, c2, on_succ]
        exact q2 hd3 hQ
      · have c1 : (Int32.ofNat g = Int32.ofNat (ρ 54)) ↔ False := iff_false_intro (fun q => absurd ((of_inj (by omega) (by omega)).mp q) (by omega))
        have c2 : (Int32.ofNat (ρ 54) ≤ Int32.ofNat g) ↔ True := iff_true_intro ((on_le (by omega) (by omega)).mpr (by omega))
        have c3 : Int32.ofNat g - 1 = Int32.ofNat (g - 1) := st_m1 (by omega)
        simp only [↓br_pos, ↓br_neg, ↓rF_I, ↓rF_L, ↓rF_R, ↓rF_N, rO_m, rB_m, ↓rI_m, wI_m, ↓rB2_m, ↓rB3_m, wB2_m, wB3_m, ↓rL_m, wL_m, ↓rQ_m, wQ_m, ↓lI_m, pI_m, pL_m, pR_m, sI_m, sBy_m, sBo_m, sL_m, sQ_m, fst_m, true_and, and_true, tg_some, ln_some, uI_1, uI_2, uL_1, uL_2, uL_3, uQ_1, uQ_2, uQ_3, rv_i, rv_l, rv_n, rv_b0, rv_b1, RMR, ne_eq, reduceCtorEq, not_false_eq_true, Option.getD_some, if_true, if_false, and_self, false_and, and_false, Nat.add_left_cancel_iff, Nat.add_eq_left, Nat.left_eq_add, Nat.one_ne_zero, Nat.reduceAdd, Nat.reduceLT, Nat.reduceLeDiff, Nat.reduceEqDiff, true_implies, false_implies, implies_true, Option.some.injEq, forall_eq', forall_eq, reduceCtorEq, brT, brF, br_s, i_10, i_01, ib_0_2, ib_1_2, tn_0, tn_1, Int32.le_refl, eq_self, rv_bN, rv_iM, RCS r, hR', i5, eb5, en5, e2 hd2, c1, c2, c3]
        exact q2 hd3 hQ
  · have hvn := hvO'.resolve_left b
    have o5' : σ.1 (r + 13) 5 = Int32.ofNat (ρ 57 - 1) := by rw [o5, st_m1 b]
    have n5 : (Int32.ofNat (ρ 57 - 1) = -1) ↔ False := on_m1 (by rw [← hp] at hvn; omega)
    obtain ⟨pa, pb, pc⟩ := pour_old (g := g) hv h hn hp b
    obtain ⟨σ2, f2, t2, e2⟩ := g_61 (c := g) (t := min (ρ 55) (ρ (12 + ρ 52))) hR hρ hv h hp3 pa (by omega) (by rw [pb]; omega)
    have hP := vRow_pour (c := g) (t := min (ρ 55) (ρ (12 + ρ 52))) hv h hp3 pa (by omega) (by rw [pb]; omega)
    have e54 := (pc (min (ρ 55) (ρ (12 + ρ 52)))).2.2
    obtain ⟨σ3, f3, t3, tl⟩ := tl_25 (g := g) hR hT hd t2 (tTold_R hτ f2 (by omega)) hv hP (by rw [(pc _).1]; exact hn) (by rw [(pc _).2.1]; exact hp) hg
    refine ⟨σ3, frR_tr f2 f3, by unfold sLay; rw [if_neg (fun q => q.elim a (fun q => b q.1)), if_neg b]; exact t3, fun hD => cV_of (m := 3) (fun d hd Q hQ => ?_) rfl hD⟩
    have hd1 : 1 ≤ d := by omega
    have hd2 : 2 ≤ d := by omega
    have hd3 : 3 ≤ d := by omega
    refine b25_0 ?_
    simp only [↓br_pos, ↓br_neg, ↓rF_I, ↓rF_L, ↓rF_R, ↓rF_N, rO_m, rB_m, ↓rI_m, wI_m, ↓rB2_m, ↓rB3_m, wB2_m, wB3_m, ↓rL_m, wL_m, ↓rQ_m, wQ_m, ↓lI_m, pI_m, pL_m, pR_m, sI_m, sBy_m, sBo_m, sL_m, sQ_m, fst_m, true_and, and_true, tg_some, ln_some, uI_1, uI_2, uL_1, uL_2, uL_3, uQ_1, uQ_2, uQ_3, rv_i, rv_l, rv_n, rv_b0, rv_b1, RMR, ne_eq, reduceCtorEq, not_false_eq_true, Option.getD_some, if_true, if_false, and_self, false_and, and_false, Nat.add_left_cancel_iff, Nat.add_eq_left, Nat.left_eq_add, Nat.one_ne_zero, Nat.reduceAdd, Nat.reduceLT, Nat.reduceLeDiff, Nat.reduceEqDiff, true_implies, false_implies, implies_true, Option.some.injEq, forall_eq', forall_eq, reduceCtorEq, brT, brF, br_s, i_10, i_01, ib_0_2, ib_1_2, tn_0, tn_1, Int32.le_refl, eq_self, rv_bN, rv_iM, RCS r, hR', g_65 hd1, i1, i3, i4, i5, eb1, eb3, eb4, eb5, en1, en3, en4, en5, o1, o3, o4, o5', ebl, enl, elf, emn, ebp, enp, ela]
    refine b25_28 ?_
    rcases tl with ⟨q1, q2⟩ | ⟨q1, q2⟩ | ⟨q1, q2⟩
    · have c1 : (Int32.ofNat g = Int32.ofNat (ρ 54)) ↔ True := iff_true_intro (by rw [q1, e54])
      simp only [↓br_pos, ↓br_neg, ↓rF_I, ↓rF_L, ↓rF_R, ↓rF_N, rO_m, rB_m, ↓rI_m, wI_m, ↓rB2_m, ↓rB3_m, wB2_m, wB3_m, ↓rL_m, wL_m, ↓rQ_m, wQ_m, ↓lI_m, pI_m, pL_m, pR_m, sI_m, sBy_m, sBo_m, sL_m, sQ_m, fst_m, true_and, and_true, tg_some, ln_some, uI_1, uI_2, uL_1, uL_2, uL_3, uQ_1, uQ_2, uQ_3, rv_i, rv_l, rv_n, rv_b0, rv_b1, RMR, ne_eq, reduceCtorEq, not_false_eq_true, Option.getD_some, if_true, if_false, and_self, false_and, and_false, Nat.add_left_cancel_iff, Nat.add_eq_left, Nat.left_eq_add, Nat.one_ne_zero, Nat.reduceAdd, Nat.reduceLT, Nat.reduceLeDiff, Nat.reduceEqDiff, true_implies, false_implies, implies_true, Option.some.injEq, forall_eq', forall_eq, reduceCtorEq, brT, brF, br_s, i_10, i_01, ib_0_2, ib_1_2, tn_0, tn_1, Int32.le_refl, eq_self, rv_bN, rv_iM, RCS r, hR', g_65 hd1, i1, i3, i4, i5, eb1, eb3, eb4, eb5, en1, en3, en4, en5, o1, o3, o4, o5', ebl, enl, elf, emn, ebp, enp, ela, z, n5, e2 hd2, c1, q2 hd2]
      exact hQ
    · have c1 : (Int32.ofNat g = Int32.ofNat (ρ 54)) ↔ False := iff_false_intro (fun q => absurd ((of_inj (by omega) (by omega)).mp q) (by omega))
      have c2 : (Int32.ofNat (ρ 54) ≤ Int32.ofNat g) ↔ False := iff_false_intro (fun q => absurd ((on_le (by omega) (by omega)).mp q) (by omega))
      simp only [↓br_pos, ↓br_neg, ↓rF_I, ↓rF_L, ↓rF_R, ↓rF_N, rO_m, rB_m, ↓rI_m, wI_m, ↓rB2_m, ↓rB3_m, wB2_m, wB3_m, ↓rL_m, wL_m, ↓rQ_m, wQ_m, ↓lI_m, pI_m, pL_m, pR_m, sI_m, sBy_m, sBo_m, sL_m, sQ_m, fst_m, true_and, and_true, tg_some, ln_some, uI_1, uI_2, uL_1, uL_2, uL_3, uQ_1, uQ_2, uQ_3, rv_i, rv_l, rv_n, rv_b0, rv_b1, RMR, ne_eq, reduceCtorEq, not_false_eq_true, Option.getD_some, if_true, if_false, and_self, false_and, and_false, Nat.add_left_cancel_iff, Nat.add_eq_left, Nat.left_eq_add, Nat.one_ne_zero, Nat.reduceAdd, Nat.reduceLT, Nat.reduceLeDiff, Nat.reduceEqDiff, true_implies, false_implies, implies_true, Option.some.injEq, forall_eq', forall_eq, reduceCtorEq, brT, brF, br_s, i_10, i_01, ib_0_2, ib_1_2, tn_0, tn_1, Int32.le_refl, eq_self, rv_bN, rv_iM, RCS r, hR', g_65 hd1, i1, i3, i4, i5, eb1, eb3, eb4, eb5, en1, en3, en4, en5, o1, o3, o4, o5', ebl, enl, elf, emn, ebp, enp, ela, z, n5, e2 hd2, c1, c2, on_succ]
      exact q2 hd3 hQ
    · have c1 : (Int32.ofNat g = Int32.ofNat (ρ 54)) ↔ False := iff_false_intro (fun q => absurd ((of_inj (by omega) (by omega)).mp q) (by omega))
      have c2 : (Int32.ofNat (ρ 54) ≤ Int32.ofNat g) ↔ True := iff_true_intro ((on_le (by omega) (by omega)).mpr (by omega))
      have c3 : Int32.ofNat g - 1 = Int32.ofNat (g - 1) := st_m1 (by omega)
      simp only [↓br_pos, ↓br_neg, ↓rF_I, ↓rF_L, ↓rF_R, ↓rF_N, rO_m, rB_m, ↓rI_m, wI_m, ↓rB2_m, ↓rB3_m, wB2_m, wB3_m, ↓rL_m, wL_m, ↓rQ_m, wQ_m, ↓lI_m, pI_m, pL_m, pR_m, sI_m, sBy_m, sBo_m, sL_m, sQ_m, fst_m, true_and, and_true, tg_some, ln_some, uI_1, uI_2, uL_1, uL_2, uL_3, uQ_1, uQ_2, uQ_3, rv_i, rv_l, rv_n, rv_b0, rv_b1, RMR, ne_eq, reduceCtorEq, not_false_eq_true, Option.getD_some, if_true, if_false, and_self, false_and, and_false, Nat.add_left_cancel_iff, Nat.add_eq_left, Nat.left_eq_add, Nat.one_ne_zero, Nat.reduceAdd, Nat.reduceLT, Nat.reduceLeDiff, Nat.reduceEqDiff, true_implies, false_implies, implies_true, Option.some.injEq, forall_eq', forall_eq, reduceCtorEq, brT, brF, br_s, i_10, i_01, ib_0_2, ib_1_2, tn_0, tn_1, Int32.le_refl, eq_self, rv_bN, rv_iM, RCS r, hR', g_65 hd1, i1, i3, i4, i5, eb1, eb3, eb4, eb5, en1, en3, en4, en5, o1, o3, o4, o5', ebl, enl, elf, emn, ebp, enp, ela, z, n5, e2 hd2, c1, c2, c3]
      exact q2 hd3 hQ
end
section
theorem g_21 {w : mT} {σ : mS} {r t m : Nat} {τ ρ : Rw} (hR : isS w r) (hT : isT w t) (hd : t + 10 ≤ r ∨ r + 14 ≤ t) (hρ : tSt σ r τ ρ) (hτ : tTold σ t τ) (hv : vTold τ) (h : vRow τ ρ) (hm : m < 2) (hn : 0 < ρ (10 + m)) : ∃ σ', frR r (r + 14) σ σ' ∧ tSt σ' r τ (kSt τ ρ m) ∧ ∀ {D : Nat} {K : Int32 → Hp → Prop}, 5 ≤ D → (wpI D 21 [.ref t, .ref r, .int (Int32.ofNat m)] (mW w σ) K ↔ K (iB (kW τ ρ m = true)) (mW w σ')) := by
  have hR' := hR
  simp only [isS] at hR'
  obtain ⟨p1, p2⟩ := pg_lt h hm hn
  have v1 := hv.2.1
  have v2 := (hv.2.2.2.2.2.1 _ p1).2
  have hs1 := onP_lt hv (vR_on h hm)
  have c0 : σ.1 (r + 13) (m * 48) = Int32.ofNat (pO ρ m) ∧ σ.1 (r + 13) (m * 48 + 2) = Int32.ofNat (gO ρ m) := by
    have : m = 0 ∨ m = 1 := by omega
    rcases this with rfl | rfl
    · exact ⟨(tS_o0 hρ hn).1, (tS_o0 hρ hn).2.2.1⟩
    · exact ⟨(tS_o1 hρ hn).1, (tS_o1 hρ hn).2.2⟩
  obtain ⟨o0, o2⟩ := c0
  have e48 : Int32.ofNat m * 8 * 6 = Int32.ofNat (m * 48) := by
    rw [show (8 : Int32) = Int32.ofNat 8 from rfl, show (6 : Int32) = Int32.ofNat 6 from rfl, of_mul, of_mul]
    congr 1; omega
  have i0 : Int32.ofNat (m * 48) + 0 = Int32.ofNat (m * 48) := Int32.add_zero _
  have i2 : Int32.ofNat (m * 48) + 2 = Int32.ofNat (m * 48 + 2) := of_add
  have eb0 : inB (Int32.ofNat (m * 48)) 96 = true := on_inB (by omega) (by omega)
  have eb2 : inB (Int32.ofNat (m * 48 + 2)) 96 = true := on_inB (by omega) (by omega)
  have en0 := on_nat (i := m * 48) (by omega)
  have en2 := on_nat (i := m * 48 + 2) (by omega)
  by_cases a : onAtD ρ m (pO ρ m) = true
  · have x1 := (sP_on hs1 (by omega)).mpr a
    have x2 := sCe_on a
    have oc := (on_cell hv h hm a).2
    by_cases b : cellAt ρ m = gO ρ m
    · have ew : kW τ ρ m = false := by unfold kW; rw [if_pos a, if_pos b]
      have ez : iB (kW τ ρ m = true) = 0 := iB_f (by rw [ew]; decide)
      have cb : (Int32.ofNat (cellAt ρ m) = Int32.ofNat (gO ρ m)) ↔ True := iff_true_intro (by rw [b])
      by_cases e : m = 1
      · have em : (Int32.ofNat m = 1) ↔ True := iff_true_intro (by rw [e]; decide)
        obtain ⟨σ1, f1, t1, e1⟩ := g_24 hR hT hρ hτ hv h (by subst e; exact hn) p1 p2
        refine ⟨σ1, f1, by unfold kSt; rw [if_pos a, if_pos b, if_pos e]; exact t1, fun hD => cI_of (m := 4) (fun d hd Q hQ => ?_) rfl hD⟩
        rw [ez] at hQ
        have hd1 : 1 ≤ d := by omega
        have hd2 : 2 ≤ d := by omega
        have hd3 : 3 ≤ d := by omega
        have hd4 : 4 ≤ d := by omega
        refine b21_0 ?_
        simp only [↓br_pos, ↓br_neg, ↓rF_I, ↓rF_L, ↓rF_R, ↓rF_N, rO_m, rB_m, ↓rI_m, wI_m, ↓rB2_m, ↓rB3_m, wB2_m, wB3_m, ↓rL_m, wL_m, ↓rQ_m, wQ_m, ↓lI_m, pI_m, pL_m, pR_m, sI_m, sBy_m, sBo_m, sL_m, sQ_m, fst_m, true_and, and_true, tg_some, ln_some, uI_1, uI_2, uL_1, uL_2, uL_3, uQ_1, uQ_2, uQ_3, rv_i, rv_l, rv_n, rv_b0, rv_b1, RMR, ne_eq, reduceCtorEq, not_false_eq_true, Option.getD_some, if_true, if_false, and_self, false_and, and_false, Nat.add_left_cancel_iff, Nat.add_eq_left, Nat.left_eq_add, Nat.one_ne_zero, Nat.reduceAdd, Nat.reduceLT, Nat.reduceLeDiff, Nat.reduceEqDiff, true_implies, false_implies, implies_true, Option.some.injEq, forall_eq', forall_eq, reduceCtorEq, brT, brF, br_s, i_10, i_01, ib_0_2, ib_1_2, tn_0, tn_1, Int32.le_refl, eq_self, rv_bN, rv_iM, RCS r, hR', g_65 hd1, e48, i0, i2, eb0, eb2, en0, en2, o0, o2]
        refine b21_25 ?_
        simp only [↓br_pos, ↓br_neg, ↓rF_I, ↓rF_L, ↓rF_R, ↓rF_N, rO_m, rB_m, ↓rI_m, wI_m, ↓rB2_m, ↓rB3_m, wB2_m, wB3_m, ↓rL_m, wL_m, ↓rQ_m, wQ_m, ↓lI_m, pI_m, pL_m, pR_m, sI_m, sBy_m, sBo_m, sL_m, sQ_m, fst_m, true_and, and_true, tg_some, ln_some, uI_1, uI_2, uL_1, uL_2, uL_3, uQ_1, uQ_2, uQ_3, rv_i, rv_l, rv_n, rv_b0, rv_b1, RMR, ne_eq, reduceCtorEq, not_false_eq_true, Option.getD_some, if_true, if_false, and_self, false_and, and_false, Nat.add_left_cancel_iff, Nat.add_eq_left, Nat.left_eq_add, Nat.one_ne_zero, Nat.reduceAdd, Nat.reduceLT, Nat.reduceLeDiff, Nat.reduceEqDiff, true_implies, false_implies, implies_true, Option.some.injEq, forall_eq', forall_eq, reduceCtorEq, brT, brF, br_s, i_10, i_01, ib_0_2, ib_1_2, tn_0, tn_1, Int32.le_refl, eq_self, rv_bN, rv_iM, RCS r, hR', g_52 hR hρ hm hs1 hd1, g_53 hR hρ hm hs1 hd1, x1, x2, cb, em, e1 hd4]
        exact hQ
      · have em : (Int32.ofNat m = 1) ↔ False := by
          have : m = 0 := by omega
          rw [this]; decide
        have e0 : m = 0 := by omega
        obtain ⟨σ1, f1, t1, e1⟩ := g_25 (p := pO ρ m) (g := gO ρ m) hR hT hd hρ hτ hv h (by subst e0; exact hn) (by subst e0; rfl) p2
        refine ⟨σ1, f1, by unfold kSt; rw [if_pos a, if_pos b, if_neg e]; exact t1, fun hD => cI_of (m := 4) (fun d hd Q hQ => ?_) rfl hD⟩
        rw [ez] at hQ
        have hd1 : 1 ≤ d := by omega
        have hd2 : 2 ≤ d := by omega
        have hd3 : 3 ≤ d := by omega
        have hd4 : 4 ≤ d := by omega
        refine b21_0 ?_
        simp only [↓br_pos, ↓br_neg, ↓rF_I, ↓rF_L, ↓rF_R, ↓rF_N, rO_m, rB_m, ↓rI_m, wI_m, ↓rB2_m, ↓rB3_m, wB2_m, wB3_m, ↓rL_m, wL_m, ↓rQ_m, wQ_m, ↓lI_m, pI_m, pL_m, pR_m, sI_m, sBy_m, sBo_m, sL_m, sQ_m, fst_m, true_and, and_true, tg_some, ln_some, uI_1, uI_2, uL_1, uL_2, uL_3, uQ_1, uQ_2, uQ_3, rv_i, rv_l, rv_n, rv_b0, rv_b1, RMR, ne_eq, reduceCtorEq, not_false_eq_true, Option.getD_some, if_true, if_false, and_self, false_and, and_false, Nat.add_left_cancel_iff, Nat.add_eq_left, Nat.left_eq_add, Nat.one_ne_zero, Nat.reduceAdd, Nat.reduceLT, Nat.reduceLeDiff, Nat.reduceEqDiff, true_implies, false_implies, implies_true, Option.some.injEq, forall_eq', forall_eq, reduceCtorEq, brT, brF, br_s, i_10, i_01, ib_0_2, ib_1_2, tn_0, tn_1, Int32.le_refl, eq_self, rv_bN, rv_iM, RCS r, hR', g_65 hd1, e48, i0, i2, eb0, eb2, en0, en2, o0, o2]
        refine b21_25 ?_
        simp only [↓br_pos, ↓br_neg, ↓rF_I, ↓rF_L, ↓rF_R, ↓rF_N, rO_m, rB_m, ↓rI_m, wI_m, ↓rB2_m, ↓rB3_m, wB2_m, wB3_m, ↓rL_m, wL_m, ↓rQ_m, wQ_m, ↓lI_m, pI_m, pL_m, pR_m, sI_m, sBy_m, sBo_m, sL_m, sQ_m, fst_m, true_and, and_true, tg_some, ln_some, uI_1, uI_2, uL_1, uL_2, uL_3, uQ_1, uQ_2, uQ_3, rv_i, rv_l, rv_n, rv_b0, rv_b1, RMR, ne_eq, reduceCtorEq, not_false_eq_true, Option.getD_some, if_true, if_false, and_self, false_and, and_false, Nat.add_left_cancel_iff, Nat.add_eq_left, Nat.left_eq_add, Nat.one_ne_zero, Nat.reduceAdd, Nat.reduceLT, Nat.reduceLeDiff, Nat.reduceEqDiff, true_implies, false_implies, implies_true, Option.some.injEq, forall_eq', forall_eq, reduceCtorEq, brT, brF, br_s, i_10, i_01, ib_0_2, ib_1_2, tn_0, tn_1, Int32.le_refl, eq_self, rv_bN, rv_iM, RCS r, hR', g_52 hR hρ hm hs1 hd1, g_53 hR hρ hm hs1 hd1, x1, x2, cb, em, e1 hd4]
        exact hQ
    · have cb : (Int32.ofNat (cellAt ρ m) = Int32.ofNat (gO ρ m)) ↔ False := iff_false_intro (fun q => b ((of_inj (Nat.lt_trans cAt_lt (by omega)) (by omega)).mp q))
      have nl := nx_lt oc p2
      obtain ⟨σ1, f1, t1, e1⟩ := g_23 (p := pO ρ m) (c := nx (cellAt ρ m) (gO ρ m)) hR hT hρ hτ hv h hm (by omega) (by omega)
      have ew : kW τ ρ m = decide (¬ frP τ ρ m (pO ρ m) (nx (cellAt ρ m) (gO ρ m))) := by unfold kW; rw [if_pos a, if_neg b]
      have cc := cAt_lt (ρ := ρ) (m := m)
      refine ⟨σ1, f1, by unfold kSt; rw [if_pos a, if_neg b]; exact t1, fun hD => cI_of (m := 4) (fun d hd Q hQ => ?_) rfl hD⟩
      rw [ew] at hQ
      have hd1 : 1 ≤ d := by omega
      have hd2 : 2 ≤ d := by omega
      have hd3 : 3 ≤ d := by omega
      have hd4 : 4 ≤ d := by omega
      refine b21_0 ?_
      simp only [↓br_pos, ↓br_neg, ↓rF_I, ↓rF_L, ↓rF_R, ↓rF_N, rO_m, rB_m, ↓rI_m, wI_m, ↓rB2_m, ↓rB3_m, wB2_m, wB3_m, ↓rL_m, wL_m, ↓rQ_m, wQ_m, ↓lI_m, pI_m, pL_m, pR_m, sI_m, sBy_m, sBo_m, sL_m, sQ_m, fst_m, true_and, and_true, tg_some, ln_some, uI_1, uI_2, uL_1, uL_2, uL_3, uQ_1, uQ_2, uQ_3, rv_i, rv_l, rv_n, rv_b0, rv_b1, RMR, ne_eq, reduceCtorEq, not_false_eq_true, Option.getD_some, if_true, if_false, and_self, false_and, and_false, Nat.add_left_cancel_iff, Nat.add_eq_left, Nat.left_eq_add, Nat.one_ne_zero, Nat.reduceAdd, Nat.reduceLT, Nat.reduceLeDiff, Nat.reduceEqDiff, true_implies, false_implies, implies_true, Option.some.injEq, forall_eq', forall_eq, reduceCtorEq, brT, brF, br_s, i_10, i_01, ib_0_2, ib_1_2, tn_0, tn_1, Int32.le_refl, eq_self, rv_bN, rv_iM, RCS r, hR', g_65 hd1, e48, i0, i2, eb0, eb2, en0, en2, o0, o2]
      refine b21_25 ?_
      by_cases z : frP τ ρ m (pO ρ m) (nx (cellAt ρ m) (gO ρ m))
      · have ez : iB (frP τ ρ m (pO ρ m) (nx (cellAt ρ m) (gO ρ m))) = 1 := iB_t z
        rw [iB_f (by rw [decide_eq_true_eq]; exact fun q => q z)] at hQ
        by_cases l : cellAt ρ m < gO ρ m
        · have cl : (Int32.ofNat (gO ρ m) ≤ Int32.ofNat (cellAt ρ m)) ↔ False := iff_false_intro (fun q => absurd ((on_le (by omega) (by omega)).mp q) (by omega))
          have en : nx (cellAt ρ m) (gO ρ m) = cellAt ρ m + 1 := if_pos l
          rw [en] at e1 ez
          simp only [↓br_pos, ↓br_neg, ↓rF_I, ↓rF_L, ↓rF_R, ↓rF_N, rO_m, rB_m, ↓rI_m, wI_m, ↓rB2_m, ↓rB3_m, wB2_m, wB3_m, ↓rL_m, wL_m, ↓rQ_m, wQ_m, ↓lI_m, pI_m, pL_m, pR_m, sI_m, sBy_m, sBo_m, sL_m, sQ_m, fst_m, true_and, and_true, tg_some, ln_some, uI_1, uI_2, uL_1, uL_2, uL_3, uQ_1, uQ_2, uQ_3, rv_i, rv_l, rv_n, rv_b0, rv_b1, RMR, ne_eq, reduceCtorEq, not_false_eq_true, Option.getD_some, if_true, if_false, and_self, false_and, and_false, Nat.add_left_cancel_iff, Nat.add_eq_left, Nat.left_eq_add, Nat.one_ne_zero, Nat.reduceAdd, Nat.reduceLT, Nat.reduceLeDiff, Nat.reduceEqDiff, true_implies, false_implies, implies_true, Option.some.injEq, forall_eq', forall_eq, reduceCtorEq, brT, brF, br_s, i_10, i_01, ib_0_2, ib_1_2, tn_0, tn_1, Int32.le_refl, eq_self, rv_bN, rv_iM, RCS r, hR', g_52 hR hρ hm hs1 hd1, g_53 hR hρ hm hs1 hd1, x1, x2, cb, cl, on_succ, e1 hd3, ez]
          exact hQ
        · have cl : (Int32.ofNat (gO ρ m) ≤ Int32.ofNat (cellAt ρ m)) ↔ True := iff_true_intro ((on_le (by omega) (by omega)).mpr (by omega))
          have en : nx (cellAt ρ m) (gO ρ m) = cellAt ρ m - 1 := if_neg l
          have em : Int32.ofNat (cellAt ρ m) - 1 = Int32.ofNat (cellAt ρ m - 1) := st_m1 (by omega)
          rw [en] at e1 ez
          simp only [↓br_pos, ↓br_neg, ↓rF_I, ↓rF_L, ↓rF_R, ↓rF_N, rO_m, rB_m, ↓rI_m, wI_m, ↓rB2_m, ↓rB3_m, wB2_m, wB3_m, ↓rL_m, wL_m, ↓rQ_m, wQ_m, ↓lI_m, pI_m, pL_m, pR_m, sI_m, sBy_m, sBo_m, sL_m, sQ_m, fst_m, true_and, and_true, tg_some, ln_some, uI_1, uI_2, uL_1, uL_2, uL_3, uQ_1, uQ_2, uQ_3, rv_i, rv_l, rv_n, rv_b0, rv_b1, RMR, ne_eq, reduceCtorEq, not_false_eq_true, Option.getD_some, if_true, if_false, and_self, false_and, and_false, Nat.add_left_cancel_iff, Nat.add_eq_left, Nat.left_eq_add, Nat.one_ne_zero, Nat.reduceAdd, Nat.reduceLT, Nat.reduceLeDiff, Nat.reduceEqDiff, true_implies, false_implies, implies_true, Option.some.injEq, forall_eq', forall_eq, reduceCtorEq, brT, brF, br_s, i_10, i_01, ib_0_2, ib_1_2, tn_0, tn_1, Int32.le_refl, eq_self, rv_bN, rv_iM, RCS r, hR', g_52 hR hρ hm hs1 hd1, g_53 hR hρ hm hs1 hd1, x1, x2, cb, cl, em, e1 hd3, ez]
          exact hQ
      · have ez : iB (frP τ ρ m (pO ρ m) (nx (cellAt ρ m) (gO ρ m))) = 0 := iB_f z
        rw [iB_t (by rw [decide_eq_true_eq]; exact z)] at hQ
        by_cases l : cellAt ρ m < gO ρ m
        · have cl : (Int32.ofNat (gO ρ m) ≤ Int32.ofNat (cellAt ρ m)) ↔ False := iff_false_intro (fun q => absurd ((on_le (by omega) (by omega)).mp q) (by omega))
          have en : nx (cellAt ρ m) (gO ρ m) = cellAt ρ m + 1 := if_pos l
          rw [en] at e1 ez
          simp only [↓br_pos, ↓br_neg, ↓rF_I, ↓rF_L, ↓rF_R, ↓rF_N, rO_m, rB_m, ↓rI_m, wI_m, ↓rB2_m, ↓rB3_m, wB2_m, wB3_m, ↓rL_m, wL_m, ↓rQ_m, wQ_m, ↓lI_m, pI_m, pL_m, pR_m, sI_m, sBy_m, sBo_m, sL_m, sQ_m, fst_m, true_and, and_true, tg_some, ln_some, uI_1, uI_2, uL_1, uL_2, uL_3, uQ_1, uQ_2, uQ_3, rv_i, rv_l, rv_n, rv_b0, rv_b1, RMR, ne_eq, reduceCtorEq, not_false_eq_true, Option.getD_some, if_true, if_false, and_self, false_and, and_false, Nat.add_left_cancel_iff, Nat.add_eq_left, Nat.left_eq_add, Nat.one_ne_zero, Nat.reduceAdd, Nat.reduceLT, Nat.reduceLeDiff, Nat.reduceEqDiff, true_implies, false_implies, implies_true, Option.some.injEq, forall_eq', forall_eq, reduceCtorEq, brT, brF, br_s, i_10, i_01, ib_0_2, ib_1_2, tn_0, tn_1, Int32.le_refl, eq_self, rv_bN, rv_iM, RCS r, hR', g_52 hR hρ hm hs1 hd1, g_53 hR hρ hm hs1 hd1, x1, x2, cb, cl, on_succ, e1 hd3, ez]
          exact hQ
        · have cl : (Int32.ofNat (gO ρ m) ≤ Int32.ofNat (cellAt ρ m)) ↔ True := iff_true_intro ((on_le (by omega) (by omega)).mpr (by omega))
          have en : nx (cellAt ρ m) (gO ρ m) = cellAt ρ m - 1 := if_neg l
          have em : Int32.ofNat (cellAt ρ m) - 1 = Int32.ofNat (cellAt ρ m - 1) := st_m1 (by omega)
          rw [en] at e1 ez
          simp only [↓br_pos, ↓br_neg, ↓rF_I, ↓rF_L, ↓rF_R, ↓rF_N, rO_m, rB_m, ↓rI_m, wI_m, ↓rB2_m, ↓rB3_m, wB2_m, wB3_m, ↓rL_m, wL_m, ↓rQ_m, wQ_m, ↓lI_m, pI_m, pL_m, pR_m, sI_m, sBy_m, sBo_m, sL_m, sQ_m, fst_m, true_and, and_true, tg_some, ln_some, uI_1, uI_2, uL_1, uL_2, uL_3, uQ_1, uQ_2, uQ_3, rv_i, rv_l, rv_n, rv_b0, rv_b1, RMR, ne_eq, reduceCtorEq, not_false_eq_true, Option.getD_some, if_true, if_false, and_self, false_and, and_false, Nat.add_left_cancel_iff, Nat.add_eq_left, Nat.left_eq_add, Nat.one_ne_zero, Nat.reduceAdd, Nat.reduceLT, Nat.reduceLeDiff, Nat.reduceEqDiff, true_implies, false_implies, implies_true, Option.some.injEq, forall_eq', forall_eq, reduceCtorEq, brT, brF, br_s, i_10, i_01, ib_0_2, ib_1_2, tn_0, tn_1, Int32.le_refl, eq_self, rv_bN, rv_iM, RCS r, hR', g_52 hR hρ hm hs1 hd1, g_53 hR hρ hm hs1 hd1, x1, x2, cb, cl, em, e1 hd3, ez]
          exact hQ
  · have x1 : (sP ρ m = Int32.ofNat (pO ρ m)) ↔ False := iff_false_intro (fun q => a ((sP_on hs1 (by omega)).mp q))
    obtain ⟨σ1, f1, t1, e1⟩ := g_22 hR hT hd hρ hτ hv h hm p1 p2
    have ew : kW τ ρ m = decide (¬ ρ (6 + m) < 10 ∧ ¬ frP τ ρ m (pO ρ m) (gO ρ m)) := by unfold kW; rw [if_neg a]
    refine ⟨σ1, f1, by unfold kSt; rw [if_neg a]; exact t1, fun hD => cI_of (m := 4) (fun d hd Q hQ => ?_) rfl hD⟩
    rw [ew] at hQ
    have hd1 : 1 ≤ d := by omega
    have hd2 : 2 ≤ d := by omega
    have hd3 : 3 ≤ d := by omega
    have hd4 : 4 ≤ d := by omega
    refine b21_0 ?_
    simp only [↓br_pos, ↓br_neg, ↓rF_I, ↓rF_L, ↓rF_R, ↓rF_N, rO_m, rB_m, ↓rI_m, wI_m, ↓rB2_m, ↓rB3_m, wB2_m, wB3_m, ↓rL_m, wL_m, ↓rQ_m, wQ_m, ↓lI_m, pI_m, pL_m, pR_m, sI_m, sBy_m, sBo_m, sL_m, sQ_m, fst_m, true_and, and_true, tg_some, ln_some, uI_1, uI_2, uL_1, uL_2, uL_3, uQ_1, uQ_2, uQ_3, rv_i, rv_l, rv_n, rv_b0, rv_b1, RMR, ne_eq, reduceCtorEq, not_false_eq_true, Option.getD_some, if_true, if_false, and_self, false_and, and_false, Nat.add_left_cancel_iff, Nat.add_eq_left, Nat.left_eq_add, Nat.one_ne_zero, Nat.reduceAdd, Nat.reduceLT, Nat.reduceLeDiff, Nat.reduceEqDiff, true_implies, false_implies, implies_true, Option.some.injEq, forall_eq', forall_eq, reduceCtorEq, brT, brF, br_s, i_10, i_01, ib_0_2, ib_1_2, tn_0, tn_1, Int32.le_refl, eq_self, rv_bN, rv_iM, RCS r, hR', g_65 hd1, e48, i0, i2, eb0, eb2, en0, en2, o0, o2]
    refine b21_25 ?_
    by_cases z : ¬ ρ (6 + m) < 10 ∧ ¬ frP τ ρ m (pO ρ m) (gO ρ m)
    · have ez : iB (¬ (¬ ρ (6 + m) < 10 ∧ ¬ frP τ ρ m (pO ρ m) (gO ρ m))) = 0 := iB_f (fun q => q z)
      rw [iB_t (by rw [decide_eq_true_eq]; exact z)] at hQ
      simp only [↓br_pos, ↓br_neg, ↓rF_I, ↓rF_L, ↓rF_R, ↓rF_N, rO_m, rB_m, ↓rI_m, wI_m, ↓rB2_m, ↓rB3_m, wB2_m, wB3_m, ↓rL_m, wL_m, ↓rQ_m, wQ_m, ↓lI_m, pI_m, pL_m, pR_m, sI_m, sBy_m, sBo_m, sL_m, sQ_m, fst_m, true_and, and_true, tg_some, ln_some, uI_1, uI_2, uL_1, uL_2, uL_3, uQ_1, uQ_2, uQ_3, rv_i, rv_l, rv_n, rv_b0, rv_b1, RMR, ne_eq, reduceCtorEq, not_false_eq_true, Option.getD_some, if_true, if_false, and_self, false_and, and_false, Nat.add_left_cancel_iff, Nat.add_eq_left, Nat.left_eq_add, Nat.one_ne_zero, Nat.reduceAdd, Nat.reduceLT, Nat.reduceLeDiff, Nat.reduceEqDiff, true_implies, false_implies, implies_true, Option.some.injEq, forall_eq', forall_eq, reduceCtorEq, brT, brF, br_s, i_10, i_01, ib_0_2, ib_1_2, tn_0, tn_1, Int32.le_refl, eq_self, rv_bN, rv_iM, RCS r, hR', g_52 hR hρ hm hs1 hd1, x1, e1 hd4, ez]
      exact hQ
    · have ez : iB (¬ (¬ ρ (6 + m) < 10 ∧ ¬ frP τ ρ m (pO ρ m) (gO ρ m))) = 1 := iB_t z
      rw [iB_f (by rw [decide_eq_true_eq]; exact z)] at hQ
      simp only [↓br_pos, ↓br_neg, ↓rF_I, ↓rF_L, ↓rF_R, ↓rF_N, rO_m, rB_m, ↓rI_m, wI_m, ↓rB2_m, ↓rB3_m, wB2_m, wB3_m, ↓rL_m, wL_m, ↓rQ_m, wQ_m, ↓lI_m, pI_m, pL_m, pR_m, sI_m, sBy_m, sBo_m, sL_m, sQ_m, fst_m, true_and, and_true, tg_some, ln_some, uI_1, uI_2, uL_1, uL_2, uL_3, uQ_1, uQ_2, uQ_3, rv_i, rv_l, rv_n, rv_b0, rv_b1, RMR, ne_eq, reduceCtorEq, not_false_eq_true, Option.getD_some, if_true, if_false, and_self, false_and, and_false, Nat.add_left_cancel_iff, Nat.add_eq_left, Nat.left_eq_add, Nat.one_ne_zero, Nat.reduceAdd, Nat.reduceLT, Nat.reduceLeDiff, Nat.reduceEqDiff, true_implies, false_implies, implies_true, Option.some.injEq, forall_eq', forall_eq, reduceCtorEq, brT, brF, br_s, i_10, i_01, ib_0_2, ib_1_2, tn_0, tn_1, Int32.le_refl, eq_self, rv_bN, rv_iM, RCS r, hR', g_52 hR hρ hm hs1 hd1, x1, e1 hd4, ez]
      exact hQ
/-! passes -/
theorem lp_150' {t r d : Nat} {hp : Hp} {a2 a3 a4 a5 a6 a7 : Int32} {A4 A5 A6 A7 : Prop} [Decidable A4] [Decidable A5] [Decidable A6] [Decidable A7] {Q : Option (Option Value) → Hp → Prop} (e4 : (a4 = 0) ↔ ¬ A4) (e5 : (a5 = 0) ↔ ¬ A5) (e6 : (a6 = 0) ↔ ¬ A6) (e7 : (a7 = 0) ↔ ¬ A7) (hQ : Q (some (some (.int (iB ((A6 ∧ A7) ∧ (A4 ∨ A5)))))) hp) : Wp 20 150 [.ref t, .ref r, .int a2, .int a3, .int a4, .int a5, .int a6, .int a7] [] hp Q d := by
  refine b20_150 ?_
  by_cases h6 : A6
  · have c6 : (a6 = 0) ↔ False := iff_false_intro (fun q => e6.mp q h6)
    by_cases h7 : A7
    · have c7 : (a7 = 0) ↔ False := iff_false_intro (fun q => e7.mp q h7)
      by_cases h4 : A4
      · have c4 : (a4 = 0) ↔ False := iff_false_intro (fun q => e4.mp q h4)
        rw [iB_t ⟨⟨h6, h7⟩, Or.inl h4⟩] at hQ
        simp only [↓br_pos, ↓br_neg, ↓rF_I, ↓rF_L, ↓rF_R, ↓rF_N, rO_m, rB_m, ↓rI_m, wI_m, ↓rB2_m, ↓rB3_m, wB2_m, wB3_m, ↓rL_m, wL_m, ↓rQ_m, wQ_m, ↓lI_m, pI_m, pL_m, pR_m, sI_m, sBy_m, sBo_m, sL_m, sQ_m, fst_m, true_and, and_true, tg_some, ln_some, uI_1, uI_2, uL_1, uL_2, uL_3, uQ_1, uQ_2, uQ_3, rv_i, rv_l, rv_n, rv_b0, rv_b1, RMR, ne_eq, reduceCtorEq, not_false_eq_true, Option.getD_some, if_true, if_false, and_self, false_and, and_false, Nat.add_left_cancel_iff, Nat.add_eq_left, Nat.left_eq_add, Nat.one_ne_zero, Nat.reduceAdd, Nat.reduceLT, Nat.reduceLeDiff, Nat.reduceEqDiff, true_implies, false_implies, implies_true, Option.some.injEq, forall_eq', forall_eq, reduceCtorEq, brT, brF, br_s, i_10, i_01, ib_0_2, ib_1_2, tn_0, tn_1, Int32.le_refl, eq_self, rv_bN, rv_iM, c6, c7, c4]
        exact hQ
      · have c4 : (a4 = 0) ↔ True := iff_true_intro (e4.mpr h4)
        by_cases h5 : A5
        · have c5 : (a5 = 0) ↔ False := iff_false_intro (fun q => e5.mp q h5)
          rw [iB_t ⟨⟨h6, h7⟩, Or.inr h5⟩] at hQ
          simp only [↓br_pos, ↓br_neg, ↓rF_I, ↓rF_L, ↓rF_R, ↓rF_N, rO_m, rB_m, ↓rI_m, wI_m, ↓rB2_m, ↓rB3_m, wB2_m, wB3_m, ↓rL_m, wL_m, ↓rQ_m, wQ_m, ↓lI_m, pI_m, pL_m, pR_m, sI_m, sBy_m, sBo_m, sL_m, sQ_m, fst_m, true_and, and_true, tg_some, ln_some, uI_1, uI_2, uL_1, uL_2, uL_3, uQ_1, uQ_2, uQ_3, rv_i, rv_l, rv_n, rv_b0, rv_b1, RMR, ne_eq, reduceCtorEq, not_false_eq_true, Option.getD_some, if_true, if_false, and_self, false_and, and_false, Nat.add_left_cancel_iff, Nat.add_eq_left, Nat.left_eq_add, Nat.one_ne_zero, Nat.reduceAdd, Nat.reduceLT, Nat.reduceLeDiff, Nat.reduceEqDiff, true_implies, false_implies, implies_true, Option.some.injEq, forall_eq', forall_eq, reduceCtorEq, brT, brF, br_s, i_10, i_01, ib_0_2, ib_1_2, tn_0, tn_1, Int32.le_refl, eq_self, rv_bN, rv_iM, c6, c7, c4, c5]
          exact hQ
        · have c5 : (a5 = 0) ↔ True := iff_true_intro (e5.mpr h5)
          rw [iB_f (fun q => q.2.elim h4 h5)] at hQ
          simp only [↓br_pos, ↓br_neg, ↓rF_I, ↓rF_L, ↓rF_R, ↓rF_N, rO_m, rB_m, ↓rI_m, wI_m, ↓rB2_m, ↓rB3_m, wB2_m, wB3_m, ↓rL_m, wL_m, ↓rQ_m, wQ_m, ↓lI_m, pI_m, pL_m, pR_m, sI_m, sBy_m, sBo_m, sL_m, sQ_m, fst_m, true_and, and_true, tg_some, ln_some, uI_1, uI_2, uL_1, uL_2, uL_3, uQ_1, uQ_2, uQ_3, rv_i, rv_l, rv_n, rv_b0, rv_b1, RMR, ne_eq, reduceCtorEq, not_false_eq_true, Option.getD_some, if_true, if_false, and_self, false_and, and_false, Nat.add_left_cancel_iff, Nat.add_eq_left, Nat.left_eq_add, Nat.one_ne_zero, Nat.reduceAdd, Nat.reduceLT, Nat.reduceLeDiff, Nat.reduceEqDiff, true_implies, false_implies, implies_true, Option.some.injEq, forall_eq', forall_eq, reduceCtorEq, brT, brF, br_s, i_10, i_01, ib_0_2, ib_1_2, tn_0, tn_1, Int32.le_refl, eq_self, rv_bN, rv_iM, c6, c7, c4, c5]
          exact hQ
    · have c7 : (a7 = 0) ↔ True := iff_true_intro (e7.mpr h7)
      rw [iB_f (fun q => h7 q.1.2)] at hQ
      simp only [↓br_pos, ↓br_neg, ↓rF_I, ↓rF_L, ↓rF_R, ↓rF_N, rO_m, rB_m, ↓rI_m, wI_m, ↓rB2_m, ↓rB3_m, wB2_m, wB3_m, ↓rL_m, wL_m, ↓rQ_m, wQ_m, ↓lI_m, pI_m, pL_m, pR_m, sI_m, sBy_m, sBo_m, sL_m, sQ_m, fst_m, true_and, and_true, tg_some, ln_some, uI_1, uI_2, uL_1, uL_2, uL_3, uQ_1, uQ_2, uQ_3, rv_i, rv_l, rv_n, rv_b0, rv_b1, RMR, ne_eq, reduceCtorEq, not_false_eq_true, Option.getD_some, if_true, if_false, and_self, false_and, and_false, Nat.add_left_cancel_iff, Nat.add_eq_left, Nat.left_eq_add, Nat.one_ne_zero, Nat.reduceAdd, Nat.reduceLT, Nat.reduceLeDiff, Nat.reduceEqDiff, true_implies, false_implies, implies_true, Option.some.injEq, forall_eq', forall_eq, reduceCtorEq, brT, brF, br_s, i_10, i_01, ib_0_2, ib_1_2, tn_0, tn_1, Int32.le_refl, eq_self, rv_bN, rv_iM, c6, c7]
      exact hQ
  · have c6 : (a6 = 0) ↔ True := iff_true_intro (e6.mpr h6)
    rw [iB_f (fun q => h6 q.1.1)] at hQ
    simp only [↓br_pos, ↓br_neg, ↓rF_I, ↓rF_L, ↓rF_R, ↓rF_N, rO_m, rB_m, ↓rI_m, wI_m, ↓rB2_m, ↓rB3_m, wB2_m, wB3_m, ↓rL_m, wL_m, ↓rQ_m, wQ_m, ↓lI_m, pI_m, pL_m, pR_m, sI_m, sBy_m, sBo_m, sL_m, sQ_m, fst_m, true_and, and_true, tg_some, ln_some, uI_1, uI_2, uL_1, uL_2, uL_3, uQ_1, uQ_2, uQ_3, rv_i, rv_l, rv_n, rv_b0, rv_b1, RMR, ne_eq, reduceCtorEq, not_false_eq_true, Option.getD_some, if_true, if_false, and_self, false_and, and_false, Nat.add_left_cancel_iff, Nat.add_eq_left, Nat.left_eq_add, Nat.one_ne_zero, Nat.reduceAdd, Nat.reduceLT, Nat.reduceLeDiff, Nat.reduceEqDiff, true_implies, false_implies, implies_true, Option.some.injEq, forall_eq', forall_eq, reduceCtorEq, brT, brF, br_s, i_10, i_01, ib_0_2, ib_1_2, tn_0, tn_1, Int32.le_refl, eq_self, rv_bN, rv_iM, c6]
    exact hQ
theorem lp_132' {t r d : Nat} {hp : Hp} {a2 a3 a4 a5 s0 : Int32} {A2 A4 A5 A6 : Prop} [Decidable A2] [Decidable A4] [Decidable A5] [Decidable A6] {Q : Option (Option Value) → Hp → Prop} (e2 : (a2 = 0) ↔ ¬ A2) (e4 : (a4 = 0) ↔ ¬ A4) (e5 : (a5 = 0) ↔ ¬ A5) (e6 : (s0 = 0) ↔ ¬ A6) (hQ : Q (some (some (.int (iB ((A6 ∧ (A5 ∨ ¬ A2)) ∧ (A4 ∨ A5)))))) hp) : Wp 20 132 [.ref t, .ref r, .int a2, .int a3, .int a4, .int a5, jk, jk] [.int s0] hp Q d := by
  refine b20_132 ?_
  by_cases h5 : A5
  · have c5 : (a5 = 0) ↔ False := iff_false_intro (fun q => e5.mp q h5)
    simp only [↓br_pos, ↓br_neg, ↓rF_I, ↓rF_L, ↓rF_R, ↓rF_N, rO_m, rB_m, ↓rI_m, wI_m, ↓rB2_m, ↓rB3_m, wB2_m, wB3_m, ↓rL_m, wL_m, ↓rQ_m, wQ_m, ↓lI_m, pI_m, pL_m, pR_m, sI_m, sBy_m, sBo_m, sL_m, sQ_m, fst_m, true_and, and_true, tg_some, ln_some, uI_1, uI_2, uL_1, uL_2, uL_3, uQ_1, uQ_2, uQ_3, rv_i, rv_l, rv_n, rv_b0, rv_b1, RMR, ne_eq, reduceCtorEq, not_false_eq_true, Option.getD_some, if_true, if_false, and_self, false_and, and_false, Nat.add_left_cancel_iff, Nat.add_eq_left, Nat.left_eq_add, Nat.one_ne_zero, Nat.reduceAdd, Nat.reduceLT, Nat.reduceLeDiff, Nat.reduceEqDiff, true_implies, false_implies, implies_true, Option.some.injEq, forall_eq', forall_eq, reduceCtorEq, brT, brF, br_s, i_10, i_01, ib_0_2, ib_1_2, tn_0, tn_1, Int32.le_refl, eq_self, rv_bN, rv_iM, c5]
    exact b20_143 (b20_148 (lp_150' (A7 := A5 ∨ ¬ A2) e4 e5 e6 ⟨fun q => absurd q (by decide), fun q => absurd (Or.inl h5) q⟩ hQ))
  · have c5 : (a5 = 0) ↔ True := iff_true_intro (e5.mpr h5)
    by_cases h2 : A2
    · have c2 : (a2 = 0) ↔ False := iff_false_intro (fun q => e2.mp q h2)
      simp only [↓br_pos, ↓br_neg, ↓rF_I, ↓rF_L, ↓rF_R, ↓rF_N, rO_m, rB_m, ↓rI_m, wI_m, ↓rB2_m, ↓rB3_m, wB2_m, wB3_m, ↓rL_m, wL_m, ↓rQ_m, wQ_m, ↓lI_m, pI_m, pL_m, pR_m, sI_m, sBy_m, sBo_m, sL_m, sQ_m, fst_m, true_and, and_true, tg_some, ln_some, uI_1, uI_2, uL_1, uL_2, uL_3, uQ_1, uQ_2, uQ_3, rv_i, rv_l, rv_n, rv_b0, rv_b1, RMR, ne_eq, reduceCtorEq, not_false_eq_true, Option.getD_some, if_true, if_false, and_self, false_and, and_false, Nat.add_left_cancel_iff, Nat.add_eq_left, Nat.left_eq_add, Nat.one_ne_zero, Nat.reduceAdd, Nat.reduceLT, Nat.reduceLeDiff, Nat.reduceEqDiff, true_implies, false_implies, implies_true, Option.some.injEq, forall_eq', forall_eq, reduceCtorEq, brT, brF, br_s, i_10, i_01, ib_0_2, ib_1_2, tn_0, tn_1, Int32.le_refl, eq_self, rv_bN, rv_iM, c5, c2]
      exact b20_148 (lp_150' (A7 := A5 ∨ ¬ A2) e4 e5 e6 ⟨fun _ => fun q => q.elim h5 (fun z => z h2), fun _ => rfl⟩ hQ)
    · have c2 : (a2 = 0) ↔ True := iff_true_intro (e2.mpr h2)
      simp only [↓br_pos, ↓br_neg, ↓rF_I, ↓rF_L, ↓rF_R, ↓rF_N, rO_m, rB_m, ↓rI_m, wI_m, ↓rB2_m, ↓rB3_m, wB2_m, wB3_m, ↓rL_m, wL_m, ↓rQ_m, wQ_m, ↓lI_m, pI_m, pL_m, pR_m, sI_m, sBy_m, sBo_m, sL_m, sQ_m, fst_m, true_and, and_true, tg_some, ln_some, uI_1, uI_2, uL_1, uL_2, uL_3, uQ_1, uQ_2, uQ_3, rv_i, rv_l, rv_n, rv_b0, rv_b1, RMR, ne_eq, reduceCtorEq, not_false_eq_true, Option.getD_some, if_true, if_false, and_self, false_and, and_false, Nat.add_left_cancel_iff, Nat.add_eq_left, Nat.left_eq_add, Nat.one_ne_zero, Nat.reduceAdd, Nat.reduceLT, Nat.reduceLeDiff, Nat.reduceEqDiff, true_implies, false_implies, implies_true, Option.some.injEq, forall_eq', forall_eq, reduceCtorEq, brT, brF, br_s, i_10, i_01, ib_0_2, ib_1_2, tn_0, tn_1, Int32.le_refl, eq_self, rv_bN, rv_iM, c5, c2]
      exact b20_143 (b20_148 (lp_150' (A7 := A5 ∨ ¬ A2) e4 e5 e6 ⟨fun q => absurd q (by decide), fun q => absurd (Or.inr h2) q⟩ hQ))
theorem lp_106' {w : mT} {σ : mS} {t r d : Nat} {a2 a3 a4 a5 s0 s1 v0 v1 : Int32} {A2 A3 A4 A5 : Prop} [Decidable A2] [Decidable A3] [Decidable A4] [Decidable A5] {Q : Option (Option Value) → Hp → Prop} (hR : isS w r) (e2 : (a2 = 0) ↔ ¬ A2) (e3 : (a3 = 0) ↔ ¬ A3) (e4 : (a4 = 0) ↔ ¬ A4) (e5 : (a5 = 0) ↔ ¬ A5) (hv0 : s1 + s0 = v0) (hv1 : σ.1 r 1 + 1 = v1) (hQ : Q (some (some (.int (iB (((A4 ∨ ¬ A3) ∧ (A5 ∨ ¬ A2)) ∧ (A4 ∨ A5)))))) (mW w (uI (uI σ (r + 11) 0 v0) r 1 v1))) : Wp 20 106 [.ref t, .ref r, .int a2, .int a3, .int a4, .int a5, jk, jk] [.int s0, .int s1, .int (0 : Int32), .ref (r + 11)] (mW w σ) Q d := by
  simp only [isS] at hR
  subst hv0
  subst hv1
  refine b20_106 ?_
  have nr : (r = r + 11) ↔ False := iff_false_intro (by omega)
  by_cases h4 : A4
  · have c4 : (a4 = 0) ↔ False := iff_false_intro (fun q => e4.mp q h4)
    simp only [↓br_pos, ↓br_neg, ↓rF_I, ↓rF_L, ↓rF_R, ↓rF_N, rO_m, rB_m, ↓rI_m, wI_m, ↓rB2_m, ↓rB3_m, wB2_m, wB3_m, ↓rL_m, wL_m, ↓rQ_m, wQ_m, ↓lI_m, pI_m, pL_m, pR_m, sI_m, sBy_m, sBo_m, sL_m, sQ_m, fst_m, true_and, and_true, tg_some, ln_some, uI_1, uI_2, uL_1, uL_2, uL_3, uQ_1, uQ_2, uQ_3, rv_i, rv_l, rv_n, rv_b0, rv_b1, RMR, ne_eq, reduceCtorEq, not_false_eq_true, Option.getD_some, if_true, if_false, and_self, false_and, and_false, Nat.add_left_cancel_iff, Nat.add_eq_left, Nat.left_eq_add, Nat.one_ne_zero, Nat.reduceAdd, Nat.reduceLT, Nat.reduceLeDiff, Nat.reduceEqDiff, true_implies, false_implies, implies_true, Option.some.injEq, forall_eq', forall_eq, reduceCtorEq, brT, brF, br_s, i_10, i_01, ib_0_2, ib_1_2, tn_0, tn_1, Int32.le_refl, eq_self, rv_bN, rv_iM, RCS r, hR, c4, nr]
    exact b20_127 (lp_132' (A6 := A4 ∨ ¬ A3) e2 e4 e5 ⟨fun q => absurd q (by decide), fun q => absurd (Or.inl h4) q⟩ hQ)
  · have c4 : (a4 = 0) ↔ True := iff_true_intro (e4.mpr h4)
    by_cases h3 : A3
    · have c3 : (a3 = 0) ↔ False := iff_false_intro (fun q => e3.mp q h3)
      simp only [↓br_pos, ↓br_neg, ↓rF_I, ↓rF_L, ↓rF_R, ↓rF_N, rO_m, rB_m, ↓rI_m, wI_m, ↓rB2_m, ↓rB3_m, wB2_m, wB3_m, ↓rL_m, wL_m, ↓rQ_m, wQ_m, ↓lI_m, pI_m, pL_m, pR_m, sI_m, sBy_m, sBo_m, sL_m, sQ_m, fst_m, true_and, and_true, tg_some, ln_some, uI_1, uI_2, uL_1, uL_2, uL_3, uQ_1, uQ_2, uQ_3, rv_i, rv_l, rv_n, rv_b0, rv_b1, RMR, ne_eq, reduceCtorEq, not_false_eq_true, Option.getD_some, if_true, if_false, and_self, false_and, and_false, Nat.add_left_cancel_iff, Nat.add_eq_left, Nat.left_eq_add, Nat.one_ne_zero, Nat.reduceAdd, Nat.reduceLT, Nat.reduceLeDiff, Nat.reduceEqDiff, true_implies, false_implies, implies_true, Option.some.injEq, forall_eq', forall_eq, reduceCtorEq, brT, brF, br_s, i_10, i_01, ib_0_2, ib_1_2, tn_0, tn_1, Int32.le_refl, eq_self, rv_bN, rv_iM, RCS r, hR, c4, c3, nr]
      exact lp_132' (A6 := A4 ∨ ¬ A3) e2 e4 e5 ⟨fun _ => fun q => q.elim h4 (fun z => z h3), fun _ => rfl⟩ hQ
    · have c3 : (a3 = 0) ↔ True := iff_true_intro (e3.mpr h3)
      simp only [↓br_pos, ↓br_neg, ↓rF_I, ↓rF_L, ↓rF_R, ↓rF_N, rO_m, rB_m, ↓rI_m, wI_m, ↓rB2_m, ↓rB3_m, wB2_m, wB3_m, ↓rL_m, wL_m, ↓rQ_m, wQ_m, ↓lI_m, pI_m, pL_m, pR_m, sI_m, sBy_m, sBo_m, sL_m, sQ_m, fst_m, true_and, and_true, tg_some, ln_some, uI_1, uI_2, uL_1, uL_2, uL_3, uQ_1, uQ_2, uQ_3, rv_i, rv_l, rv_n, rv_b0, rv_b1, RMR, ne_eq, reduceCtorEq, not_false_eq_true, Option.getD_some, if_true, if_false, and_self, false_and, and_false, Nat.add_left_cancel_iff, Nat.add_eq_left, Nat.left_eq_add, Nat.one_ne_zero, Nat.reduceAdd, Nat.reduceLT, Nat.reduceLeDiff, Nat.reduceEqDiff, true_implies, false_implies, implies_true, Option.some.injEq, forall_eq', forall_eq, reduceCtorEq, brT, brF, br_s, i_10, i_01, ib_0_2, ib_1_2, tn_0, tn_1, Int32.le_refl, eq_self, rv_bN, rv_iM, RCS r, hR, c4, c3, nr]
      exact b20_127 (lp_132' (A6 := A4 ∨ ¬ A3) e2 e4 e5 ⟨fun q => absurd q (by decide), fun q => absurd (Or.inr h3) q⟩ hQ)
theorem fin_st {σ : mS} {r x y : Nat} {τ ρ : Rw} (hρ : tSt σ r τ ρ) (hb : bRow τ ρ) : tSt (uI (uI (uI σ (r + 11) 1 (Int32.ofNat (ρ 9 + x))) (r + 11) 0 (Int32.ofNat (ρ 8 + y))) r 1 (Int32.ofNat (ρ 1 + 1))) r τ (rSet (rSet (rSet ρ 9 (ρ 9 + x)) 8 (ρ 8 + y)) 1 (ρ 1 + 1)) :=
  tSt_w0 (tSt_w (tSt_w hρ hb (by unfold in0; omega) (by decide) (tv_0 (by decide)).symm (by omega)) (bRow_c hb (cnt_set (by omega))) (by unfold in0; omega) (by decide) (tv_0 (by decide)).symm (by omega)) (bRow_c (bRow_c hb (cnt_set (by omega))) (cnt_set (by omega))) (by unfold in0; omega) (by decide) (tv_0 (by decide)).symm (by omega)
theorem l_50 {w : mT} {σ : mS} {r t : Nat} {τ ρ : Rw} (hR : isS w r) (hT : isT w t) (hd : t + 10 ≤ r ∨ r + 14 ≤ t) (hρ : tSt σ r τ (mR1 τ ρ)) (hτ : tTold σ t τ) (hv : vTold τ) (h : vRow τ ρ) : ∃ σ', frR r (r + 14) σ σ' ∧ tSt σ' r τ (sMin τ ρ) ∧ ∀ {d : Nat} {a2 a3 a4 : Int32} {Q : Option (Option Value) → Hp → Prop}, 5 ≤ d → ((a2 = 0) ↔ ¬ 0 < ρ 10) → ((a3 = 0) ↔ ¬ 0 < ρ 11) → ((a4 = 0) ↔ ¬ mW1 τ ρ = true) → Q (some (some (.int (iB (mPs τ ρ))))) (mW w σ') → Wp 20 50 [.ref t, .ref r, .int a2, .int a3, .int a4, jk, jk, jk] [] (mW w σ) Q d := by
  have hR' := hR
  simp only [isS] at hR'
  have h1 := vRow_m1 hv h
  have nr : (r = r + 11) ↔ False := iff_false_intro (by omega)
  by_cases b0 : 0 < ρ 10
  · have b0' : 0 < mR1 τ ρ 10 := by rw [m1_10 hv h]; exact b0
    obtain ⟨σ2, f2, t2, k2⟩ := g_21 (m := 0) hR hT hd hρ hτ hv h1 (by omega) b0'
    have k2' : ∀ {D : Nat} {K : Int32 → Hp → Prop}, 5 ≤ D → (wpI D 21 [.ref t, .ref r, .int (0 : Int32)] (mW w σ) K ↔ K (iB (kW τ (mR1 τ ρ) 0 = true)) (mW w σ2)) := fun hD => k2 hD
    have hm0 : mR0 τ ρ = kSt τ (mR1 τ ρ) 0 := by unfold mR0; rw [if_pos b0]
    have hw0 : mW0 τ ρ = kW τ (mR1 τ ρ) 0 := by unfold mW0; rw [if_pos b0]
    rw [← hm0] at t2
    have hb2 := vRow_b hv (vRow_m0 hv h)
    have r9 : σ2.1 (r + 11) 1 = Int32.ofNat (mR0 τ ρ 9) := tS_wt t2 (by omega : 1 < 2)
    have r8 : σ2.1 (r + 11) 0 = Int32.ofNat (mR0 τ ρ 8) := tS_wt t2 (by omega : 0 < 2)
    have r1 := tS_mi t2
    refine ⟨_, frR_tr f2 (frR_tr (frR_tr (frR_I (by omega)) (frR_I (by omega))) (frR_I (by omega))), fin_st t2 hb2, fun hdd e2 e3 e4 hQ => ?_⟩
    have c2 : (_ = (0 : Int32)) ↔ False := iff_false_intro (fun q => e2.mp q b0)
    refine b20_50 ?_
    by_cases w0 : kW τ (mR1 τ ρ) 0 = true
    · have z0 : iB (kW τ (mR1 τ ρ) 0 = true) = 1 := iB_t w0
      have y0 : mW0 τ ρ = true := by rw [hw0]; exact w0
      by_cases w1 : mW1 τ ρ = true
      · have c4 : (_ = (0 : Int32)) ↔ False := iff_false_intro (fun q => e4.mp q w1)
        rw [if_pos w1, if_pos y0] at hQ
        simp only [↓br_pos, ↓br_neg, ↓rF_I, ↓rF_L, ↓rF_R, ↓rF_N, rO_m, rB_m, ↓rI_m, wI_m, ↓rB2_m, ↓rB3_m, wB2_m, wB3_m, ↓rL_m, wL_m, ↓rQ_m, wQ_m, ↓lI_m, pI_m, pL_m, pR_m, sI_m, sBy_m, sBo_m, sL_m, sQ_m, fst_m, true_and, and_true, tg_some, ln_some, uI_1, uI_2, uL_1, uL_2, uL_3, uQ_1, uQ_2, uQ_3, rv_i, rv_l, rv_n, rv_b0, rv_b1, RMR, ne_eq, reduceCtorEq, not_false_eq_true, Option.getD_some, if_true, if_false, and_self, false_and, and_false, Nat.add_left_cancel_iff, Nat.add_eq_left, Nat.left_eq_add, Nat.one_ne_zero, Nat.reduceAdd, Nat.reduceLT, Nat.reduceLeDiff, Nat.reduceEqDiff, true_implies, false_implies, implies_true, Option.some.injEq, forall_eq', forall_eq, reduceCtorEq, brT, brF, br_s, i_10, i_01, ib_0_2, ib_1_2, tn_0, tn_1, Int32.le_refl, eq_self, rv_bN, rv_iM, RCS r, hR', c2, c4, k2' hdd, z0, r9, r8, on_succ]
        exact lp_106' (A2 := 0 < ρ 10) (A3 := 0 < ρ 11) (A4 := mW1 τ ρ = true) (A5 := mW0 τ ρ = true) hR e2 e3 e4 ⟨fun q => absurd q (by decide), fun q => absurd y0 q⟩ on_succ (by rw [uI_1, if_neg (fun q => nr.mp q.1), r1, on_succ]) hQ
      · have c4 : (_ = (0 : Int32)) ↔ True := iff_true_intro (e4.mpr w1)
        rw [if_neg w1, if_pos y0] at hQ
        have a0 : Int32.ofNat (mR0 τ ρ 9) + 0 = Int32.ofNat (mR0 τ ρ 9 + 0) := of_add
        simp only [↓br_pos, ↓br_neg, ↓rF_I, ↓rF_L, ↓rF_R, ↓rF_N, rO_m, rB_m, ↓rI_m, wI_m, ↓rB2_m, ↓rB3_m, wB2_m, wB3_m, ↓rL_m, wL_m, ↓rQ_m, wQ_m, ↓lI_m, pI_m, pL_m, pR_m, sI_m, sBy_m, sBo_m, sL_m, sQ_m, fst_m, true_and, and_true, tg_some, ln_some, uI_1, uI_2, uL_1, uL_2, uL_3, uQ_1, uQ_2, uQ_3, rv_i, rv_l, rv_n, rv_b0, rv_b1, RMR, ne_eq, reduceCtorEq, not_false_eq_true, Option.getD_some, if_true, if_false, and_self, false_and, and_false, Nat.add_left_cancel_iff, Nat.add_eq_left, Nat.left_eq_add, Nat.one_ne_zero, Nat.reduceAdd, Nat.reduceLT, Nat.reduceLeDiff, Nat.reduceEqDiff, true_implies, false_implies, implies_true, Option.some.injEq, forall_eq', forall_eq, reduceCtorEq, brT, brF, br_s, i_10, i_01, ib_0_2, ib_1_2, tn_0, tn_1, Int32.le_refl, eq_self, rv_bN, rv_iM, RCS r, hR', c2, c4, k2' hdd, z0, r9, r8, a0]
        exact lp_106' (A2 := 0 < ρ 10) (A3 := 0 < ρ 11) (A4 := mW1 τ ρ = true) (A5 := mW0 τ ρ = true) hR e2 e3 e4 ⟨fun q => absurd q (by decide), fun q => absurd y0 q⟩ on_succ (by rw [uI_1, if_neg (fun q => nr.mp q.1), r1, on_succ]) hQ
    · have z0 : iB (kW τ (mR1 τ ρ) 0 = true) = 0 := iB_f w0
      have y0 : ¬ mW0 τ ρ = true := by rw [hw0]; exact w0
      by_cases w1 : mW1 τ ρ = true
      · have c4 : (_ = (0 : Int32)) ↔ False := iff_false_intro (fun q => e4.mp q w1)
        rw [if_pos w1, if_neg y0] at hQ
        simp only [↓br_pos, ↓br_neg, ↓rF_I, ↓rF_L, ↓rF_R, ↓rF_N, rO_m, rB_m, ↓rI_m, wI_m, ↓rB2_m, ↓rB3_m, wB2_m, wB3_m, ↓rL_m, wL_m, ↓rQ_m, wQ_m, ↓lI_m, pI_m, pL_m, pR_m, sI_m, sBy_m, sBo_m, sL_m, sQ_m, fst_m, true_and, and_true, tg_some, ln_some, uI_1, uI_2, uL_1, uL_2, uL_3, uQ_1, uQ_2, uQ_3, rv_i, rv_l, rv_n, rv_b0, rv_b1, RMR, ne_eq, reduceCtorEq, not_false_eq_true, Option.getD_some, if_true, if_false, and_self, false_and, and_false, Nat.add_left_cancel_iff, Nat.add_eq_left, Nat.left_eq_add, Nat.one_ne_zero, Nat.reduceAdd, Nat.reduceLT, Nat.reduceLeDiff, Nat.reduceEqDiff, true_implies, false_implies, implies_true, Option.some.injEq, forall_eq', forall_eq, reduceCtorEq, brT, brF, br_s, i_10, i_01, ib_0_2, ib_1_2, tn_0, tn_1, Int32.le_refl, eq_self, rv_bN, rv_iM, RCS r, hR', c2, c4, k2' hdd, z0, r9, r8, on_succ]
        exact lp_106' (A2 := 0 < ρ 10) (A3 := 0 < ρ 11) (A4 := mW1 τ ρ = true) (A5 := mW0 τ ρ = true) hR e2 e3 e4 ⟨fun _ => y0, fun _ => rfl⟩ of_add (by rw [uI_1, if_neg (fun q => nr.mp q.1), r1, on_succ]) hQ
      · have c4 : (_ = (0 : Int32)) ↔ True := iff_true_intro (e4.mpr w1)
        rw [if_neg w1, if_neg y0] at hQ
        have a0 : Int32.ofNat (mR0 τ ρ 9) + 0 = Int32.ofNat (mR0 τ ρ 9 + 0) := of_add
        simp only [↓br_pos, ↓br_neg, ↓rF_I, ↓rF_L, ↓rF_R, ↓rF_N, rO_m, rB_m, ↓rI_m, wI_m, ↓rB2_m, ↓rB3_m, wB2_m, wB3_m, ↓rL_m, wL_m, ↓rQ_m, wQ_m, ↓lI_m, pI_m, pL_m, pR_m, sI_m, sBy_m, sBo_m, sL_m, sQ_m, fst_m, true_and, and_true, tg_some, ln_some, uI_1, uI_2, uL_1, uL_2, uL_3, uQ_1, uQ_2, uQ_3, rv_i, rv_l, rv_n, rv_b0, rv_b1, RMR, ne_eq, reduceCtorEq, not_false_eq_true, Option.getD_some, if_true, if_false, and_self, false_and, and_false, Nat.add_left_cancel_iff, Nat.add_eq_left, Nat.left_eq_add, Nat.one_ne_zero, Nat.reduceAdd, Nat.reduceLT, Nat.reduceLeDiff, Nat.reduceEqDiff, true_implies, false_implies, implies_true, Option.some.injEq, forall_eq', forall_eq, reduceCtorEq, brT, brF, br_s, i_10, i_01, ib_0_2, ib_1_2, tn_0, tn_1, Int32.le_refl, eq_self, rv_bN, rv_iM, RCS r, hR', c2, c4, k2' hdd, z0, r9, r8, a0]
        exact lp_106' (A2 := 0 < ρ 10) (A3 := 0 < ρ 11) (A4 := mW1 τ ρ = true) (A5 := mW0 τ ρ = true) hR e2 e3 e4 ⟨fun _ => y0, fun _ => rfl⟩ of_add (by rw [uI_1, if_neg (fun q => nr.mp q.1), r1, on_succ]) hQ
  · have hm0 : mR0 τ ρ = mR1 τ ρ := by unfold mR0; rw [if_neg b0]
    have hw0 : mW0 τ ρ = false := by unfold mW0; rw [if_neg b0]
    have t2 := hρ
    rw [← hm0] at t2
    have hb2 := vRow_b hv (vRow_m0 hv h)
    have r9 : σ.1 (r + 11) 1 = Int32.ofNat (mR0 τ ρ 9) := tS_wt t2 (by omega : 1 < 2)
    have r8 : σ.1 (r + 11) 0 = Int32.ofNat (mR0 τ ρ 8) := tS_wt t2 (by omega : 0 < 2)
    have r1 := tS_mi t2
    refine ⟨_, (frR_tr (frR_tr (frR_I (by omega)) (frR_I (by omega))) (frR_I (by omega))), fin_st t2 hb2, fun hdd e2 e3 e4 hQ => ?_⟩
    have c2 : (_ = (0 : Int32)) ↔ True := iff_true_intro (e2.mpr b0)
    have y0 : ¬ mW0 τ ρ = true := by rw [hw0]; decide
    refine b20_50 ?_
    by_cases w1 : mW1 τ ρ = true
    · have c4 : (_ = (0 : Int32)) ↔ False := iff_false_intro (fun q => e4.mp q w1)
      rw [if_pos w1, if_neg y0] at hQ
      simp only [↓br_pos, ↓br_neg, ↓rF_I, ↓rF_L, ↓rF_R, ↓rF_N, rO_m, rB_m, ↓rI_m, wI_m, ↓rB2_m, ↓rB3_m, wB2_m, wB3_m, ↓rL_m, wL_m, ↓rQ_m, wQ_m, ↓lI_m, pI_m, pL_m, pR_m, sI_m, sBy_m, sBo_m, sL_m, sQ_m, fst_m, true_and, and_true, tg_some, ln_some, uI_1, uI_2, uL_1, uL_2, uL_3, uQ_1, uQ_2, uQ_3, rv_i, rv_l, rv_n, rv_b0, rv_b1, RMR, ne_eq, reduceCtorEq, not_false_eq_true, Option.getD_some, if_true, if_false, and_self, false_and, and_false, Nat.add_left_cancel_iff, Nat.add_eq_left, Nat.left_eq_add, Nat.one_ne_zero, Nat.reduceAdd, Nat.reduceLT, Nat.reduceLeDiff, Nat.reduceEqDiff, true_implies, false_implies, implies_true, Option.some.injEq, forall_eq', forall_eq, reduceCtorEq, brT, brF, br_s, i_10, i_01, ib_0_2, ib_1_2, tn_0, tn_1, Int32.le_refl, eq_self, rv_bN, rv_iM, RCS r, hR', c2, c4, r9, r8, on_succ]
      exact lp_106' (A2 := 0 < ρ 10) (A3 := 0 < ρ 11) (A4 := mW1 τ ρ = true) (A5 := mW0 τ ρ = true) hR e2 e3 e4 ⟨fun _ => y0, fun _ => rfl⟩ of_add (by rw [uI_1, if_neg (fun q => nr.mp q.1), r1, on_succ]) hQ
    · have c4 : (_ = (0 : Int32)) ↔ True := iff_true_intro (e4.mpr w1)
      rw [if_neg w1, if_neg y0] at hQ
      have a0 : Int32.ofNat (mR0 τ ρ 9) + 0 = Int32.ofNat (mR0 τ ρ 9 + 0) := of_add
      simp only [↓br_pos, ↓br_neg, ↓rF_I, ↓rF_L, ↓rF_R, ↓rF_N, rO_m, rB_m, ↓rI_m, wI_m, ↓rB2_m, ↓rB3_m, wB2_m, wB3_m, ↓rL_m, wL_m, ↓rQ_m, wQ_m, ↓lI_m, pI_m, pL_m, pR_m, sI_m, sBy_m, sBo_m, sL_m, sQ_m, fst_m, true_and, and_true, tg_some, ln_some, uI_1, uI_2, uL_1, uL_2, uL_3, uQ_1, uQ_2, uQ_3, rv_i, rv_l, rv_n, rv_b0, rv_b1, RMR, ne_eq, reduceCtorEq, not_false_eq_true, Option.getD_some, if_true, if_false, and_self, false_and, and_false, Nat.add_left_cancel_iff, Nat.add_eq_left, Nat.left_eq_add, Nat.one_ne_zero, Nat.reduceAdd, Nat.reduceLT, Nat.reduceLeDiff, Nat.reduceEqDiff, true_implies, false_implies, implies_true, Option.some.injEq, forall_eq', forall_eq, reduceCtorEq, brT, brF, br_s, i_10, i_01, ib_0_2, ib_1_2, tn_0, tn_1, Int32.le_refl, eq_self, rv_bN, rv_iM, RCS r, hR', c2, c4, r9, r8, a0]
      exact lp_106' (A2 := 0 < ρ 10) (A3 := 0 < ρ 11) (A4 := mW1 τ ρ = true) (A5 := mW0 τ ρ = true) hR e2 e3 e4 ⟨fun _ => y0, fun _ => rfl⟩ of_add (by rw [uI_1, if_neg (fun q => nr.mp q.1), r1, on_succ]) hQ
theorem g_20 {w : mT} {σ : mS} {r t : Nat} {τ ρ : Rw} (hR : isS w r) (hT : isT w t) (hd : t + 10 ≤ r ∨ r + 14 ≤ t) (hρ : tSt σ r τ ρ) (hτ : tTold σ t τ) (hv : vTold τ) (h : vRow τ ρ) : ∃ σ', frR r (r + 14) σ σ' ∧ tSt σ' r τ (sMin τ ρ) ∧ ∀ {D : Nat} {K : Int32 → Hp → Prop}, 6 ≤ D → (wpI D 20 [.ref t, .ref r] (mW w σ) K ↔ K (iB (mPs τ ρ)) (mW w σ')) := by
  have hR' := hR
  simp only [isS] at hR'
  have e0 : σ.1 (r + 12) 0 = Int32.ofNat (ρ 10) := tS_or hρ (by omega : 0 < 2)
  have e1 : σ.1 (r + 12) 1 = Int32.ofNat (ρ 11) := tS_or hρ (by omega : 1 < 2)
  have v0 := vR_c0 h
  have v1 := vR_c1 h
  have le0 := of_le0 (a := ρ 10) (by omega)
  have le1 := of_le0 (a := ρ 11) (by omega)
  have y1 : ((1 : Int32) = 0) ↔ ¬ True := by decide
  by_cases b1 : 0 < ρ 11
  · obtain ⟨σ1, f1, t1, k1⟩ := g_21 (m := 1) hR hT hd hρ hτ hv h (by omega) b1
    have hm1 : mR1 τ ρ = kSt τ ρ 1 := by unfold mR1; rw [if_pos b1]
    have hw1 : mW1 τ ρ = kW τ ρ 1 := by unfold mW1; rw [if_pos b1]
    rw [← hm1] at t1
    have k1' : ∀ {D : Nat} {K : Int32 → Hp → Prop}, 5 ≤ D → (wpI D 21 [.ref t, .ref r, .int (1 : Int32)] (mW w σ) K ↔ K (iB (kW τ ρ 1 = true)) (mW w σ1)) := fun hD => k1 hD
    obtain ⟨σ2, f2, t2, k2⟩ := l_50 hR hT hd t1 (tTold_R hτ f1 (by omega)) hv h
    refine ⟨σ2, frR_tr f1 f2, t2, fun hD => cI_of (m := 5) (fun d hd Q hQ => ?_) rfl hD⟩
    have c1 : (Int32.ofNat (ρ 11) ≤ 0) ↔ False := iff_false_intro (fun q => by have := le1.mp q; omega)
    refine b20_0 ?_
    by_cases b0 : 0 < ρ 10
    · have c0 : (Int32.ofNat (ρ 10) ≤ 0) ↔ False := iff_false_intro (fun q => by have := le0.mp q; omega)
      by_cases w1 : kW τ ρ 1 = true
      · have z1 : iB (kW τ ρ 1 = true) = 1 := iB_t w1
        simp only [↓br_pos, ↓br_neg, ↓rF_I, ↓rF_L, ↓rF_R, ↓rF_N, rO_m, rB_m, ↓rI_m, wI_m, ↓rB2_m, ↓rB3_m, wB2_m, wB3_m, ↓rL_m, wL_m, ↓rQ_m, wQ_m, ↓lI_m, pI_m, pL_m, pR_m, sI_m, sBy_m, sBo_m, sL_m, sQ_m, fst_m, true_and, and_true, tg_some, ln_some, uI_1, uI_2, uL_1, uL_2, uL_3, uQ_1, uQ_2, uQ_3, rv_i, rv_l, rv_n, rv_b0, rv_b1, RMR, ne_eq, reduceCtorEq, not_false_eq_true, Option.getD_some, if_true, if_false, and_self, false_and, and_false, Nat.add_left_cancel_iff, Nat.add_eq_left, Nat.left_eq_add, Nat.one_ne_zero, Nat.reduceAdd, Nat.reduceLT, Nat.reduceLeDiff, Nat.reduceEqDiff, true_implies, false_implies, implies_true, Option.some.injEq, forall_eq', forall_eq, reduceCtorEq, brT, brF, br_s, i_10, i_01, ib_0_2, ib_1_2, tn_0, tn_1, Int32.le_refl, eq_self, rv_bN, rv_iM, RCS r, hR', e0, e1, c0, c1, k1' hd, z1]
        exact k2 hd ⟨fun q => absurd q (by decide), fun q => absurd b0 q⟩ ⟨fun q => absurd q (by decide), fun q => absurd b1 q⟩ ⟨fun q => absurd q (by decide), fun q => absurd (by rw [hw1]; exact w1) q⟩ hQ
      · have z1 : iB (kW τ ρ 1 = true) = 0 := iB_f w1
        simp only [↓br_pos, ↓br_neg, ↓rF_I, ↓rF_L, ↓rF_R, ↓rF_N, rO_m, rB_m, ↓rI_m, wI_m, ↓rB2_m, ↓rB3_m, wB2_m, wB3_m, ↓rL_m, wL_m, ↓rQ_m, wQ_m, ↓lI_m, pI_m, pL_m, pR_m, sI_m, sBy_m, sBo_m, sL_m, sQ_m, fst_m, true_and, and_true, tg_some, ln_some, uI_1, uI_2, uL_1, uL_2, uL_3, uQ_1, uQ_2, uQ_3, rv_i, rv_l, rv_n, rv_b0, rv_b1, RMR, ne_eq, reduceCtorEq, not_false_eq_true, Option.getD_some, if_true, if_false, and_self, false_and, and_false, Nat.add_left_cancel_iff, Nat.add_eq_left, Nat.left_eq_add, Nat.one_ne_zero, Nat.reduceAdd, Nat.reduceLT, Nat.reduceLeDiff, Nat.reduceEqDiff, true_implies, false_implies, implies_true, Option.some.injEq, forall_eq', forall_eq, reduceCtorEq, brT, brF, br_s, i_10, i_01, ib_0_2, ib_1_2, tn_0, tn_1, Int32.le_refl, eq_self, rv_bN, rv_iM, RCS r, hR', e0, e1, c0, c1, k1' hd, z1]
        exact k2 hd ⟨fun q => absurd q (by decide), fun q => absurd b0 q⟩ ⟨fun q => absurd q (by decide), fun q => absurd b1 q⟩ ⟨fun _ => by rw [hw1]; exact w1, fun _ => rfl⟩ hQ
    · have c0 : (Int32.ofNat (ρ 10) ≤ 0) ↔ True := iff_true_intro (le0.mpr (by omega))
      by_cases w1 : kW τ ρ 1 = true
      · have z1 : iB (kW τ ρ 1 = true) = 1 := iB_t w1
        simp only [↓br_pos, ↓br_neg, ↓rF_I, ↓rF_L, ↓rF_R, ↓rF_N, rO_m, rB_m, ↓rI_m, wI_m, ↓rB2_m, ↓rB3_m, wB2_m, wB3_m, ↓rL_m, wL_m, ↓rQ_m, wQ_m, ↓lI_m, pI_m, pL_m, pR_m, sI_m, sBy_m, sBo_m, sL_m, sQ_m, fst_m, true_and, and_true, tg_some, ln_some, uI_1, uI_2, uL_1, uL_2, uL_3, uQ_1, uQ_2, uQ_3, rv_i, rv_l, rv_n, rv_b0, rv_b1, RMR, ne_eq, reduceCtorEq, not_false_eq_true, Option.getD_some, if_true, if_false, and_self, false_and, and_false, Nat.add_left_cancel_iff, Nat.add_eq_left, Nat.left_eq_add, Nat.one_ne_zero, Nat.reduceAdd, Nat.reduceLT, Nat.reduceLeDiff, Nat.reduceEqDiff, true_implies, false_implies, implies_true, Option.some.injEq, forall_eq', forall_eq, reduceCtorEq, brT, brF, br_s, i_10, i_01, ib_0_2, ib_1_2, tn_0, tn_1, Int32.le_refl, eq_self, rv_bN, rv_iM, RCS r, hR', e0, e1, c0, c1, k1' hd, z1]
        exact k2 hd ⟨fun _ => b0, fun _ => rfl⟩ ⟨fun q => absurd q (by decide), fun q => absurd b1 q⟩ ⟨fun q => absurd q (by decide), fun q => absurd (by rw [hw1]; exact w1) q⟩ hQ
      · have z1 : iB (kW τ ρ 1 = true) = 0 := iB_f w1
        simp only [↓br_pos, ↓br_neg, ↓rF_I, ↓rF_L, ↓rF_R, ↓rF_N, rO_m, rB_m, ↓rI_m, wI_m, ↓rB2_m, ↓rB3_m, wB2_m, wB3_m, ↓rL_m, wL_m, ↓rQ_m, wQ_m, ↓lI_m, pI_m, pL_m, pR_m, sI_m, sBy_m, sBo_m, sL_m, sQ_m, fst_m, true_and, and_true, tg_some, ln_some, uI_1, uI_2, uL_1, uL_2, uL_3, uQ_1, uQ_2, uQ_3, rv_i, rv_l, rv_n, rv_b0, rv_b1, RMR, ne_eq, reduceCtorEq, not_false_eq_true, Option.getD_some, if_true, if_false, and_self, false_and, and_false, Nat.add_left_cancel_iff, Nat.add_eq_left, Nat.left_eq_add, Nat.one_ne_zero, Nat.reduceAdd, Nat.reduceLT, Nat.reduceLeDiff, Nat.reduceEqDiff, true_implies, false_implies, implies_true, Option.some.injEq, forall_eq', forall_eq, reduceCtorEq, brT, brF, br_s, i_10, i_01, ib_0_2, ib_1_2, tn_0, tn_1, Int32.le_refl, eq_self, rv_bN, rv_iM, RCS r, hR', e0, e1, c0, c1, k1' hd, z1]
        exact k2 hd ⟨fun _ => b0, fun _ => rfl⟩ ⟨fun q => absurd q (by decide), fun q => absurd b1 q⟩ ⟨fun _ => by rw [hw1]; exact w1, fun _ => rfl⟩ hQ
  · have hm1 : mR1 τ ρ = ρ := by unfold mR1; rw [if_neg b1]
    have hw1 : ¬ mW1 τ ρ = true := by unfold mW1; rw [if_neg b1]; decide
    obtain ⟨σ2, f2, t2, k2⟩ := l_50 hR hT hd (by rw [hm1]; exact hρ) hτ hv h
    refine ⟨σ2, f2, t2, fun hD => cI_of (m := 5) (fun d hd Q hQ => ?_) rfl hD⟩
    have c1 : (Int32.ofNat (ρ 11) ≤ 0) ↔ True := iff_true_intro (le1.mpr (by omega))
    refine b20_0 ?_
    by_cases b0 : 0 < ρ 10
    · have c0 : (Int32.ofNat (ρ 10) ≤ 0) ↔ False := iff_false_intro (fun q => by have := le0.mp q; omega)
      simp only [↓br_pos, ↓br_neg, ↓rF_I, ↓rF_L, ↓rF_R, ↓rF_N, rO_m, rB_m, ↓rI_m, wI_m, ↓rB2_m, ↓rB3_m, wB2_m, wB3_m, ↓rL_m, wL_m, ↓rQ_m, wQ_m, ↓lI_m, pI_m, pL_m, pR_m, sI_m, sBy_m, sBo_m, sL_m, sQ_m, fst_m, true_and, and_true, tg_some, ln_some, uI_1, uI_2, uL_1, uL_2, uL_3, uQ_1, uQ_2, uQ_3, rv_i, rv_l, rv_n, rv_b0, rv_b1, RMR, ne_eq, reduceCtorEq, not_false_eq_true, Option.getD_some, if_true, if_false, and_self, false_and, and_false, Nat.add_left_cancel_iff, Nat.add_eq_left, Nat.left_eq_add, Nat.one_ne_zero, Nat.reduceAdd, Nat.reduceLT, Nat.reduceLeDiff, Nat.reduceEqDiff, true_implies, false_implies, implies_true, Option.some.injEq, forall_eq', forall_eq, reduceCtorEq, brT, brF, br_s, i_10, i_01, ib_0_2, ib_1_2, tn_0, tn_1, Int32.le_refl, eq_self, rv_bN, rv_iM, RCS r, hR', e0, e1, c0, c1]
      exact k2 hd ⟨fun q => absurd q (by decide), fun q => absurd b0 q⟩ ⟨fun _ => b1, fun _ => rfl⟩ ⟨fun _ => hw1, fun _ => rfl⟩ hQ
    · have c0 : (Int32.ofNat (ρ 10) ≤ 0) ↔ True := iff_true_intro (le0.mpr (by omega))
      simp only [↓br_pos, ↓br_neg, ↓rF_I, ↓rF_L, ↓rF_R, ↓rF_N, rO_m, rB_m, ↓rI_m, wI_m, ↓rB2_m, ↓rB3_m, wB2_m, wB3_m, ↓rL_m, wL_m, ↓rQ_m, wQ_m, ↓lI_m, pI_m, pL_m, pR_m, sI_m, sBy_m, sBo_m, sL_m, sQ_m, fst_m, true_and, and_true, tg_some, ln_some, uI_1, uI_2, uL_1, uL_2, uL_3, uQ_1, uQ_2, uQ_3, rv_i, rv_l, rv_n, rv_b0, rv_b1, RMR, ne_eq, reduceCtorEq, not_false_eq_true, Option.getD_some, if_true, if_false, and_self, false_and, and_false, Nat.add_left_cancel_iff, Nat.add_eq_left, Nat.left_eq_add, Nat.one_ne_zero, Nat.reduceAdd, Nat.reduceLT, Nat.reduceLeDiff, Nat.reduceEqDiff, true_implies, false_implies, implies_true, Option.some.injEq, forall_eq', forall_eq, reduceCtorEq, brT, brF, br_s, i_10, i_01, ib_0_2, ib_1_2, tn_0, tn_1, Int32.le_refl, eq_self, rv_bN, rv_iM, RCS r, hR', e0, e1, c0, c1]
      exact k2 hd ⟨fun _ => b0, fun _ => rfl⟩ ⟨fun _ => b1, fun _ => rfl⟩ ⟨fun _ => hw1, fun _ => rfl⟩ hQ
end
section
/-! the class's History: what was done, images -/
def frD (lo hi : Nat) (σ σ' : mS) : Prop := ∀ a, a < 99 → (a < lo ∨ hi ≤ a) → σ'.1 a = σ.1 a ∧ σ'.2.1 a = σ.2.1 a ∧ σ'.2.2 a = σ.2.2 a
theorem frD_rf {lo hi : Nat} {σ : mS} : frD lo hi σ σ := fun _ _ _ => ⟨rfl, rfl, rfl⟩
theorem frD_tr {lo hi : Nat} {σ σ' σ'' : mS} (h : frD lo hi σ σ') (h' : frD lo hi σ' σ'') : frD lo hi σ σ'' := fun a h1 h2 => by
  obtain ⟨a1, a2, a3⟩ := h a h1 h2
  obtain ⟨b1, b2, b3⟩ := h' a h1 h2
  exact ⟨b1.trans a1, b2.trans a2, b3.trans a3⟩
theorem frD_mo {lo hi lo' hi' : Nat} {σ σ' : mS} (h : frD lo hi σ σ') (h1 : lo' ≤ lo) (h2 : hi ≤ hi') : frD lo' hi' σ σ' := fun a h3 h4 => h a h3 (by omega)
theorem frD_R {lo hi lo' hi' : Nat} {σ σ' : mS} (h : frR lo hi σ σ') (h1 : lo' ≤ lo ∧ hi ≤ hi' ∨ 99 ≤ lo) : frD lo' hi' σ σ' := fun a h3 h4 => ⟨h.1 a (by omega), by rw [h.2], by rw [h.2]⟩
theorem frD_I {lo hi : Nat} {σ : mS} {a j : Nat} {x : Int32} (h : lo ≤ a ∧ a < hi ∨ 99 ≤ a) : frD lo hi σ (uI σ a j x) := fun q h1 h2 => uI_ne (by omega)
theorem frD_Q {lo hi : Nat} {σ : mS} {a j : Nat} {x : Option Nat} (h : lo ≤ a ∧ a < hi ∨ 99 ≤ a) : frD lo hi σ (uQ σ a j x) := fun q h1 h2 => uQ_ne (by omega)
theorem frD_S {lo hi L : Nat} {σ : mS} (h : 99 ≤ L) : frD lo hi σ (zS σ L) := fun a h1 _ => ⟨zS_lt (by omega), zS_2 (by omega), zS_3 (by omega)⟩
/-- the layout only grows -/
def wExt (w w' : mT) : Prop := w'.1 = w.1 ∧ w'.2.1 = w.2.1 ∧ w'.2.2.1 = w.2.2.1 ∧ w.2.2.2.length ≤ w'.2.2.2.length ∧ ∀ a, a < w.2.2.2.length → mL w' a = mL w a
theorem wE_rf {w : mT} : wExt w w := ⟨rfl, rfl, rfl, Nat.le_refl _, fun _ _ => rfl⟩
theorem wE_tr {w w' w'' : mT} (h : wExt w w') (h' : wExt w' w'') : wExt w w'' := by
  obtain ⟨a1, a2, a3, a4, a5⟩ := h
  obtain ⟨b1, b2, b3, b4, b5⟩ := h'
  exact ⟨b1.trans a1, b2.trans a2, b3.trans a3, Nat.le_trans a4 b4, fun a ha => (b5 a (by omega)).trans (a5 a ha)⟩
theorem wE_S {w : mT} {L : Nat} (hl : w.2.2.2.length = L) : wExt w (mAs w (kS L)) := ⟨rfl, rfl, rfl, by rw [mAs_len]; omega, fun a ha => by rw [mAs_L, if_pos ha]⟩
theorem lit_E {w w' : mT} (h : wExt w w') (hl : 99 ≤ w.2.2.2.length) (hw : lit w) : lit w' := fun a ha => by rw [h.2.2.2.2 a (by omega)]; exact hw a ha
theorem isS_E {w w' : mT} {q : Nat} (h : wExt w w') (hq : q + 14 ≤ w.2.2.2.length) (hS : isS w q) : isS w' q := by
  have e := h.2.2.2.2
  unfold isS at hS ⊢
  rw [e q (by omega), e (q + 1) (by omega), e (q + 2) (by omega), e (q + 3) (by omega), e (q + 4) (by omega), e (q + 5) (by omega), e (q + 6) (by omega), e (q + 7) (by omega), e (q + 8) (by omega), e (q + 9) (by omega), e (q + 10) (by omega), e (q + 11) (by omega), e (q + 12) (by omega), e (q + 13) (by omega)]
  exact hS
theorem isS_new {w : mT} {L : Nat} (hl : w.2.2.2.length = L) : isS (mAs w (kS L)) L := by
  unfold isS
  simp only [mAs_L, hl, lt_self, lt_ad, if_false, Nat.sub_self, Nat.add_sub_cancel_left]
  exact ⟨rfl, rfl, rfl, rfl, rfl, rfl, rfl, rfl, rfl, rfl, rfl, rfl, rfl, rfl⟩
theorem isS35 {w : mT} (hw : lit w) : isS w 35 := by
  unfold isS
  simp only [Nat.reduceAdd, Nat.reduceLT, RLY, lit_at hw, and_self]
theorem isS49 {w : mT} (hw : lit w) : isS w 49 := by
  unfold isS
  simp only [Nat.reduceAdd, Nat.reduceLT, RLY, lit_at hw, and_self]
/-- the 14 places for States: 12 for what was done, 2 for images -/
def sl (σ : mS) (a : Nat) : Option Nat := if a < 12 then σ.2.2 64 a else σ.2.2 65 (a - 12)
def ec (σ : mS) : Nat := sm 14 (fun a => if sl σ a = none then 1 else 0)
def hiS (w : mT) (σ : mS) : Prop :=
  (∀ a q, a < 14 → sl σ a = some q → isS w q ∧ 99 ≤ q ∧ q + 14 ≤ w.2.2.2.length) ∧
  (∀ a b q q', a < 14 → b < 14 → a ≠ b → sl σ a = some q → sl σ b = some q' → q + 14 ≤ q' ∨ q' + 14 ≤ q) ∧
  99 ≤ w.2.2.2.length ∧ w.2.2.2.length + 14 * ec σ ≤ 295 ∧ mSz w.2.2.2 + 3000 * ec σ ≤ 200000
def hiT (σ : mS) (τ : Rw) (n o : Nat) (bk : Nat → Rw) (has : Nat → Bool) (im : Nat → Rw) : Prop :=
  σ.1 63 1 = Int32.ofNat o ∧ o < 12 ∧ σ.1 63 2 = Int32.ofNat n ∧ n ≤ 12 ∧
  (∀ i, i < n → vRow τ (bk i) ∧ ∃ q, sl σ ((o + i) % 12) = some q ∧ tSt σ q τ (bk i)) ∧
  (∀ k, k < 2 → σ.1 66 k = (if has k = true then 1 else 0) ∧ (has k = true → vRow τ (im k) ∧ ∃ q, sl σ (12 + k) = some q ∧ tSt σ q τ (im k)))
theorem sl_c {σ σ' : mS} (h1 : σ'.2.2 64 = σ.2.2 64) (h2 : σ'.2.2 65 = σ.2.2 65) {a : Nat} : sl σ' a = sl σ a := by
  unfold sl; rw [h1, h2]
theorem ec_c {σ σ' : mS} (h : ∀ a, a < 14 → sl σ' a = sl σ a) : ec σ' = ec σ := sm_eq (fun a ha => by rw [h a ha])
theorem hiS_c {w : mT} {σ σ' : mS} (H : hiS w σ) (h : ∀ a, a < 14 → sl σ' a = sl σ a) : hiS w σ' := by
  obtain ⟨h1, h2, h3, h4, h5⟩ := H
  refine ⟨fun a q ha e => h1 a q ha (by rw [← h a ha]; exact e), fun a b q q' ha hb hab e e' => h2 a b q q' ha hb hab (by rw [← h a ha]; exact e) (by rw [← h b hb]; exact e'), h3, ?_, ?_⟩
  · rw [ec_c h]; exact h4
  · rw [ec_c h]; exact h5
/-- a new State comes into an empty place -/
theorem hiS_new {w : mT} {σ σ' : mS} {L at' : Nat} (H : hiS w σ) (hl : w.2.2.2.length = L) (ha : at' < 14) (hn : sl σ at' = none) (hs : ∀ a, a < 14 → a ≠ at' → sl σ' a = sl σ a) (hsa : sl σ' at' = some L) : hiS (mAs w (kS L)) σ' := by
  obtain ⟨h1, h2, h3, h4, h5⟩ := H
  have hE := wE_S hl
  have hec : ec σ' + 1 = ec σ := by
    have a := sm_up (n := 14) (i := at') (x := 0) (f := fun a => if sl σ a = none then 1 else 0) (g := fun a => if sl σ' a = none then 1 else 0) ha (fun j hj => by
      show (if sl σ' j = none then 1 else 0) = _
      by_cases e : j = at'
      · subst e; rw [hsa, if_pos rfl]; rfl
      · rw [if_neg e, hs j hj e])
    rw [hn] at a
    unfold ec
    simp only [if_true] at a
    omega
  have hlen : (mAs w (kS L)).2.2.2.length = L + 14 := by rw [mAs_len, hl]; rfl
  have hms : mSz (mAs w (kS L)).2.2.2 ≤ mSz w.2.2.2 + 3000 := by
    simp only [mAs, kS, mSz_app, mSz, cS]; omega
  refine ⟨fun a q haa e => ?_, fun a b q q' haa hb hab e e' => ?_, by omega, by omega, by omega⟩
  · by_cases z : a = at'
    · subst z
      rw [hsa] at e
      cases e
      exact ⟨isS_new hl, by omega, by omega⟩
    · rw [hs a haa z] at e
      obtain ⟨x1, x2, x3⟩ := h1 a q haa e
      exact ⟨isS_E hE x3 x1, x2, by omega⟩
  · by_cases z : a = at'
    · subst z
      rw [hsa] at e
      cases e
      rw [hs b hb (fun q => hab q.symm)] at e'
      obtain ⟨x1, x2, x3⟩ := h1 b q' hb e'
      exact Or.inr (by omega)
    · rw [hs a haa z] at e
      by_cases z' : b = at'
      · subst z'
        rw [hsa] at e'
        cases e'
        obtain ⟨x1, x2, x3⟩ := h1 a q haa e
        exact Or.inl (by omega)
      · rw [hs b hb z'] at e'
        exact h2 a b q q' haa hb hab e e'
/-- a State is kept -/
def nPh (n : Nat) : Nat := if n = 12 then 12 else n + 1
def oPh (n o : Nat) : Nat := if n = 12 then (o + 1) % 12 else o
def bkPh (n : Nat) (bk : Nat → Rw) (ρ : Rw) : Nat → Rw := fun i => if n = 12 then (if i < 11 then bk (i + 1) else ρ) else (if i = n then ρ else bk i)
theorem hiT_push {σ σ' : mS} {τ ρ : Rw} {n o Q : Nat} {bk : Nat → Rw} {has : Nat → Bool} {im : Nat → Rw} (H : hiT σ τ n o bk has im) (hs : ∀ a, a < 14 → a ≠ (o + n) % 12 → sl σ' a = sl σ a) (hsa : sl σ' ((o + n) % 12) = some Q) (ht : tSt σ' Q τ ρ) (hv : vRow τ ρ) (hk : ∀ a q, a < 14 → a ≠ (o + n) % 12 → sl σ a = some q → ∀ b, q ≤ b → b < q + 14 → σ'.1 b = σ.1 b) (h1 : σ'.1 63 1 = Int32.ofNat (oPh n o)) (h2 : σ'.1 63 2 = Int32.ofNat (nPh n)) (h3 : σ'.1 66 = σ.1 66) : hiT σ' τ (nPh n) (oPh n o) (bkPh n bk ρ) has im := by
  obtain ⟨a1, a2, a3, a4, a5, a6⟩ := H
  have old : ∀ i, i < n → (o + i) % 12 ≠ (o + n) % 12 → vRow τ (bk i) ∧ ∃ q, sl σ' ((o + i) % 12) = some q ∧ tSt σ' q τ (bk i) := fun i hi hne => by
    obtain ⟨x0, q, x1, x2⟩ := a5 i hi
    exact ⟨x0, q, by rw [hs _ (by omega) hne]; exact x1, tSt_fr x2 (hk _ q (by omega) hne x1)⟩
  refine ⟨h1, by unfold oPh; split <;> omega, h2, by unfold nPh; split <;> omega, fun i hi => ?_, fun k hk2 => ?_⟩
  · unfold nPh at hi
    unfold oPh bkPh
    by_cases e : n = 12
    · rw [if_pos e] at hi ⊢
      rw [if_pos e]
      by_cases z : i < 11
      · rw [if_pos z]
        have := old (i + 1) (by omega) (by omega)
        rw [show ((o + 1) % 12 + i) % 12 = (o + (i + 1)) % 12 by omega]
        exact this
      · rw [if_neg z]
        refine ⟨hv, Q, ?_, ht⟩
        rw [show ((o + 1) % 12 + i) % 12 = (o + n) % 12 by omega]
        exact hsa
    · rw [if_neg e] at hi ⊢
      rw [if_neg e]
      by_cases z : i = n
      · rw [if_pos z]
        exact ⟨hv, Q, by rw [z]; exact hsa, ht⟩
      · rw [if_neg z]
        exact old i (by omega) (by omega)
  · obtain ⟨x1, x2⟩ := a6 k hk2
    refine ⟨by rw [h3]; exact x1, fun hh => ?_⟩
    obtain ⟨y0, q, y1, y2⟩ := x2 hh
    exact ⟨y0, q, by rw [hs _ (by omega) (by omega)]; exact y1, tSt_fr y2 (hk _ q (by omega) (by omega) y1)⟩
theorem of_div12 {a : Nat} (ha : a < 2147483648) : Int32.ofNat a / 12 = Int32.ofNat (a / 12) := by
  apply Int32.toInt_inj.mp
  rw [Int32.toInt_div, on_int ha, on_int (by omega), show (12 : Int32).toInt = 12 by decide]
  have e : (a : Int).tdiv 12 = ((a / 12 : Nat) : Int) := by rw [Int.tdiv_eq_ediv_of_nonneg (by omega)]; rfl
  rw [e]
  show Int.bmod ((a / 12 : Nat) : Int) 4294967296 = _
  exact Int.bmod_eq_of_le (by omega) (by omega)
theorem of_mod12 {a : Nat} (ha : a < 2147483648) : Int32.ofNat a - Int32.ofNat a / 12 * 12 = Int32.ofNat (a % 12) := by
  rw [of_div12 ha, show (12 : Int32) = Int32.ofNat 12 from rfl, of_mul, of_sub (by omega)]
  congr 1
  omega
theorem k_12 : ((12 : Int32) = 0) ↔ False := iff_false_intro (by decide)
theorem nb_0 : vp_nar .boolean (0 : Int32) = 0 := by decide
theorem nb_1 : vp_nar .boolean (1 : Int32) = 1 := by decide
theorem sl_lo {σ : mS} {a : Nat} (h : a < 12) : sl σ a = σ.2.2 64 a := if_pos h
theorem sl_hi {σ : mS} {k : Nat} : sl σ (12 + k) = σ.2.2 65 k := by
  unfold sl
  rw [if_neg (by omega), Nat.add_sub_cancel_left]
theorem g_11 {w : mT} {σ : mS} {τ ρ : Rw} {n o : Nat} {bk : Nat → Rw} {has : Nat → Bool} {im : Nat → Rw} (hw : lit w) (hS : hiS w σ) (H : hiT σ τ n o bk has im) (hρ : tSt σ 35 τ ρ) (hv : vTold τ) (h : vRow τ ρ) : ∃ w' σ', wExt w w' ∧ frD 63 66 σ σ' ∧ hiS w' σ' ∧ hiT σ' τ (nPh n) (oPh n o) (bkPh n bk ρ) has im ∧ ∀ {D : Nat} {K : Hp → Prop}, 3 ≤ D → (wpV D 11 [.ref 63, .ref 35] (mW w σ) K ↔ K (mW w' σ')) := by
  obtain ⟨a1, a2, a3, a4, a5, a6⟩ := H
  have H : hiT σ τ n o bk has im := ⟨a1, a2, a3, a4, a5, a6⟩
  have hb := vRow_b hv h
  have hat : (o + n) % 12 < 12 := Nat.mod_lt _ (by omega)
  have hat14 : (o + n) % 12 < 14 := by omega
  have em : Int32.ofNat (o + n) - Int32.ofNat (o + n) / 12 * 12 = Int32.ofNat ((o + n) % 12) := of_mod12 (by omega)
  have em2 : Int32.ofNat (o + 1) - Int32.ofNat (o + 1) / 12 * 12 = Int32.ofNat ((o + 1) % 12) := of_mod12 (by omega)
  have eb : inB (Int32.ofNat ((o + n) % 12)) 12 = true := on_inB hat (by omega)
  have en := on_nat (i := (o + n) % 12) (by omega)
  -- the counts, written first
  obtain ⟨σ1, hσ1⟩ : ∃ σ1, σ1 = (if n = 12 then uI σ 63 1 (Int32.ofNat ((o + 1) % 12)) else uI σ 63 2 (Int32.ofNat (n + 1))) := ⟨_, rfl⟩
  have q1 : ∀ a, a ≠ 63 → σ1.1 a = σ.1 a := fun a ha => by
    rw [hσ1]; split
    · exact funext fun j => by rw [uI_1, if_neg (fun z => ha z.1)]
    · exact funext fun j => by rw [uI_1, if_neg (fun z => ha z.1)]
  have q2 : σ1.2 = σ.2 := by rw [hσ1]; split <;> rfl
  have q3 : σ1.1 63 1 = Int32.ofNat (oPh n o) := by
    rw [hσ1]; unfold oPh; split
    · rw [uI_1, if_pos ⟨rfl, rfl⟩]
    · rw [uI_1, if_neg (by omega)]; exact a1
  have q4 : σ1.1 63 2 = Int32.ofNat (nPh n) := by
    rw [hσ1]; unfold nPh; split
    · rename_i e; rw [uI_1, if_neg (by omega), a3, e]
    · rw [uI_1, if_pos ⟨rfl, rfl⟩]
  have q5 : frD 63 66 σ σ1 := by
    rw [hσ1]; split
    · exact frD_I (by omega)
    · exact frD_I (by omega)
  have qs : ∀ a, sl σ1 a = sl σ a := fun a => sl_c (by rw [q2]) (by rw [q2])
  have hρ1 : tSt σ1 35 τ ρ := tSt_fr hρ (fun a h1 h2 => q1 a (by omega))
  have hS35 := isS35 hw
  cases hsl : sl σ ((o + n) % 12) with
  | some q =>
    obtain ⟨x1, x2, x3⟩ := hS.1 _ q hat14 hsl
    obtain ⟨σ2, f2, t2, e2⟩ := g_49 x1 hS35 hb hρ1 (by omega)
    have rs : ∀ a, sl σ2 a = sl σ a := fun a => by rw [sl_c (σ := σ1) (by rw [f2.2]) (by rw [f2.2]), qs]
    refine ⟨w, σ2, wE_rf, frD_tr q5 (frD_R f2 (by omega)), hiS_c hS (fun a _ => rs a), hiT_push H (fun a _ _ => rs a) (by rw [rs]; exact hsl) t2 h (fun a q' ha hne e b hb1 hb2 => ?_) ?_ ?_ ?_, fun hD => cV_of (m := 2) (fun d hd Q hQ => ?_) rfl hD⟩
    · have := hS.2.1 a _ q' q ha hat14 hne e hsl
      obtain ⟨y1, y2, y3⟩ := hS.1 a q' ha e
      rw [f2.1 b (by omega), q1 b (by omega)]
    · rw [f2.1 63 (by omega)]; exact q3
    · rw [f2.1 63 (by omega)]; exact q4
    · rw [f2.1 66 (by omega)]; exact q1 66 (by omega)
    · have hd1 : 1 ≤ d := by omega
      have hd2 : 2 ≤ d := by omega
      rw [sl_lo hat] at hsl
      have x1' := x1
      simp only [isS] at x1'
      refine b11_0 ?_
      by_cases e : n = 12
      · have e12 : (Int32.ofNat n = (12 : Int32)) ↔ True := iff_true_intro (by rw [e]; rfl)
        rw [if_pos e] at hσ1
        rw [hσ1] at e2
        simp only [↓br_pos, ↓br_neg, ↓rF_I, ↓rF_L, ↓rF_R, ↓rF_N, rO_m, rB_m, ↓rI_m, wI_m, ↓rB2_m, ↓rB3_m, wB2_m, wB3_m, ↓rL_m, wL_m, ↓rQ_m, wQ_m, ↓lI_m, pI_m, pL_m, pR_m, sI_m, sBy_m, sBo_m, sL_m, sQ_m, fst_m, true_and, and_true, tg_some, ln_some, uI_1, uI_2, uL_1, uL_2, uL_3, uQ_1, uQ_2, uQ_3, rv_i, rv_l, rv_n, rv_b0, rv_b1, RMR, ne_eq, reduceCtorEq, not_false_eq_true, Option.getD_some, if_true, if_false, and_self, false_and, and_false, Nat.add_left_cancel_iff, Nat.add_eq_left, Nat.left_eq_add, Nat.one_ne_zero, Nat.reduceAdd, Nat.reduceLT, Nat.reduceLeDiff, Nat.reduceEqDiff, true_implies, false_implies, implies_true, Option.some.injEq, forall_eq', forall_eq, reduceCtorEq, brT, brF, br_s, i_10, i_01, ib_0_2, ib_1_2, tn_0, tn_1, Int32.le_refl, eq_self, rv_bN, rv_iM, RCX 0, RCG 2, RCT 4, RCT 15, RCT 25, RCS 35, RCS 49, RCH 63, RCP 67, RCB 72, RCR 77, RCM 81, RLY, lit_at hw, a1, a3, of_add, on_succ, em, em2, e12, k_12, eb, en, hsl, RCS q, x1', e2 hd2]
        exact hQ
      · have e12 : (Int32.ofNat n = (12 : Int32)) ↔ False := iff_false_intro (fun z => e ((of_inj (b := 12) (by omega) (by omega)).mp z))
        rw [if_neg e] at hσ1
        rw [hσ1] at e2
        simp only [↓br_pos, ↓br_neg, ↓rF_I, ↓rF_L, ↓rF_R, ↓rF_N, rO_m, rB_m, ↓rI_m, wI_m, ↓rB2_m, ↓rB3_m, wB2_m, wB3_m, ↓rL_m, wL_m, ↓rQ_m, wQ_m, ↓lI_m, pI_m, pL_m, pR_m, sI_m, sBy_m, sBo_m, sL_m, sQ_m, fst_m, true_and, and_true, tg_some, ln_some, uI_1, uI_2, uL_1, uL_2, uL_3, uQ_1, uQ_2, uQ_3, rv_i, rv_l, rv_n, rv_b0, rv_b1, RMR, ne_eq, reduceCtorEq, not_false_eq_true, Option.getD_some, if_true, if_false, and_self, false_and, and_false, Nat.add_left_cancel_iff, Nat.add_eq_left, Nat.left_eq_add, Nat.one_ne_zero, Nat.reduceAdd, Nat.reduceLT, Nat.reduceLeDiff, Nat.reduceEqDiff, true_implies, false_implies, implies_true, Option.some.injEq, forall_eq', forall_eq, reduceCtorEq, brT, brF, br_s, i_10, i_01, ib_0_2, ib_1_2, tn_0, tn_1, Int32.le_refl, eq_self, rv_bN, rv_iM, RCX 0, RCG 2, RCT 4, RCT 15, RCT 25, RCS 35, RCS 49, RCH 63, RCP 67, RCB 72, RCR 77, RCM 81, RLY, lit_at hw, a1, a3, of_add, on_succ, em, em2, e12, k_12, eb, en, hsl, RCS q, x1', e2 hd2]
        exact hQ
  | none =>
    obtain ⟨L, hl⟩ : ∃ L, w.2.2.2.length = L := ⟨_, rfl⟩
    have hL : 99 ≤ L := by rw [← hl]; exact hS.2.2.1
    have hE := wE_S hl
    have hw2 := lit_E hE (by omega) hw
    have x1 := isS_new hl
    have hρ2 : tSt (uQ (zS σ1 L) 64 ((o + n) % 12) (some L)) 35 τ ρ := tSt_fr hρ1 (fun a h1 h2 => by rw [uQ_1]; exact zS_lt (by omega))
    obtain ⟨σ2, f2, t2, e2⟩ := g_49 (r := L) x1 (isS35 hw2) hb hρ2 (by omega)
    have r2 : ∀ a, a < L → σ2.1 a = σ1.1 a := fun a ha => by rw [f2.1 a (by omega), uQ_1]; exact zS_lt ha
    have rs : ∀ a, a < 14 → a ≠ (o + n) % 12 → sl σ2 a = sl σ a := fun a ha hne => by
      rw [← qs]
      unfold sl
      rw [f2.2]
      split
      · rw [uQ_3, if_neg (fun z => hne z.2), zS_3 (by omega)]
      · rw [uQ_3, if_neg (fun z => by omega), zS_3 (by omega)]
    have rsa : sl σ2 ((o + n) % 12) = some L := by
      rw [sl_lo hat, f2.2, uQ_3, if_pos ⟨rfl, rfl⟩]
    refine ⟨mAs w (kS L), σ2, hE, frD_tr q5 (frD_tr (frD_S hL) (frD_tr (frD_Q (by omega)) (frD_R f2 (by omega)))), hiS_new hS hl hat14 hsl rs rsa, hiT_push H rs rsa t2 h (fun a q' ha hne e b hb1 hb2 => ?_) ?_ ?_ ?_, fun hD => cV_of (m := 2) (fun d hd Q hQ => ?_) rfl hD⟩
    · obtain ⟨y1, y2, y3⟩ := hS.1 a q' ha e
      rw [r2 b (by omega), q1 b (by omega)]
    · rw [r2 63 (by omega)]; exact q3
    · rw [r2 63 (by omega)]; exact q4
    · rw [r2 66 (by omega)]; exact q1 66 (by omega)
    · have hd1 : 1 ≤ d := by omega
      have hd2 : 2 ≤ d := by omega
      rw [sl_lo hat] at hsl
      have x1' := x1
      simp only [isS] at x1'
      refine b11_0 ?_
      by_cases e : n = 12
      · have e12 : (Int32.ofNat n = (12 : Int32)) ↔ True := iff_true_intro (by rw [e]; rfl)
        rw [if_pos e] at hσ1
        rw [hσ1] at e2
        simp only [↓br_pos, ↓br_neg, ↓rF_I, ↓rF_L, ↓rF_R, ↓rF_N, rO_m, rB_m, ↓rI_m, wI_m, ↓rB2_m, ↓rB3_m, wB2_m, wB3_m, ↓rL_m, wL_m, ↓rQ_m, wQ_m, ↓lI_m, pI_m, pL_m, pR_m, sI_m, sBy_m, sBo_m, sL_m, sQ_m, fst_m, true_and, and_true, tg_some, ln_some, uI_1, uI_2, uL_1, uL_2, uL_3, uQ_1, uQ_2, uQ_3, rv_i, rv_l, rv_n, rv_b0, rv_b1, RMR, ne_eq, reduceCtorEq, not_false_eq_true, Option.getD_some, if_true, if_false, and_self, false_and, and_false, Nat.add_left_cancel_iff, Nat.add_eq_left, Nat.left_eq_add, Nat.one_ne_zero, Nat.reduceAdd, Nat.reduceLT, Nat.reduceLeDiff, Nat.reduceEqDiff, true_implies, false_implies, implies_true, Option.some.injEq, forall_eq', forall_eq, reduceCtorEq, brT, brF, br_s, i_10, i_01, ib_0_2, ib_1_2, tn_0, tn_1, Int32.le_refl, eq_self, rv_bN, rv_iM, RCX 0, RCG 2, RCT 4, RCT 15, RCT 25, RCS 35, RCS 49, RCH 63, RCP 67, RCB 72, RCR 77, RCM 81, RLY, lit_at hw, lit_at hw2, a1, a3, of_add, on_succ, em, em2, e12, k_12, eb, en, hsl, ↓nw_all, nO_5, hl, s_47 hl hd1, RCS L, x1', e2 hd2]
        exact hQ
      · have e12 : (Int32.ofNat n = (12 : Int32)) ↔ False := iff_false_intro (fun z => e ((of_inj (b := 12) (by omega) (by omega)).mp z))
        rw [if_neg e] at hσ1
        rw [hσ1] at e2
        simp only [↓br_pos, ↓br_neg, ↓rF_I, ↓rF_L, ↓rF_R, ↓rF_N, rO_m, rB_m, ↓rI_m, wI_m, ↓rB2_m, ↓rB3_m, wB2_m, wB3_m, ↓rL_m, wL_m, ↓rQ_m, wQ_m, ↓lI_m, pI_m, pL_m, pR_m, sI_m, sBy_m, sBo_m, sL_m, sQ_m, fst_m, true_and, and_true, tg_some, ln_some, uI_1, uI_2, uL_1, uL_2, uL_3, uQ_1, uQ_2, uQ_3, rv_i, rv_l, rv_n, rv_b0, rv_b1, RMR, ne_eq, reduceCtorEq, not_false_eq_true, Option.getD_some, if_true, if_false, and_self, false_and, and_false, Nat.add_left_cancel_iff, Nat.add_eq_left, Nat.left_eq_add, Nat.one_ne_zero, Nat.reduceAdd, Nat.reduceLT, Nat.reduceLeDiff, Nat.reduceEqDiff, true_implies, false_implies, implies_true, Option.some.injEq, forall_eq', forall_eq, reduceCtorEq, brT, brF, br_s, i_10, i_01, ib_0_2, ib_1_2, tn_0, tn_1, Int32.le_refl, eq_self, rv_bN, rv_iM, RCX 0, RCG 2, RCT 4, RCT 15, RCT 25, RCS 35, RCS 49, RCH 63, RCP 67, RCB 72, RCR 77, RCM 81, RLY, lit_at hw, lit_at hw2, a1, a3, of_add, on_succ, em, em2, e12, k_12, eb, en, hsl, ↓nw_all, nO_5, hl, s_47 hl hd1, RCS L, x1', e2 hd2]
        exact hQ
end
section
/-! History: forget, take back, images -/
theorem g_9 {w : mT} {σ : mS} {D : Nat} {K : Hp → Prop} (hw : lit w) (hD : 1 ≤ D) : wpV D 9 [.ref 63] (mW w σ) K ↔ K (mW w (uI (uI (uI σ 63 2 0) 66 0 0) 66 1 0)) := by
  refine cV_of (m := 0) (fun d hd Q hQ => ?_) rfl hD
  have l0 : ((2 : Int32) ≤ 0) ↔ False := by decide
  have l1 : ((2 : Int32) ≤ 0 + 1) ↔ False := by decide
  have l2 : ((2 : Int32) ≤ 0 + 1 + 1) ↔ True := by decide
  have b1 : inB ((0 : Int32) + 1) 2 = true := by decide
  have n1 : ((0 : Int32) + 1).toNatClampNeg = 1 := by decide
  refine b9_0 ?_
  simp only [↓br_pos, ↓br_neg, ↓rF_I, ↓rF_L, ↓rF_R, ↓rF_N, rO_m, rB_m, ↓rI_m, wI_m, ↓rB2_m, ↓rB3_m, wB2_m, wB3_m, ↓rL_m, wL_m, ↓rQ_m, wQ_m, ↓lI_m, pI_m, pL_m, pR_m, sI_m, sBy_m, sBo_m, sL_m, sQ_m, fst_m, true_and, and_true, tg_some, ln_some, uI_1, uI_2, uL_1, uL_2, uL_3, uQ_1, uQ_2, uQ_3, rv_i, rv_l, rv_n, rv_b0, rv_b1, RMR, ne_eq, reduceCtorEq, not_false_eq_true, Option.getD_some, if_true, if_false, and_self, false_and, and_false, Nat.add_left_cancel_iff, Nat.add_eq_left, Nat.left_eq_add, Nat.one_ne_zero, Nat.reduceAdd, Nat.reduceLT, Nat.reduceLeDiff, Nat.reduceEqDiff, true_implies, false_implies, implies_true, Option.some.injEq, forall_eq', forall_eq, reduceCtorEq, brT, brF, br_s, i_10, i_01, ib_0_2, ib_1_2, tn_0, tn_1, Int32.le_refl, eq_self, rv_bN, rv_iM, RCX 0, RCG 2, RCT 4, RCT 15, RCT 25, RCS 35, RCS 49, RCH 63, RCP 67, RCB 72, RCR 77, RCM 81, RLY, lit_at hw]
  refine b9_7 ?_
  simp only [↓br_pos, ↓br_neg, ↓rF_I, ↓rF_L, ↓rF_R, ↓rF_N, rO_m, rB_m, ↓rI_m, wI_m, ↓rB2_m, ↓rB3_m, wB2_m, wB3_m, ↓rL_m, wL_m, ↓rQ_m, wQ_m, ↓lI_m, pI_m, pL_m, pR_m, sI_m, sBy_m, sBo_m, sL_m, sQ_m, fst_m, true_and, and_true, tg_some, ln_some, uI_1, uI_2, uL_1, uL_2, uL_3, uQ_1, uQ_2, uQ_3, rv_i, rv_l, rv_n, rv_b0, rv_b1, RMR, ne_eq, reduceCtorEq, not_false_eq_true, Option.getD_some, if_true, if_false, and_self, false_and, and_false, Nat.add_left_cancel_iff, Nat.add_eq_left, Nat.left_eq_add, Nat.one_ne_zero, Nat.reduceAdd, Nat.reduceLT, Nat.reduceLeDiff, Nat.reduceEqDiff, true_implies, false_implies, implies_true, Option.some.injEq, forall_eq', forall_eq, reduceCtorEq, brT, brF, br_s, i_10, i_01, ib_0_2, ib_1_2, tn_0, tn_1, Int32.le_refl, eq_self, rv_bN, rv_iM, RCX 0, RCG 2, RCT 4, RCT 15, RCT 25, RCS 35, RCS 49, RCH 63, RCP 67, RCB 72, RCR 77, RCM 81, RLY, lit_at hw, l0, nb_0]
  refine b9_7 ?_
  simp only [↓br_pos, ↓br_neg, ↓rF_I, ↓rF_L, ↓rF_R, ↓rF_N, rO_m, rB_m, ↓rI_m, wI_m, ↓rB2_m, ↓rB3_m, wB2_m, wB3_m, ↓rL_m, wL_m, ↓rQ_m, wQ_m, ↓lI_m, pI_m, pL_m, pR_m, sI_m, sBy_m, sBo_m, sL_m, sQ_m, fst_m, true_and, and_true, tg_some, ln_some, uI_1, uI_2, uL_1, uL_2, uL_3, uQ_1, uQ_2, uQ_3, rv_i, rv_l, rv_n, rv_b0, rv_b1, RMR, ne_eq, reduceCtorEq, not_false_eq_true, Option.getD_some, if_true, if_false, and_self, false_and, and_false, Nat.add_left_cancel_iff, Nat.add_eq_left, Nat.left_eq_add, Nat.one_ne_zero, Nat.reduceAdd, Nat.reduceLT, Nat.reduceLeDiff, Nat.reduceEqDiff, true_implies, false_implies, implies_true, Option.some.injEq, forall_eq', forall_eq, reduceCtorEq, brT, brF, br_s, i_10, i_01, ib_0_2, ib_1_2, tn_0, tn_1, Int32.le_refl, eq_self, rv_bN, rv_iM, RCX 0, RCG 2, RCT 4, RCT 15, RCT 25, RCS 35, RCS 49, RCH 63, RCP 67, RCB 72, RCR 77, RCM 81, RLY, lit_at hw, l1, nb_0, b1, n1]
  refine b9_7 ?_
  simp only [↓br_pos, ↓br_neg, ↓rF_I, ↓rF_L, ↓rF_R, ↓rF_N, rO_m, rB_m, ↓rI_m, wI_m, ↓rB2_m, ↓rB3_m, wB2_m, wB3_m, ↓rL_m, wL_m, ↓rQ_m, wQ_m, ↓lI_m, pI_m, pL_m, pR_m, sI_m, sBy_m, sBo_m, sL_m, sQ_m, fst_m, true_and, and_true, tg_some, ln_some, uI_1, uI_2, uL_1, uL_2, uL_3, uQ_1, uQ_2, uQ_3, rv_i, rv_l, rv_n, rv_b0, rv_b1, RMR, ne_eq, reduceCtorEq, not_false_eq_true, Option.getD_some, if_true, if_false, and_self, false_and, and_false, Nat.add_left_cancel_iff, Nat.add_eq_left, Nat.left_eq_add, Nat.one_ne_zero, Nat.reduceAdd, Nat.reduceLT, Nat.reduceLeDiff, Nat.reduceEqDiff, true_implies, false_implies, implies_true, Option.some.injEq, forall_eq', forall_eq, reduceCtorEq, brT, brF, br_s, i_10, i_01, ib_0_2, ib_1_2, tn_0, tn_1, Int32.le_refl, eq_self, rv_bN, rv_iM, RCX 0, RCG 2, RCT 4, RCT 15, RCT 25, RCS 35, RCS 49, RCH 63, RCP 67, RCB 72, RCR 77, RCM 81, RLY, lit_at hw, l2]
  exact hQ
theorem hiT_0 {σ : mS} {τ τ' : Rw} {n o : Nat} {bk bk' : Nat → Rw} {has : Nat → Bool} {im im' : Nat → Rw} (H : hiT σ τ n o bk has im) : hiT (uI (uI (uI σ 63 2 0) 66 0 0) 66 1 0) τ' 0 o bk' (fun _ => false) im' := by
  obtain ⟨a1, a2, a3, a4, a5, a6⟩ := H
  refine ⟨?_, a2, ?_, by omega, fun i hi => by omega, fun k hk => ⟨?_, fun q => Bool.noConfusion q⟩⟩
  · rw [uI_1, if_neg (by omega), uI_1, if_neg (by omega), uI_1, if_neg (by omega)]; exact a1
  · rw [uI_1, if_neg (by omega), uI_1, if_neg (by omega), uI_1, if_pos ⟨rfl, rfl⟩]; rfl
  · have : k = 0 ∨ k = 1 := by omega
    rcases this with rfl | rfl
    · rw [uI_1, if_neg (by omega), uI_1, if_pos ⟨rfl, rfl⟩]; rfl
    · rw [uI_1, if_pos ⟨rfl, rfl⟩]; rfl
theorem g_10 {w : mT} {σ : mS} {τ : Rw} {n o D : Nat} {bk : Nat → Rw} {has : Nat → Bool} {im : Nat → Rw} {K : Int32 → Hp → Prop} (hw : lit w) (H : hiT σ τ n o bk has im) (hD : 1 ≤ D) : wpI D 10 [.ref 63] (mW w σ) K ↔ K (Int32.ofNat ((if has 0 = true then 1 else 0) + (if has 1 = true then 1 else 0))) (mW w σ) := by
  obtain ⟨a1, a2, a3, a4, a5, a6⟩ := H
  refine cI_of (m := 0) (fun d hd Q hQ => ?_) rfl hD
  have i0 := (a6 0 (by omega)).1
  have i1 := (a6 1 (by omega)).1
  have l0 : ((2 : Int32) ≤ 0) ↔ False := by decide
  have l1 : ((2 : Int32) ≤ 0 + 1) ↔ False := by decide
  have l2 : ((2 : Int32) ≤ 0 + 1 + 1) ↔ True := by decide
  have b1 : inB ((0 : Int32) + 1) 2 = true := by decide
  have n1 : ((0 : Int32) + 1).toNatClampNeg = 1 := by decide
  refine b10_0 ?_
  refine b10_4 ?_
  by_cases h0 : has 0 = true
  · rw [if_pos h0] at i0 hQ
    simp only [↓br_pos, ↓br_neg, ↓rF_I, ↓rF_L, ↓rF_R, ↓rF_N, rO_m, rB_m, ↓rI_m, wI_m, ↓rB2_m, ↓rB3_m, wB2_m, wB3_m, ↓rL_m, wL_m, ↓rQ_m, wQ_m, ↓lI_m, pI_m, pL_m, pR_m, sI_m, sBy_m, sBo_m, sL_m, sQ_m, fst_m, true_and, and_true, tg_some, ln_some, uI_1, uI_2, uL_1, uL_2, uL_3, uQ_1, uQ_2, uQ_3, rv_i, rv_l, rv_n, rv_b0, rv_b1, RMR, ne_eq, reduceCtorEq, not_false_eq_true, Option.getD_some, if_true, if_false, and_self, false_and, and_false, Nat.add_left_cancel_iff, Nat.add_eq_left, Nat.left_eq_add, Nat.one_ne_zero, Nat.reduceAdd, Nat.reduceLT, Nat.reduceLeDiff, Nat.reduceEqDiff, true_implies, false_implies, implies_true, Option.some.injEq, forall_eq', forall_eq, reduceCtorEq, brT, brF, br_s, i_10, i_01, ib_0_2, ib_1_2, tn_0, tn_1, Int32.le_refl, eq_self, rv_bN, rv_iM, RCX 0, RCG 2, RCT 4, RCT 15, RCT 25, RCS 35, RCS 49, RCH 63, RCP 67, RCB 72, RCR 77, RCM 81, RLY, lit_at hw, l0, i0]
    refine b10_4 ?_
    by_cases h1 : has 1 = true
    · rw [if_pos h1] at i1 hQ
      simp only [↓br_pos, ↓br_neg, ↓rF_I, ↓rF_L, ↓rF_R, ↓rF_N, rO_m, rB_m, ↓rI_m, wI_m, ↓rB2_m, ↓rB3_m, wB2_m, wB3_m, ↓rL_m, wL_m, ↓rQ_m, wQ_m, ↓lI_m, pI_m, pL_m, pR_m, sI_m, sBy_m, sBo_m, sL_m, sQ_m, fst_m, true_and, and_true, tg_some, ln_some, uI_1, uI_2, uL_1, uL_2, uL_3, uQ_1, uQ_2, uQ_3, rv_i, rv_l, rv_n, rv_b0, rv_b1, RMR, ne_eq, reduceCtorEq, not_false_eq_true, Option.getD_some, if_true, if_false, and_self, false_and, and_false, Nat.add_left_cancel_iff, Nat.add_eq_left, Nat.left_eq_add, Nat.one_ne_zero, Nat.reduceAdd, Nat.reduceLT, Nat.reduceLeDiff, Nat.reduceEqDiff, true_implies, false_implies, implies_true, Option.some.injEq, forall_eq', forall_eq, reduceCtorEq, brT, brF, br_s, i_10, i_01, ib_0_2, ib_1_2, tn_0, tn_1, Int32.le_refl, eq_self, rv_bN, rv_iM, RCX 0, RCG 2, RCT 4, RCT 15, RCT 25, RCS 35, RCS 49, RCH 63, RCP 67, RCB 72, RCR 77, RCM 81, RLY, lit_at hw, l1, i1, b1, n1]
      refine b10_4 ?_
      simp only [↓br_pos, ↓br_neg, ↓rF_I, ↓rF_L, ↓rF_R, ↓rF_N, rO_m, rB_m, ↓rI_m, wI_m, ↓rB2_m, ↓rB3_m, wB2_m, wB3_m, ↓rL_m, wL_m, ↓rQ_m, wQ_m, ↓lI_m, pI_m, pL_m, pR_m, sI_m, sBy_m, sBo_m, sL_m, sQ_m, fst_m, true_and, and_true, tg_some, ln_some, uI_1, uI_2, uL_1, uL_2, uL_3, uQ_1, uQ_2, uQ_3, rv_i, rv_l, rv_n, rv_b0, rv_b1, RMR, ne_eq, reduceCtorEq, not_false_eq_true, Option.getD_some, if_true, if_false, and_self, false_and, and_false, Nat.add_left_cancel_iff, Nat.add_eq_left, Nat.left_eq_add, Nat.one_ne_zero, Nat.reduceAdd, Nat.reduceLT, Nat.reduceLeDiff, Nat.reduceEqDiff, true_implies, false_implies, implies_true, Option.some.injEq, forall_eq', forall_eq, reduceCtorEq, brT, brF, br_s, i_10, i_01, ib_0_2, ib_1_2, tn_0, tn_1, Int32.le_refl, eq_self, rv_bN, rv_iM, l2]
      exact hQ
    · rw [if_neg h1] at i1 hQ
      simp only [↓br_pos, ↓br_neg, ↓rF_I, ↓rF_L, ↓rF_R, ↓rF_N, rO_m, rB_m, ↓rI_m, wI_m, ↓rB2_m, ↓rB3_m, wB2_m, wB3_m, ↓rL_m, wL_m, ↓rQ_m, wQ_m, ↓lI_m, pI_m, pL_m, pR_m, sI_m, sBy_m, sBo_m, sL_m, sQ_m, fst_m, true_and, and_true, tg_some, ln_some, uI_1, uI_2, uL_1, uL_2, uL_3, uQ_1, uQ_2, uQ_3, rv_i, rv_l, rv_n, rv_b0, rv_b1, RMR, ne_eq, reduceCtorEq, not_false_eq_true, Option.getD_some, if_true, if_false, and_self, false_and, and_false, Nat.add_left_cancel_iff, Nat.add_eq_left, Nat.left_eq_add, Nat.one_ne_zero, Nat.reduceAdd, Nat.reduceLT, Nat.reduceLeDiff, Nat.reduceEqDiff, true_implies, false_implies, implies_true, Option.some.injEq, forall_eq', forall_eq, reduceCtorEq, brT, brF, br_s, i_10, i_01, ib_0_2, ib_1_2, tn_0, tn_1, Int32.le_refl, eq_self, rv_bN, rv_iM, RCX 0, RCG 2, RCT 4, RCT 15, RCT 25, RCS 35, RCS 49, RCH 63, RCP 67, RCB 72, RCR 77, RCM 81, RLY, lit_at hw, l1, i1, b1, n1]
      refine b10_4 ?_
      simp only [↓br_pos, ↓br_neg, ↓rF_I, ↓rF_L, ↓rF_R, ↓rF_N, rO_m, rB_m, ↓rI_m, wI_m, ↓rB2_m, ↓rB3_m, wB2_m, wB3_m, ↓rL_m, wL_m, ↓rQ_m, wQ_m, ↓lI_m, pI_m, pL_m, pR_m, sI_m, sBy_m, sBo_m, sL_m, sQ_m, fst_m, true_and, and_true, tg_some, ln_some, uI_1, uI_2, uL_1, uL_2, uL_3, uQ_1, uQ_2, uQ_3, rv_i, rv_l, rv_n, rv_b0, rv_b1, RMR, ne_eq, reduceCtorEq, not_false_eq_true, Option.getD_some, if_true, if_false, and_self, false_and, and_false, Nat.add_left_cancel_iff, Nat.add_eq_left, Nat.left_eq_add, Nat.one_ne_zero, Nat.reduceAdd, Nat.reduceLT, Nat.reduceLeDiff, Nat.reduceEqDiff, true_implies, false_implies, implies_true, Option.some.injEq, forall_eq', forall_eq, reduceCtorEq, brT, brF, br_s, i_10, i_01, ib_0_2, ib_1_2, tn_0, tn_1, Int32.le_refl, eq_self, rv_bN, rv_iM, l2]
      exact hQ
  · rw [if_neg h0] at i0 hQ
    simp only [↓br_pos, ↓br_neg, ↓rF_I, ↓rF_L, ↓rF_R, ↓rF_N, rO_m, rB_m, ↓rI_m, wI_m, ↓rB2_m, ↓rB3_m, wB2_m, wB3_m, ↓rL_m, wL_m, ↓rQ_m, wQ_m, ↓lI_m, pI_m, pL_m, pR_m, sI_m, sBy_m, sBo_m, sL_m, sQ_m, fst_m, true_and, and_true, tg_some, ln_some, uI_1, uI_2, uL_1, uL_2, uL_3, uQ_1, uQ_2, uQ_3, rv_i, rv_l, rv_n, rv_b0, rv_b1, RMR, ne_eq, reduceCtorEq, not_false_eq_true, Option.getD_some, if_true, if_false, and_self, false_and, and_false, Nat.add_left_cancel_iff, Nat.add_eq_left, Nat.left_eq_add, Nat.one_ne_zero, Nat.reduceAdd, Nat.reduceLT, Nat.reduceLeDiff, Nat.reduceEqDiff, true_implies, false_implies, implies_true, Option.some.injEq, forall_eq', forall_eq, reduceCtorEq, brT, brF, br_s, i_10, i_01, ib_0_2, ib_1_2, tn_0, tn_1, Int32.le_refl, eq_self, rv_bN, rv_iM, RCX 0, RCG 2, RCT 4, RCT 15, RCT 25, RCS 35, RCS 49, RCH 63, RCP 67, RCB 72, RCR 77, RCM 81, RLY, lit_at hw, l0, i0]
    refine b10_4 ?_
    by_cases h1 : has 1 = true
    · rw [if_pos h1] at i1 hQ
      simp only [↓br_pos, ↓br_neg, ↓rF_I, ↓rF_L, ↓rF_R, ↓rF_N, rO_m, rB_m, ↓rI_m, wI_m, ↓rB2_m, ↓rB3_m, wB2_m, wB3_m, ↓rL_m, wL_m, ↓rQ_m, wQ_m, ↓lI_m, pI_m, pL_m, pR_m, sI_m, sBy_m, sBo_m, sL_m, sQ_m, fst_m, true_and, and_true, tg_some, ln_some, uI_1, uI_2, uL_1, uL_2, uL_3, uQ_1, uQ_2, uQ_3, rv_i, rv_l, rv_n, rv_b0, rv_b1, RMR, ne_eq, reduceCtorEq, not_false_eq_true, Option.getD_some, if_true, if_false, and_self, false_and, and_false, Nat.add_left_cancel_iff, Nat.add_eq_left, Nat.left_eq_add, Nat.one_ne_zero, Nat.reduceAdd, Nat.reduceLT, Nat.reduceLeDiff, Nat.reduceEqDiff, true_implies, false_implies, implies_true, Option.some.injEq, forall_eq', forall_eq, reduceCtorEq, brT, brF, br_s, i_10, i_01, ib_0_2, ib_1_2, tn_0, tn_1, Int32.le_refl, eq_self, rv_bN, rv_iM, RCX 0, RCG 2, RCT 4, RCT 15, RCT 25, RCS 35, RCS 49, RCH 63, RCP 67, RCB 72, RCR 77, RCM 81, RLY, lit_at hw, l1, i1, b1, n1]
      refine b10_4 ?_
      simp only [↓br_pos, ↓br_neg, ↓rF_I, ↓rF_L, ↓rF_R, ↓rF_N, rO_m, rB_m, ↓rI_m, wI_m, ↓rB2_m, ↓rB3_m, wB2_m, wB3_m, ↓rL_m, wL_m, ↓rQ_m, wQ_m, ↓lI_m, pI_m, pL_m, pR_m, sI_m, sBy_m, sBo_m, sL_m, sQ_m, fst_m, true_and, and_true, tg_some, ln_some, uI_1, uI_2, uL_1, uL_2, uL_3, uQ_1, uQ_2, uQ_3, rv_i, rv_l, rv_n, rv_b0, rv_b1, RMR, ne_eq, reduceCtorEq, not_false_eq_true, Option.getD_some, if_true, if_false, and_self, false_and, and_false, Nat.add_left_cancel_iff, Nat.add_eq_left, Nat.left_eq_add, Nat.one_ne_zero, Nat.reduceAdd, Nat.reduceLT, Nat.reduceLeDiff, Nat.reduceEqDiff, true_implies, false_implies, implies_true, Option.some.injEq, forall_eq', forall_eq, reduceCtorEq, brT, brF, br_s, i_10, i_01, ib_0_2, ib_1_2, tn_0, tn_1, Int32.le_refl, eq_self, rv_bN, rv_iM, l2]
      exact hQ
    · rw [if_neg h1] at i1 hQ
      simp only [↓br_pos, ↓br_neg, ↓rF_I, ↓rF_L, ↓rF_R, ↓rF_N, rO_m, rB_m, ↓rI_m, wI_m, ↓rB2_m, ↓rB3_m, wB2_m, wB3_m, ↓rL_m, wL_m, ↓rQ_m, wQ_m, ↓lI_m, pI_m, pL_m, pR_m, sI_m, sBy_m, sBo_m, sL_m, sQ_m, fst_m, true_and, and_true, tg_some, ln_some, uI_1, uI_2, uL_1, uL_2, uL_3, uQ_1, uQ_2, uQ_3, rv_i, rv_l, rv_n, rv_b0, rv_b1, RMR, ne_eq, reduceCtorEq, not_false_eq_true, Option.getD_some, if_true, if_false, and_self, false_and, and_false, Nat.add_left_cancel_iff, Nat.add_eq_left, Nat.left_eq_add, Nat.one_ne_zero, Nat.reduceAdd, Nat.reduceLT, Nat.reduceLeDiff, Nat.reduceEqDiff, true_implies, false_implies, implies_true, Option.some.injEq, forall_eq', forall_eq, reduceCtorEq, brT, brF, br_s, i_10, i_01, ib_0_2, ib_1_2, tn_0, tn_1, Int32.le_refl, eq_self, rv_bN, rv_iM, RCX 0, RCG 2, RCT 4, RCT 15, RCT 25, RCS 35, RCS 49, RCH 63, RCP 67, RCB 72, RCR 77, RCM 81, RLY, lit_at hw, l1, i1, b1, n1]
      refine b10_4 ?_
      simp only [↓br_pos, ↓br_neg, ↓rF_I, ↓rF_L, ↓rF_R, ↓rF_N, rO_m, rB_m, ↓rI_m, wI_m, ↓rB2_m, ↓rB3_m, wB2_m, wB3_m, ↓rL_m, wL_m, ↓rQ_m, wQ_m, ↓lI_m, pI_m, pL_m, pR_m, sI_m, sBy_m, sBo_m, sL_m, sQ_m, fst_m, true_and, and_true, tg_some, ln_some, uI_1, uI_2, uL_1, uL_2, uL_3, uQ_1, uQ_2, uQ_3, rv_i, rv_l, rv_n, rv_b0, rv_b1, RMR, ne_eq, reduceCtorEq, not_false_eq_true, Option.getD_some, if_true, if_false, and_self, false_and, and_false, Nat.add_left_cancel_iff, Nat.add_eq_left, Nat.left_eq_add, Nat.one_ne_zero, Nat.reduceAdd, Nat.reduceLT, Nat.reduceLeDiff, Nat.reduceEqDiff, true_implies, false_implies, implies_true, Option.some.injEq, forall_eq', forall_eq, reduceCtorEq, brT, brF, br_s, i_10, i_01, ib_0_2, ib_1_2, tn_0, tn_1, Int32.le_refl, eq_self, rv_bN, rv_iM, l2]
      exact hQ
/-- a State elsewhere is copied into the State at 35: the places stay -/
theorem hiT_c {σ σ' : mS} {τ : Rw} {n n' o : Nat} {bk : Nat → Rw} {has : Nat → Bool} {im : Nat → Rw} {w : mT} (H : hiT σ τ n o bk has im) (hS : hiS w σ) (hn : n' ≤ n) (hs : ∀ a, a < 14 → sl σ' a = sl σ a) (hk : ∀ b, 99 ≤ b → σ'.1 b = σ.1 b) (h1 : σ'.1 63 1 = σ.1 63 1) (h2 : σ'.1 63 2 = Int32.ofNat n') (h3 : σ'.1 66 = σ.1 66) : hiT σ' τ n' o bk has im := by
  obtain ⟨a1, a2, a3, a4, a5, a6⟩ := H
  refine ⟨by rw [h1]; exact a1, a2, h2, by omega, fun i hi => ?_, fun k hk2 => ?_⟩
  · obtain ⟨x0, q, x1, x2⟩ := a5 i (by omega)
    obtain ⟨y1, y2, y3⟩ := hS.1 _ q (by omega) x1
    exact ⟨x0, q, by rw [hs _ (by omega)]; exact x1, tSt_fr x2 (fun b hb1 hb2 => hk b (by omega))⟩
  · obtain ⟨x1, x2⟩ := a6 k hk2
    refine ⟨by rw [h3]; exact x1, fun hh => ?_⟩
    obtain ⟨z0, q, z1, z2⟩ := x2 hh
    obtain ⟨y1, y2, y3⟩ := hS.1 _ q (by omega) z1
    exact ⟨z0, q, by rw [hs _ (by omega)]; exact z1, tSt_fr z2 (fun b hb1 hb2 => hk b (by omega))⟩
theorem g_12z {w : mT} {σ : mS} {τ : Rw} {o D : Nat} {bk : Nat → Rw} {has : Nat → Bool} {im : Nat → Rw} {K : Int32 → Hp → Prop} (hw : lit w) (H : hiT σ τ 0 o bk has im) (hD : 3 ≤ D) : wpI D 12 [.ref 63, .ref 35] (mW w σ) K ↔ K 0 (mW w σ) := by
  obtain ⟨a1, a2, a3, a4, a5, a6⟩ := H
  refine cI_of (m := 2) (fun d hd Q hQ => ?_) rfl hD
  have a3' : σ.1 63 2 = 0 := a3
  refine b12_0 ?_
  simp only [↓br_pos, ↓br_neg, ↓rF_I, ↓rF_L, ↓rF_R, ↓rF_N, rO_m, rB_m, ↓rI_m, wI_m, ↓rB2_m, ↓rB3_m, wB2_m, wB3_m, ↓rL_m, wL_m, ↓rQ_m, wQ_m, ↓lI_m, pI_m, pL_m, pR_m, sI_m, sBy_m, sBo_m, sL_m, sQ_m, fst_m, true_and, and_true, tg_some, ln_some, uI_1, uI_2, uL_1, uL_2, uL_3, uQ_1, uQ_2, uQ_3, rv_i, rv_l, rv_n, rv_b0, rv_b1, RMR, ne_eq, reduceCtorEq, not_false_eq_true, Option.getD_some, if_true, if_false, and_self, false_and, and_false, Nat.add_left_cancel_iff, Nat.add_eq_left, Nat.left_eq_add, Nat.one_ne_zero, Nat.reduceAdd, Nat.reduceLT, Nat.reduceLeDiff, Nat.reduceEqDiff, true_implies, false_implies, implies_true, Option.some.injEq, forall_eq', forall_eq, reduceCtorEq, brT, brF, br_s, i_10, i_01, ib_0_2, ib_1_2, tn_0, tn_1, Int32.le_refl, eq_self, rv_bN, rv_iM, RCX 0, RCG 2, RCT 4, RCT 15, RCT 25, RCS 35, RCS 49, RCH 63, RCP 67, RCB 72, RCR 77, RCM 81, RLY, lit_at hw, a3']
  exact hQ
theorem g_12 {w : mT} {σ : mS} {τ : Rw} {n o : Nat} {bk : Nat → Rw} {has : Nat → Bool} {im : Nat → Rw} (hw : lit w) (hS : hiS w σ) (H : hiT σ τ n o bk has im) (hv : vTold τ) (hn : 0 < n) : ∃ σ', frD 35 66 σ σ' ∧ (∀ a, (49 ≤ a ∧ a < 63) → σ'.1 a = σ.1 a) ∧ hiS w σ' ∧ hiT σ' τ (n - 1) o bk has im ∧ tSt σ' 35 τ (bk (n - 1)) ∧ ∀ {D : Nat} {K : Int32 → Hp → Prop}, 3 ≤ D → (wpI D 12 [.ref 63, .ref 35] (mW w σ) K ↔ K 1 (mW w σ')) := by
  obtain ⟨a1, a2, a3, a4, a5, a6⟩ := H
  have H : hiT σ τ n o bk has im := ⟨a1, a2, a3, a4, a5, a6⟩
  obtain ⟨x0, q, x1, x2⟩ := a5 (n - 1) (by omega)
  have hat : (o + (n - 1)) % 12 < 12 := Nat.mod_lt _ (by omega)
  obtain ⟨y1, y2, y3⟩ := hS.1 _ q (by omega) x1
  have hb := vRow_b hv x0
  have t1 : tSt (uI σ 63 2 (Int32.ofNat (n - 1))) q τ (bk (n - 1)) := tSt_fr x2 (fun a h1 h2 => (uI_ne (by omega)).1)
  obtain ⟨σ2, f2, t2, e2⟩ := g_49 (isS35 hw) y1 hb t1 (by omega)
  have rs : ∀ a, sl σ2 a = sl σ a := fun a => sl_c (by rw [f2.2]; rfl) (by rw [f2.2]; rfl)
  refine ⟨σ2, frD_tr (frD_I (by omega)) (frD_R f2 (by omega)), fun a ha => by rw [f2.1 a (by omega)]; exact (uI_ne (by omega)).1, hiS_c hS (fun a _ => rs a), hiT_c H hS (by omega) (fun a _ => rs a) (fun b hb => by rw [f2.1 b (by omega)]; exact (uI_ne (by omega)).1) ?_ ?_ ?_, t2, fun hD => cI_of (m := 2) (fun d hd Q hQ => ?_) rfl hD⟩
  · rw [f2.1 63 (by omega), uI_1, if_neg (by omega)]
  · rw [f2.1 63 (by omega), uI_1, if_pos ⟨rfl, rfl⟩]
  · rw [f2.1 66 (by omega)]; exact (uI_ne (by omega)).1
  · have hd1 : 1 ≤ d := by omega
    have hd2 : 2 ≤ d := by omega
    rw [sl_lo hat] at x1
    have e0 : (Int32.ofNat n = (0 : Int32)) ↔ False := iff_false_intro (fun z => absurd ((of_eq0 (by omega)).mp z) (by omega))
    have e1 : Int32.ofNat (o + n) - 1 = Int32.ofNat (o + (n - 1)) := by rw [st_m1 (by omega)]; congr 1; omega
    have e3 : Int32.ofNat n - 1 = Int32.ofNat (n - 1) := st_m1 (by omega)
    have em : Int32.ofNat (o + (n - 1)) - Int32.ofNat (o + (n - 1)) / 12 * 12 = Int32.ofNat ((o + (n - 1)) % 12) := of_mod12 (by omega)
    have eb : inB (Int32.ofNat ((o + (n - 1)) % 12)) 12 = true := on_inB hat (by omega)
    have en := on_nat (i := (o + (n - 1)) % 12) (by omega)
    refine b12_0 ?_
    simp only [↓br_pos, ↓br_neg, ↓rF_I, ↓rF_L, ↓rF_R, ↓rF_N, rO_m, rB_m, ↓rI_m, wI_m, ↓rB2_m, ↓rB3_m, wB2_m, wB3_m, ↓rL_m, wL_m, ↓rQ_m, wQ_m, ↓lI_m, pI_m, pL_m, pR_m, sI_m, sBy_m, sBo_m, sL_m, sQ_m, fst_m, true_and, and_true, tg_some, ln_some, uI_1, uI_2, uL_1, uL_2, uL_3, uQ_1, uQ_2, uQ_3, rv_i, rv_l, rv_n, rv_b0, rv_b1, RMR, ne_eq, reduceCtorEq, not_false_eq_true, Option.getD_some, if_true, if_false, and_self, false_and, and_false, Nat.add_left_cancel_iff, Nat.add_eq_left, Nat.left_eq_add, Nat.one_ne_zero, Nat.reduceAdd, Nat.reduceLT, Nat.reduceLeDiff, Nat.reduceEqDiff, true_implies, false_implies, implies_true, Option.some.injEq, forall_eq', forall_eq, reduceCtorEq, brT, brF, br_s, i_10, i_01, ib_0_2, ib_1_2, tn_0, tn_1, Int32.le_refl, eq_self, rv_bN, rv_iM, RCX 0, RCG 2, RCT 4, RCT 15, RCT 25, RCS 35, RCS 49, RCH 63, RCP 67, RCB 72, RCR 77, RCM 81, RLY, lit_at hw, a1, a3, e0, of_add, e1, em, e3, k_12, eb, en, x1, e2 hd2]
    exact hQ
def hasS (has : Nat → Bool) (k : Nat) : Nat → Bool := fun j => if j = k then true else has j
def imS (im : Nat → Rw) (k : Nat) (ρ : Rw) : Nat → Rw := fun j => if j = k then ρ else im j
theorem hasS_e {has : Nat → Bool} {k : Nat} : hasS has k k = true := if_pos rfl
theorem hasS_n {has : Nat → Bool} {k j : Nat} (h : j ≠ k) : hasS has k j = has j := if_neg h
theorem imS_e {im : Nat → Rw} {k : Nat} {ρ : Rw} : imS im k ρ k = ρ := if_pos rfl
theorem imS_n {im : Nat → Rw} {k j : Nat} {ρ : Rw} (h : j ≠ k) : imS im k ρ j = im j := if_neg h
theorem hiT_img {σ σ' : mS} {τ ρ : Rw} {n o Q k : Nat} {bk : Nat → Rw} {has : Nat → Bool} {im : Nat → Rw} (H : hiT σ τ n o bk has im) (hk2 : k < 2) (hs : ∀ a, a < 14 → a ≠ 12 + k → sl σ' a = sl σ a) (hsa : sl σ' (12 + k) = some Q) (ht : tSt σ' Q τ ρ) (hv : vRow τ ρ) (hk : ∀ a q, a < 14 → a ≠ 12 + k → sl σ a = some q → ∀ b, q ≤ b → b < q + 14 → σ'.1 b = σ.1 b) (h1 : σ'.1 63 = σ.1 63) (h3 : ∀ j, j < 2 → σ'.1 66 j = if j = k then 1 else σ.1 66 j) : hiT σ' τ n o bk (hasS has k) (imS im k ρ) := by
  obtain ⟨a1, a2, a3, a4, a5, a6⟩ := H
  refine ⟨by rw [h1]; exact a1, a2, by rw [h1]; exact a3, a4, fun i hi => ?_, fun j hj => ?_⟩
  · obtain ⟨x0, q, x1, x2⟩ := a5 i hi
    exact ⟨x0, q, by rw [hs _ (by omega) (by omega)]; exact x1, tSt_fr x2 (hk _ q (by omega) (by omega) x1)⟩
  · obtain ⟨x1, x2⟩ := a6 j hj
    by_cases e : j = k
    · subst e
      refine ⟨by rw [h3 j hj, if_pos rfl, hasS_e, if_pos rfl], fun _ => ⟨by rw [imS_e]; exact hv, Q, hsa, by rw [imS_e]; exact ht⟩⟩
    · refine ⟨by rw [h3 j hj, if_neg e, hasS_n e]; exact x1, fun hh => ?_⟩
      rw [hasS_n e] at hh
      rw [imS_n e]
      obtain ⟨z0, q, z1, z2⟩ := x2 hh
      exact ⟨z0, q, by rw [hs _ (by omega) (by omega)]; exact z1, tSt_fr z2 (hk _ q (by omega) (by omega) z1)⟩
theorem g_13z {w : mT} {σ : mS} {a1 : Int32} {D : Nat} {K : Int32 → Hp → Prop} (h : ¬ (0 ≤ a1.toInt ∧ a1.toInt < 2)) (hD : 3 ≤ D) : wpI D 13 [.ref 63, .int a1, .ref 35] (mW w σ) K ↔ K 0 (mW w σ) := by
  refine cI_of (m := 2) (fun d hd Q hQ => ?_) rfl hD
  refine b13_0 ?_
  by_cases z : a1 < 0
  · simp only [↓br_pos, ↓br_neg, ↓rF_I, ↓rF_L, ↓rF_R, ↓rF_N, rO_m, rB_m, ↓rI_m, wI_m, ↓rB2_m, ↓rB3_m, wB2_m, wB3_m, ↓rL_m, wL_m, ↓rQ_m, wQ_m, ↓lI_m, pI_m, pL_m, pR_m, sI_m, sBy_m, sBo_m, sL_m, sQ_m, fst_m, true_and, and_true, tg_some, ln_some, uI_1, uI_2, uL_1, uL_2, uL_3, uQ_1, uQ_2, uQ_3, rv_i, rv_l, rv_n, rv_b0, rv_b1, RMR, ne_eq, reduceCtorEq, not_false_eq_true, Option.getD_some, if_true, if_false, and_self, false_and, and_false, Nat.add_left_cancel_iff, Nat.add_eq_left, Nat.left_eq_add, Nat.one_ne_zero, Nat.reduceAdd, Nat.reduceLT, Nat.reduceLeDiff, Nat.reduceEqDiff, true_implies, false_implies, implies_true, Option.some.injEq, forall_eq', forall_eq, reduceCtorEq, brT, brF, br_s, i_10, i_01, ib_0_2, ib_1_2, tn_0, tn_1, Int32.le_refl, eq_self, rv_bN, rv_iM, z]
    exact hQ
  · have z2 : ¬ a1 < 2 := by
      intro q
      rw [i_lt, show (0 : Int32).toInt = 0 by decide] at z
      rw [i_lt, show (2 : Int32).toInt = 2 by decide] at q
      omega
    simp only [↓br_pos, ↓br_neg, ↓rF_I, ↓rF_L, ↓rF_R, ↓rF_N, rO_m, rB_m, ↓rI_m, wI_m, ↓rB2_m, ↓rB3_m, wB2_m, wB3_m, ↓rL_m, wL_m, ↓rQ_m, wQ_m, ↓lI_m, pI_m, pL_m, pR_m, sI_m, sBy_m, sBo_m, sL_m, sQ_m, fst_m, true_and, and_true, tg_some, ln_some, uI_1, uI_2, uL_1, uL_2, uL_3, uQ_1, uQ_2, uQ_3, rv_i, rv_l, rv_n, rv_b0, rv_b1, RMR, ne_eq, reduceCtorEq, not_false_eq_true, Option.getD_some, if_true, if_false, and_self, false_and, and_false, Nat.add_left_cancel_iff, Nat.add_eq_left, Nat.left_eq_add, Nat.one_ne_zero, Nat.reduceAdd, Nat.reduceLT, Nat.reduceLeDiff, Nat.reduceEqDiff, true_implies, false_implies, implies_true, Option.some.injEq, forall_eq', forall_eq, reduceCtorEq, brT, brF, br_s, i_10, i_01, ib_0_2, ib_1_2, tn_0, tn_1, Int32.le_refl, eq_self, rv_bN, rv_iM, z, z2]
    exact hQ
theorem g_14z {w : mT} {σ : mS} {a1 : Int32} {D : Nat} {K : Int32 → Hp → Prop} (h : ¬ (0 ≤ a1.toInt ∧ a1.toInt < 2)) (hD : 3 ≤ D) : wpI D 14 [.ref 63, .int a1, .ref 35] (mW w σ) K ↔ K 0 (mW w σ) := by
  refine cI_of (m := 2) (fun d hd Q hQ => ?_) rfl hD
  refine b14_0 ?_
  by_cases z : a1 < 0
  · simp only [↓br_pos, ↓br_neg, ↓rF_I, ↓rF_L, ↓rF_R, ↓rF_N, rO_m, rB_m, ↓rI_m, wI_m, ↓rB2_m, ↓rB3_m, wB2_m, wB3_m, ↓rL_m, wL_m, ↓rQ_m, wQ_m, ↓lI_m, pI_m, pL_m, pR_m, sI_m, sBy_m, sBo_m, sL_m, sQ_m, fst_m, true_and, and_true, tg_some, ln_some, uI_1, uI_2, uL_1, uL_2, uL_3, uQ_1, uQ_2, uQ_3, rv_i, rv_l, rv_n, rv_b0, rv_b1, RMR, ne_eq, reduceCtorEq, not_false_eq_true, Option.getD_some, if_true, if_false, and_self, false_and, and_false, Nat.add_left_cancel_iff, Nat.add_eq_left, Nat.left_eq_add, Nat.one_ne_zero, Nat.reduceAdd, Nat.reduceLT, Nat.reduceLeDiff, Nat.reduceEqDiff, true_implies, false_implies, implies_true, Option.some.injEq, forall_eq', forall_eq, reduceCtorEq, brT, brF, br_s, i_10, i_01, ib_0_2, ib_1_2, tn_0, tn_1, Int32.le_refl, eq_self, rv_bN, rv_iM, z]
    exact hQ
  · have z2 : (2 : Int32) ≤ a1 := by
      rw [i_lt, show (0 : Int32).toInt = 0 by decide] at z
      rw [i_le, show (2 : Int32).toInt = 2 by decide]
      omega
    simp only [↓br_pos, ↓br_neg, ↓rF_I, ↓rF_L, ↓rF_R, ↓rF_N, rO_m, rB_m, ↓rI_m, wI_m, ↓rB2_m, ↓rB3_m, wB2_m, wB3_m, ↓rL_m, wL_m, ↓rQ_m, wQ_m, ↓lI_m, pI_m, pL_m, pR_m, sI_m, sBy_m, sBo_m, sL_m, sQ_m, fst_m, true_and, and_true, tg_some, ln_some, uI_1, uI_2, uL_1, uL_2, uL_3, uQ_1, uQ_2, uQ_3, rv_i, rv_l, rv_n, rv_b0, rv_b1, RMR, ne_eq, reduceCtorEq, not_false_eq_true, Option.getD_some, if_true, if_false, and_self, false_and, and_false, Nat.add_left_cancel_iff, Nat.add_eq_left, Nat.left_eq_add, Nat.one_ne_zero, Nat.reduceAdd, Nat.reduceLT, Nat.reduceLeDiff, Nat.reduceEqDiff, true_implies, false_implies, implies_true, Option.some.injEq, forall_eq', forall_eq, reduceCtorEq, brT, brF, br_s, i_10, i_01, ib_0_2, ib_1_2, tn_0, tn_1, Int32.le_refl, eq_self, rv_bN, rv_iM, z, z2]
    exact hQ
theorem of_lt0 {a : Nat} (h : a < 2147483648) : (Int32.ofNat a < (0 : Int32)) ↔ False := iff_false_intro (fun q => absurd ((on_lt (j := 0) h (by omega)).mp q) (by omega))
theorem g_13 {w : mT} {σ : mS} {τ ρ : Rw} {n o k : Nat} {bk : Nat → Rw} {has : Nat → Bool} {im : Nat → Rw} (hw : lit w) (hS : hiS w σ) (H : hiT σ τ n o bk has im) (hρ : tSt σ 35 τ ρ) (hv : vTold τ) (h : vRow τ ρ) (hk : k < 2) : ∃ w' σ', wExt w w' ∧ frD 63 67 σ σ' ∧ hiS w' σ' ∧ hiT σ' τ n o bk (hasS has k) (imS im k ρ) ∧ ∀ {D : Nat} {K : Int32 → Hp → Prop}, 3 ≤ D → (wpI D 13 [.ref 63, .int (Int32.ofNat k), .ref 35] (mW w σ) K ↔ K 1 (mW w' σ')) := by
  have hb := vRow_b hv h
  have hS35 := isS35 hw
  have hk14 : 12 + k < 14 := by omega
  have l0 := of_lt0 (a := k) (by omega)
  have l2 : (Int32.ofNat k < (2 : Int32)) ↔ True := iff_true_intro ((on_lt (j := 2) (by omega) (by omega)).mpr hk)
  have eb : inB (Int32.ofNat k) 2 = true := on_inB hk (by omega)
  have en := on_nat (i := k) (by omega)
  cases hsl : sl σ (12 + k) with
  | some q =>
    obtain ⟨x1, x2, x3⟩ := hS.1 _ q hk14 hsl
    obtain ⟨σ2, f2, t2, e2⟩ := g_49 x1 hS35 hb hρ (by omega)
    have rs : ∀ a, sl (uI σ2 66 k 1) a = sl σ a := fun a => sl_c (by show σ2.2.2 64 = _; rw [f2.2]) (by show σ2.2.2 65 = _; rw [f2.2])
    refine ⟨w, uI σ2 66 k 1, wE_rf, frD_tr (frD_R f2 (by omega)) (frD_I (by omega)), hiS_c hS (fun a _ => rs a), hiT_img H hk (fun a _ _ => rs a) (by rw [rs]; exact hsl) (tSt_fr t2 (fun a h1 h2 => (uI_ne (by omega)).1)) h (fun a q' ha hne e b hb1 hb2 => ?_) ?_ (fun j hj => ?_), fun hD => cI_of (m := 2) (fun d hd Q hQ => ?_) rfl hD⟩
    · have := hS.2.1 a _ q' q ha hk14 hne e hsl
      obtain ⟨y1, y2, y3⟩ := hS.1 a q' ha e
      rw [(uI_ne (by omega)).1]
      exact f2.1 b (by omega)
    · rw [(uI_ne (by omega)).1]
      exact f2.1 63 (by omega)
    · rw [uI_1]
      by_cases e : j = k
      · rw [if_pos ⟨rfl, e⟩, if_pos e]
      · rw [if_neg (fun z => e z.2), if_neg e, f2.1 66 (by omega)]
    · have hd1 : 1 ≤ d := by omega
      have hd2 : 2 ≤ d := by omega
      rw [sl_hi] at hsl
      have x1' := x1
      simp only [isS] at x1'
      refine b13_0 ?_
      simp only [↓br_pos, ↓br_neg, ↓rF_I, ↓rF_L, ↓rF_R, ↓rF_N, rO_m, rB_m, ↓rI_m, wI_m, ↓rB2_m, ↓rB3_m, wB2_m, wB3_m, ↓rL_m, wL_m, ↓rQ_m, wQ_m, ↓lI_m, pI_m, pL_m, pR_m, sI_m, sBy_m, sBo_m, sL_m, sQ_m, fst_m, true_and, and_true, tg_some, ln_some, uI_1, uI_2, uL_1, uL_2, uL_3, uQ_1, uQ_2, uQ_3, rv_i, rv_l, rv_n, rv_b0, rv_b1, RMR, ne_eq, reduceCtorEq, not_false_eq_true, Option.getD_some, if_true, if_false, and_self, false_and, and_false, Nat.add_left_cancel_iff, Nat.add_eq_left, Nat.left_eq_add, Nat.one_ne_zero, Nat.reduceAdd, Nat.reduceLT, Nat.reduceLeDiff, Nat.reduceEqDiff, true_implies, false_implies, implies_true, Option.some.injEq, forall_eq', forall_eq, reduceCtorEq, brT, brF, br_s, i_10, i_01, ib_0_2, ib_1_2, tn_0, tn_1, Int32.le_refl, eq_self, rv_bN, rv_iM, RCX 0, RCG 2, RCT 4, RCT 15, RCT 25, RCS 35, RCS 49, RCH 63, RCP 67, RCB 72, RCR 77, RCM 81, RLY, lit_at hw, l0, l2, eb, en, hsl, RCS q, x1', e2 hd2, nb_1]
      exact hQ
  | none =>
    obtain ⟨L, hl⟩ : ∃ L, w.2.2.2.length = L := ⟨_, rfl⟩
    have hL : 99 ≤ L := by rw [← hl]; exact hS.2.2.1
    have hE := wE_S hl
    have hw2 := lit_E hE (by omega) hw
    have x1 := isS_new hl
    have hρ2 : tSt (uQ (zS σ L) 65 k (some L)) 35 τ ρ := tSt_fr hρ (fun a h1 h2 => by rw [uQ_1]; exact zS_lt (by omega))
    obtain ⟨σ2, f2, t2, e2⟩ := g_49 (r := L) x1 (isS35 hw2) hb hρ2 (by omega)
    have r2 : ∀ a, a < L → σ2.1 a = σ.1 a := fun a ha => by rw [f2.1 a (by omega), uQ_1]; exact zS_lt ha
    have rs : ∀ a, a < 14 → a ≠ 12 + k → sl (uI σ2 66 k 1) a = sl σ a := fun a ha hne => by
      unfold sl
      show (if a < 12 then σ2.2.2 64 a else σ2.2.2 65 (a - 12)) = _
      rw [f2.2]
      split
      · rw [uQ_3, if_neg (fun z => by omega), zS_3 (by omega)]
      · rw [uQ_3, if_neg (fun z => by omega), zS_3 (by omega)]
    have rsa : sl (uI σ2 66 k 1) (12 + k) = some L := by
      rw [sl_hi]
      show σ2.2.2 65 k = _
      rw [f2.2, uQ_3, if_pos ⟨rfl, rfl⟩]
    refine ⟨mAs w (kS L), uI σ2 66 k 1, hE, frD_tr (frD_S hL) (frD_tr (frD_Q (by omega)) (frD_tr (frD_R f2 (by omega)) (frD_I (by omega)))), hiS_new hS hl hk14 hsl rs rsa, hiT_img H hk rs rsa (tSt_fr t2 (fun a h1 h2 => (uI_ne (by omega)).1)) h (fun a q' ha hne e b hb1 hb2 => ?_) ?_ (fun j hj => ?_), fun hD => cI_of (m := 2) (fun d hd Q hQ => ?_) rfl hD⟩
    · obtain ⟨y1, y2, y3⟩ := hS.1 a q' ha e
      rw [(uI_ne (by omega)).1]
      exact r2 b (by omega)
    · rw [(uI_ne (by omega)).1]
      exact r2 63 (by omega)
    · rw [uI_1]
      by_cases e : j = k
      · rw [if_pos ⟨rfl, e⟩, if_pos e]
      · rw [if_neg (fun z => e z.2), if_neg e, r2 66 (by omega)]
    · have hd1 : 1 ≤ d := by omega
      have hd2 : 2 ≤ d := by omega
      rw [sl_hi] at hsl
      have x1' := x1
      simp only [isS] at x1'
      refine b13_0 ?_
      simp only [↓br_pos, ↓br_neg, ↓rF_I, ↓rF_L, ↓rF_R, ↓rF_N, rO_m, rB_m, ↓rI_m, wI_m, ↓rB2_m, ↓rB3_m, wB2_m, wB3_m, ↓rL_m, wL_m, ↓rQ_m, wQ_m, ↓lI_m, pI_m, pL_m, pR_m, sI_m, sBy_m, sBo_m, sL_m, sQ_m, fst_m, true_and, and_true, tg_some, ln_some, uI_1, uI_2, uL_1, uL_2, uL_3, uQ_1, uQ_2, uQ_3, rv_i, rv_l, rv_n, rv_b0, rv_b1, RMR, ne_eq, reduceCtorEq, not_false_eq_true, Option.getD_some, if_true, if_false, and_self, false_and, and_false, Nat.add_left_cancel_iff, Nat.add_eq_left, Nat.left_eq_add, Nat.one_ne_zero, Nat.reduceAdd, Nat.reduceLT, Nat.reduceLeDiff, Nat.reduceEqDiff, true_implies, false_implies, implies_true, Option.some.injEq, forall_eq', forall_eq, reduceCtorEq, brT, brF, br_s, i_10, i_01, ib_0_2, ib_1_2, tn_0, tn_1, Int32.le_refl, eq_self, rv_bN, rv_iM, RCX 0, RCG 2, RCT 4, RCT 15, RCT 25, RCS 35, RCS 49, RCH 63, RCP 67, RCB 72, RCR 77, RCM 81, RLY, lit_at hw, lit_at hw2, l0, l2, eb, en, hsl, ↓nw_all, nO_5, hl, s_47 hl hd1, RCS L, x1', e2 hd2, nb_1]
      exact hQ
theorem g_14f {w : mT} {σ : mS} {τ : Rw} {n o k D : Nat} {bk : Nat → Rw} {has : Nat → Bool} {im : Nat → Rw} {K : Int32 → Hp → Prop} (hw : lit w) (H : hiT σ τ n o bk has im) (hk : k < 2) (hh : has k = false) (hD : 3 ≤ D) : wpI D 14 [.ref 63, .int (Int32.ofNat k), .ref 35] (mW w σ) K ↔ K 0 (mW w σ) := by
  obtain ⟨a1, a2, a3, a4, a5, a6⟩ := H
  have i0 := (a6 k hk).1
  rw [hh, if_neg (by decide)] at i0
  have l0 := of_lt0 (a := k) (by omega)
  have l2 : ((2 : Int32) ≤ Int32.ofNat k) ↔ False := iff_false_intro (fun q => absurd ((on_le (i := 2) (by omega) (by omega)).mp q) (by omega))
  have eb : inB (Int32.ofNat k) 2 = true := on_inB hk (by omega)
  have en := on_nat (i := k) (by omega)
  refine cI_of (m := 2) (fun d hd Q hQ => ?_) rfl hD
  refine b14_0 ?_
  simp only [↓br_pos, ↓br_neg, ↓rF_I, ↓rF_L, ↓rF_R, ↓rF_N, rO_m, rB_m, ↓rI_m, wI_m, ↓rB2_m, ↓rB3_m, wB2_m, wB3_m, ↓rL_m, wL_m, ↓rQ_m, wQ_m, ↓lI_m, pI_m, pL_m, pR_m, sI_m, sBy_m, sBo_m, sL_m, sQ_m, fst_m, true_and, and_true, tg_some, ln_some, uI_1, uI_2, uL_1, uL_2, uL_3, uQ_1, uQ_2, uQ_3, rv_i, rv_l, rv_n, rv_b0, rv_b1, RMR, ne_eq, reduceCtorEq, not_false_eq_true, Option.getD_some, if_true, if_false, and_self, false_and, and_false, Nat.add_left_cancel_iff, Nat.add_eq_left, Nat.left_eq_add, Nat.one_ne_zero, Nat.reduceAdd, Nat.reduceLT, Nat.reduceLeDiff, Nat.reduceEqDiff, true_implies, false_implies, implies_true, Option.some.injEq, forall_eq', forall_eq, reduceCtorEq, brT, brF, br_s, i_10, i_01, ib_0_2, ib_1_2, tn_0, tn_1, Int32.le_refl, eq_self, rv_bN, rv_iM, RCX 0, RCG 2, RCT 4, RCT 15, RCT 25, RCS 35, RCS 49, RCH 63, RCP 67, RCB 72, RCR 77, RCM 81, RLY, lit_at hw, l0, l2, eb, en, i0]
  exact hQ
theorem g_14 {w : mT} {σ : mS} {τ : Rw} {n o k : Nat} {bk : Nat → Rw} {has : Nat → Bool} {im : Nat → Rw} (hw : lit w) (hS : hiS w σ) (H : hiT σ τ n o bk has im) (hv : vTold τ) (hk : k < 2) (hh : has k = true) : ∃ σ', frD 35 66 σ σ' ∧ (∀ a, (49 ≤ a ∧ a < 63) → σ'.1 a = σ.1 a) ∧ hiS w σ' ∧ hiT σ' τ 0 o bk has im ∧ tSt σ' 35 τ (im k) ∧ ∀ {D : Nat} {K : Int32 → Hp → Prop}, 3 ≤ D → (wpI D 14 [.ref 63, .int (Int32.ofNat k), .ref 35] (mW w σ) K ↔ K 1 (mW w σ')) := by
  obtain ⟨a1, a2, a3, a4, a5, a6⟩ := H
  have H : hiT σ τ n o bk has im := ⟨a1, a2, a3, a4, a5, a6⟩
  obtain ⟨i0, i1⟩ := a6 k hk
  rw [hh, if_pos rfl] at i0
  obtain ⟨x0, q, x1, x2⟩ := i1 hh
  obtain ⟨y1, y2, y3⟩ := hS.1 _ q (by omega) x1
  have hb := vRow_b hv x0
  have l0 := of_lt0 (a := k) (by omega)
  have l2 : ((2 : Int32) ≤ Int32.ofNat k) ↔ False := iff_false_intro (fun q => absurd ((on_le (i := 2) (by omega) (by omega)).mp q) (by omega))
  have eb : inB (Int32.ofNat k) 2 = true := on_inB hk (by omega)
  have en := on_nat (i := k) (by omega)
  obtain ⟨σ2, f2, t2, e2⟩ := g_49 (isS35 hw) y1 hb x2 (by omega)
  have rs : ∀ a, sl (uI σ2 63 2 0) a = sl σ a := fun a => sl_c (by show σ2.2.2 64 = _; rw [f2.2]) (by show σ2.2.2 65 = _; rw [f2.2])
  refine ⟨uI σ2 63 2 0, frD_tr (frD_R f2 (by omega)) (frD_I (by omega)), fun a ha => by rw [(uI_ne (by omega)).1]; exact f2.1 a (by omega), hiS_c hS (fun a _ => rs a), hiT_c (n' := 0) H hS (by omega) (fun a _ => rs a) (fun b hb => by rw [(uI_ne (by omega)).1]; exact f2.1 b (by omega)) ?_ ?_ ?_, tSt_fr t2 (fun a h1 h2 => (uI_ne (by omega)).1), fun hD => cI_of (m := 2) (fun d hd Q hQ => ?_) rfl hD⟩
  · rw [uI_1, if_neg (by omega), f2.1 63 (by omega)]
  · rw [uI_1, if_pos ⟨rfl, rfl⟩]; rfl
  · rw [(uI_ne (by omega)).1]; exact f2.1 66 (by omega)
  · have hd1 : 1 ≤ d := by omega
    have hd2 : 2 ≤ d := by omega
    rw [sl_hi] at x1
    refine b14_0 ?_
    simp only [↓br_pos, ↓br_neg, ↓rF_I, ↓rF_L, ↓rF_R, ↓rF_N, rO_m, rB_m, ↓rI_m, wI_m, ↓rB2_m, ↓rB3_m, wB2_m, wB3_m, ↓rL_m, wL_m, ↓rQ_m, wQ_m, ↓lI_m, pI_m, pL_m, pR_m, sI_m, sBy_m, sBo_m, sL_m, sQ_m, fst_m, true_and, and_true, tg_some, ln_some, uI_1, uI_2, uL_1, uL_2, uL_3, uQ_1, uQ_2, uQ_3, rv_i, rv_l, rv_n, rv_b0, rv_b1, RMR, ne_eq, reduceCtorEq, not_false_eq_true, Option.getD_some, if_true, if_false, and_self, false_and, and_false, Nat.add_left_cancel_iff, Nat.add_eq_left, Nat.left_eq_add, Nat.one_ne_zero, Nat.reduceAdd, Nat.reduceLT, Nat.reduceLeDiff, Nat.reduceEqDiff, true_implies, false_implies, implies_true, Option.some.injEq, forall_eq', forall_eq, reduceCtorEq, brT, brF, br_s, i_10, i_01, ib_0_2, ib_1_2, tn_0, tn_1, Int32.le_refl, eq_self, rv_bN, rv_iM, RCX 0, RCG 2, RCT 4, RCT 15, RCT 25, RCS 35, RCS 49, RCH 63, RCP 67, RCB 72, RCR 77, RCM 81, RLY, lit_at hw, l0, l2, eb, en, i0, x1, e2 hd2]
    exact hQ
end
section
/-! the class's Reader: words, numbers, signs -/
def isWs (b : Nat) : Bool := decide (b = 32 ∨ b = 10)
def isLt (b : Nat) : Bool := decide (97 ≤ b ∧ b ≤ 122)
def isDg (b : Nat) : Bool := decide (48 ≤ b ∧ b ≤ 57)
/-- how far from i on all bytes are such -/
def spn (P : Nat → Bool) (t : Nat → Nat) (n : Nat) : Nat → Nat → Nat
  | 0, i => i
  | k + 1, i => if i < n ∧ P (t i) = true then spn P t n k (i + 1) else i
theorem spn_s {P : Nat → Bool} {t : Nat → Nat} {n k i : Nat} : spn P t n (k + 1) i = if i < n ∧ P (t i) = true then spn P t n k (i + 1) else i := rfl
theorem spn_ge {P : Nat → Bool} {t : Nat → Nat} {n : Nat} : ∀ k i, i ≤ spn P t n k i := by
  intro k
  induction k with
  | zero => intro i; exact Nat.le_refl _
  | succ k ih =>
    intro i
    rw [spn_s]; split
    · have := ih (i + 1); omega
    · exact Nat.le_refl _
theorem spn_le {P : Nat → Bool} {t : Nat → Nat} {n : Nat} : ∀ k i, i ≤ n → spn P t n k i ≤ n := by
  intro k
  induction k with
  | zero => intro i h; exact h
  | succ k ih =>
    intro i h
    rw [spn_s]; split
    · rename_i z; exact ih (i + 1) (by omega)
    · exact h
/-- what is next from i on: where it starts, ends, what it is -/
def tkS (t : Nat → Nat) (n i : Nat) : Nat := spn isWs t n (n - i) i
def tkE (t : Nat → Nat) (n s : Nat) : Nat := if n ≤ s then s else if isLt (t s) = true then spn isLt t n (n - s) s else if isDg (t s) = true then spn isDg t n (n - s) s else s + 1
def tkK (t : Nat → Nat) (n s : Nat) : Nat := if n ≤ s then 0 else if isLt (t s) = true then 1 else if isDg (t s) = true then 2 else if t s = 59 then 3 else 4
/-- the tape under the Reader -/
def tBy (σ : mS) (t : Nat → Nat) : Prop := σ.2.2 2 0 = some 1 ∧ ∀ i, i < 600 → σ.1 1 i = Int32.ofNat (t i)
theorem tBy_R {σ σ' : mS} {t : Nat → Nat} (h : tBy σ t) (hf : frR 2 3 σ σ') : tBy σ' t := ⟨by rw [hf.2]; exact h.1, fun i hi => by rw [hf.1 1 (by omega)]; exact h.2 i hi⟩
theorem g_40 {w : mT} {σ : mS} {t : Nat → Nat} {i D : Nat} {K : Int32 → Hp → Prop} (hw : lit w) (hB : tBy σ t) (ht : ∀ i, t i < 256) (hi : i < 600) (hD : 1 ≤ D) : wpI D 40 [.ref 2, .int (Int32.ofNat i)] (mW w σ) K ↔ K (iB (isLt (t i) = true)) (mW w σ) := by
  refine cI_of (m := 0) (fun d hd Q hQ => ?_) rfl hD
  have e0 := hB.1
  have e1 := hB.2 i hi
  have h := ht i
  have eb : inB (Int32.ofNat i) 600 = true := on_inB hi (by omega)
  have en := on_nat (i := i) (by omega)
  have x1 := on_lt (i := t i) (j := 97) (by omega) (by omega)
  have x2 := on_lt (i := 122) (j := t i) (by omega) (by omega)
  refine b40_0 ?_
  by_cases a : t i < 97
  · rw [iB_f (by unfold isLt; rw [decide_eq_true_eq]; omega)] at hQ
    have c1 : (Int32.ofNat (t i) < (97 : Int32)) ↔ True := iff_true_intro (x1.mpr a)
    simp only [↓br_pos, ↓br_neg, ↓rF_I, ↓rF_L, ↓rF_R, ↓rF_N, rO_m, rB_m, ↓rI_m, wI_m, ↓rB2_m, ↓rB3_m, wB2_m, wB3_m, ↓rL_m, wL_m, ↓rQ_m, wQ_m, ↓lI_m, pI_m, pL_m, pR_m, sI_m, sBy_m, sBo_m, sL_m, sQ_m, fst_m, true_and, and_true, tg_some, ln_some, uI_1, uI_2, uL_1, uL_2, uL_3, uQ_1, uQ_2, uQ_3, rv_i, rv_l, rv_n, rv_b0, rv_b1, RMR, ne_eq, reduceCtorEq, not_false_eq_true, Option.getD_some, if_true, if_false, and_self, false_and, and_false, Nat.add_left_cancel_iff, Nat.add_eq_left, Nat.left_eq_add, Nat.one_ne_zero, Nat.reduceAdd, Nat.reduceLT, Nat.reduceLeDiff, Nat.reduceEqDiff, true_implies, false_implies, implies_true, Option.some.injEq, forall_eq', forall_eq, reduceCtorEq, brT, brF, br_s, i_10, i_01, ib_0_2, ib_1_2, tn_0, tn_1, Int32.le_refl, eq_self, rv_bN, rv_iM, RCX 0, RCG 2, RCT 4, RCT 15, RCT 25, RCS 35, RCS 49, RCH 63, RCP 67, RCB 72, RCR 77, RCM 81, RLY, lit_at hw, e0, e1, eb, en, c1]
    exact hQ
  · have c1 : (Int32.ofNat (t i) < (97 : Int32)) ↔ False := iff_false_intro (fun q => a (x1.mp q))
    by_cases b : 122 < t i
    · rw [iB_f (by unfold isLt; rw [decide_eq_true_eq]; omega)] at hQ
      have c2 : ((122 : Int32) < Int32.ofNat (t i)) ↔ True := iff_true_intro (x2.mpr b)
      simp only [↓br_pos, ↓br_neg, ↓rF_I, ↓rF_L, ↓rF_R, ↓rF_N, rO_m, rB_m, ↓rI_m, wI_m, ↓rB2_m, ↓rB3_m, wB2_m, wB3_m, ↓rL_m, wL_m, ↓rQ_m, wQ_m, ↓lI_m, pI_m, pL_m, pR_m, sI_m, sBy_m, sBo_m, sL_m, sQ_m, fst_m, true_and, and_true, tg_some, ln_some, uI_1, uI_2, uL_1, uL_2, uL_3, uQ_1, uQ_2, uQ_3, rv_i, rv_l, rv_n, rv_b0, rv_b1, RMR, ne_eq, reduceCtorEq, not_false_eq_true, Option.getD_some, if_true, if_false, and_self, false_and, and_false, Nat.add_left_cancel_iff, Nat.add_eq_left, Nat.left_eq_add, Nat.one_ne_zero, Nat.reduceAdd, Nat.reduceLT, Nat.reduceLeDiff, Nat.reduceEqDiff, true_implies, false_implies, implies_true, Option.some.injEq, forall_eq', forall_eq, reduceCtorEq, brT, brF, br_s, i_10, i_01, ib_0_2, ib_1_2, tn_0, tn_1, Int32.le_refl, eq_self, rv_bN, rv_iM, RCX 0, RCG 2, RCT 4, RCT 15, RCT 25, RCS 35, RCS 49, RCH 63, RCP 67, RCB 72, RCR 77, RCM 81, RLY, lit_at hw, e0, e1, eb, en, c1, c2]
      exact hQ
    · rw [iB_t (by unfold isLt; rw [decide_eq_true_eq]; omega)] at hQ
      have c2 : ((122 : Int32) < Int32.ofNat (t i)) ↔ False := iff_false_intro (fun q => b (x2.mp q))
      simp only [↓br_pos, ↓br_neg, ↓rF_I, ↓rF_L, ↓rF_R, ↓rF_N, rO_m, rB_m, ↓rI_m, wI_m, ↓rB2_m, ↓rB3_m, wB2_m, wB3_m, ↓rL_m, wL_m, ↓rQ_m, wQ_m, ↓lI_m, pI_m, pL_m, pR_m, sI_m, sBy_m, sBo_m, sL_m, sQ_m, fst_m, true_and, and_true, tg_some, ln_some, uI_1, uI_2, uL_1, uL_2, uL_3, uQ_1, uQ_2, uQ_3, rv_i, rv_l, rv_n, rv_b0, rv_b1, RMR, ne_eq, reduceCtorEq, not_false_eq_true, Option.getD_some, if_true, if_false, and_self, false_and, and_false, Nat.add_left_cancel_iff, Nat.add_eq_left, Nat.left_eq_add, Nat.one_ne_zero, Nat.reduceAdd, Nat.reduceLT, Nat.reduceLeDiff, Nat.reduceEqDiff, true_implies, false_implies, implies_true, Option.some.injEq, forall_eq', forall_eq, reduceCtorEq, brT, brF, br_s, i_10, i_01, ib_0_2, ib_1_2, tn_0, tn_1, Int32.le_refl, eq_self, rv_bN, rv_iM, RCX 0, RCG 2, RCT 4, RCT 15, RCT 25, RCS 35, RCS 49, RCH 63, RCP 67, RCB 72, RCR 77, RCM 81, RLY, lit_at hw, e0, e1, eb, en, c1, c2]
      exact hQ
theorem g_41 {w : mT} {σ : mS} {t : Nat → Nat} {i D : Nat} {K : Int32 → Hp → Prop} (hw : lit w) (hB : tBy σ t) (ht : ∀ i, t i < 256) (hi : i < 600) (hD : 1 ≤ D) : wpI D 41 [.ref 2, .int (Int32.ofNat i)] (mW w σ) K ↔ K (iB (isDg (t i) = true)) (mW w σ) := by
  refine cI_of (m := 0) (fun d hd Q hQ => ?_) rfl hD
  have e0 := hB.1
  have e1 := hB.2 i hi
  have h := ht i
  have eb : inB (Int32.ofNat i) 600 = true := on_inB hi (by omega)
  have en := on_nat (i := i) (by omega)
  have x1 := on_lt (i := t i) (j := 48) (by omega) (by omega)
  have x2 := on_lt (i := 57) (j := t i) (by omega) (by omega)
  refine b41_0 ?_
  by_cases a : t i < 48
  · rw [iB_f (by unfold isDg; rw [decide_eq_true_eq]; omega)] at hQ
    have c1 : (Int32.ofNat (t i) < (48 : Int32)) ↔ True := iff_true_intro (x1.mpr a)
    simp only [↓br_pos, ↓br_neg, ↓rF_I, ↓rF_L, ↓rF_R, ↓rF_N, rO_m, rB_m, ↓rI_m, wI_m, ↓rB2_m, ↓rB3_m, wB2_m, wB3_m, ↓rL_m, wL_m, ↓rQ_m, wQ_m, ↓lI_m, pI_m, pL_m, pR_m, sI_m, sBy_m, sBo_m, sL_m, sQ_m, fst_m, true_and, and_true, tg_some, ln_some, uI_1, uI_2, uL_1, uL_2, uL_3, uQ_1, uQ_2, uQ_3, rv_i, rv_l, rv_n, rv_b0, rv_b1, RMR, ne_eq, reduceCtorEq, not_false_eq_true, Option.getD_some, if_true, if_false, and_self, false_and, and_false, Nat.add_left_cancel_iff, Nat.add_eq_left, Nat.left_eq_add, Nat.one_ne_zero, Nat.reduceAdd, Nat.reduceLT, Nat.reduceLeDiff, Nat.reduceEqDiff, true_implies, false_implies, implies_true, Option.some.injEq, forall_eq', forall_eq, reduceCtorEq, brT, brF, br_s, i_10, i_01, ib_0_2, ib_1_2, tn_0, tn_1, Int32.le_refl, eq_self, rv_bN, rv_iM, RCX 0, RCG 2, RCT 4, RCT 15, RCT 25, RCS 35, RCS 49, RCH 63, RCP 67, RCB 72, RCR 77, RCM 81, RLY, lit_at hw, e0, e1, eb, en, c1]
    exact hQ
  · have c1 : (Int32.ofNat (t i) < (48 : Int32)) ↔ False := iff_false_intro (fun q => a (x1.mp q))
    by_cases b : 57 < t i
    · rw [iB_f (by unfold isDg; rw [decide_eq_true_eq]; omega)] at hQ
      have c2 : ((57 : Int32) < Int32.ofNat (t i)) ↔ True := iff_true_intro (x2.mpr b)
      simp only [↓br_pos, ↓br_neg, ↓rF_I, ↓rF_L, ↓rF_R, ↓rF_N, rO_m, rB_m, ↓rI_m, wI_m, ↓rB2_m, ↓rB3_m, wB2_m, wB3_m, ↓rL_m, wL_m, ↓rQ_m, wQ_m, ↓lI_m, pI_m, pL_m, pR_m, sI_m, sBy_m, sBo_m, sL_m, sQ_m, fst_m, true_and, and_true, tg_some, ln_some, uI_1, uI_2, uL_1, uL_2, uL_3, uQ_1, uQ_2, uQ_3, rv_i, rv_l, rv_n, rv_b0, rv_b1, RMR, ne_eq, reduceCtorEq, not_false_eq_true, Option.getD_some, if_true, if_false, and_self, false_and, and_false, Nat.add_left_cancel_iff, Nat.add_eq_left, Nat.left_eq_add, Nat.one_ne_zero, Nat.reduceAdd, Nat.reduceLT, Nat.reduceLeDiff, Nat.reduceEqDiff, true_implies, false_implies, implies_true, Option.some.injEq, forall_eq', forall_eq, reduceCtorEq, brT, brF, br_s, i_10, i_01, ib_0_2, ib_1_2, tn_0, tn_1, Int32.le_refl, eq_self, rv_bN, rv_iM, RCX 0, RCG 2, RCT 4, RCT 15, RCT 25, RCS 35, RCS 49, RCH 63, RCP 67, RCB 72, RCR 77, RCM 81, RLY, lit_at hw, e0, e1, eb, en, c1, c2]
      exact hQ
    · rw [iB_t (by unfold isDg; rw [decide_eq_true_eq]; omega)] at hQ
      have c2 : ((57 : Int32) < Int32.ofNat (t i)) ↔ False := iff_false_intro (fun q => b (x2.mp q))
      simp only [↓br_pos, ↓br_neg, ↓rF_I, ↓rF_L, ↓rF_R, ↓rF_N, rO_m, rB_m, ↓rI_m, wI_m, ↓rB2_m, ↓rB3_m, wB2_m, wB3_m, ↓rL_m, wL_m, ↓rQ_m, wQ_m, ↓lI_m, pI_m, pL_m, pR_m, sI_m, sBy_m, sBo_m, sL_m, sQ_m, fst_m, true_and, and_true, tg_some, ln_some, uI_1, uI_2, uL_1, uL_2, uL_3, uQ_1, uQ_2, uQ_3, rv_i, rv_l, rv_n, rv_b0, rv_b1, RMR, ne_eq, reduceCtorEq, not_false_eq_true, Option.getD_some, if_true, if_false, and_self, false_and, and_false, Nat.add_left_cancel_iff, Nat.add_eq_left, Nat.left_eq_add, Nat.one_ne_zero, Nat.reduceAdd, Nat.reduceLT, Nat.reduceLeDiff, Nat.reduceEqDiff, true_implies, false_implies, implies_true, Option.some.injEq, forall_eq', forall_eq, reduceCtorEq, brT, brF, br_s, i_10, i_01, ib_0_2, ib_1_2, tn_0, tn_1, Int32.le_refl, eq_self, rv_bN, rv_iM, RCX 0, RCG 2, RCT 4, RCT 15, RCT 25, RCS 35, RCS 49, RCH 63, RCP 67, RCB 72, RCR 77, RCM 81, RLY, lit_at hw, e0, e1, eb, en, c1, c2]
      exact hQ
theorem lp_103 {w : mT} {t : Nat → Nat} {n : Nat} (hw : lit w) (ht : ∀ i, t i < 256) (hn : n ≤ 600) : ∀ (k i : Nat) (σ : mS), i + k = n → tBy σ t → σ.1 2 3 = Int32.ofNat i → σ.1 2 1 = Int32.ofNat n → ∃ σ', frR 2 3 σ σ' ∧ σ'.1 2 3 = Int32.ofNat (spn isLt t n k i) ∧ (∀ j, j ≠ 3 → σ'.1 2 j = σ.1 2 j) ∧ ∀ {Q : Option (Option Value) → Hp → Prop} {d : Nat}, 1 ≤ d → Q (some none) (mW w σ') → Wp 39 103 [.ref 2] [] (mW w σ) Q d := by
  intro k
  induction k with
  | zero =>
    intro i σ hi hB h3 h1
    have hi' : i = n := by omega
    subst hi'
    refine ⟨σ, frR_rf, h3, fun _ _ => rfl, fun hd hQ => ?_⟩
    refine b39_103 ?_
    simp only [↓br_pos, ↓br_neg, ↓rF_I, ↓rF_L, ↓rF_R, ↓rF_N, rO_m, rB_m, ↓rI_m, wI_m, ↓rB2_m, ↓rB3_m, wB2_m, wB3_m, ↓rL_m, wL_m, ↓rQ_m, wQ_m, ↓lI_m, pI_m, pL_m, pR_m, sI_m, sBy_m, sBo_m, sL_m, sQ_m, fst_m, true_and, and_true, tg_some, ln_some, uI_1, uI_2, uL_1, uL_2, uL_3, uQ_1, uQ_2, uQ_3, rv_i, rv_l, rv_n, rv_b0, rv_b1, RMR, ne_eq, reduceCtorEq, not_false_eq_true, Option.getD_some, if_true, if_false, and_self, false_and, and_false, Nat.add_left_cancel_iff, Nat.add_eq_left, Nat.left_eq_add, Nat.one_ne_zero, Nat.reduceAdd, Nat.reduceLT, Nat.reduceLeDiff, Nat.reduceEqDiff, true_implies, false_implies, implies_true, Option.some.injEq, forall_eq', forall_eq, reduceCtorEq, brT, brF, br_s, i_10, i_01, ib_0_2, ib_1_2, tn_0, tn_1, Int32.le_refl, eq_self, rv_bN, rv_iM, RCX 0, RCG 2, RCT 4, RCT 15, RCT 25, RCS 35, RCS 49, RCH 63, RCP 67, RCB 72, RCR 77, RCM 81, RLY, lit_at hw, h3, h1, Int32.le_refl]
    exact hQ
  | succ k ih =>
    intro i σ hi hB h3 h1
    have l1 : (Int32.ofNat n ≤ Int32.ofNat i) ↔ False := iff_false_intro (fun q => absurd ((on_le (by omega) (by omega)).mp q) (by omega))
    by_cases z : isLt (t i) = true
    · have ez : iB (isLt (t i) = true) = 1 := iB_t z
      have fr1 : frR 2 3 σ (uI σ 2 3 (Int32.ofNat (i + 1))) := frR_I (by omega)
      obtain ⟨σ', f', e', o', k'⟩ := ih (i + 1) (uI σ 2 3 (Int32.ofNat (i + 1))) (by omega) (tBy_R hB fr1) (by rw [uI_1, if_pos ⟨rfl, rfl⟩]) (by rw [uI_1, if_neg (by omega)]; exact h1)
      refine ⟨σ', frR_tr fr1 f', by rw [spn_s, if_pos ⟨by omega, z⟩]; exact e', fun j hj => by rw [o' j hj, uI_1, if_neg (fun q => hj q.2)], fun hd hQ => ?_⟩
      refine b39_103 ?_
      simp only [↓br_pos, ↓br_neg, ↓rF_I, ↓rF_L, ↓rF_R, ↓rF_N, rO_m, rB_m, ↓rI_m, wI_m, ↓rB2_m, ↓rB3_m, wB2_m, wB3_m, ↓rL_m, wL_m, ↓rQ_m, wQ_m, ↓lI_m, pI_m, pL_m, pR_m, sI_m, sBy_m, sBo_m, sL_m, sQ_m, fst_m, true_and, and_true, tg_some, ln_some, uI_1, uI_2, uL_1, uL_2, uL_3, uQ_1, uQ_2, uQ_3, rv_i, rv_l, rv_n, rv_b0, rv_b1, RMR, ne_eq, reduceCtorEq, not_false_eq_true, Option.getD_some, if_true, if_false, and_self, false_and, and_false, Nat.add_left_cancel_iff, Nat.add_eq_left, Nat.left_eq_add, Nat.one_ne_zero, Nat.reduceAdd, Nat.reduceLT, Nat.reduceLeDiff, Nat.reduceEqDiff, true_implies, false_implies, implies_true, Option.some.injEq, forall_eq', forall_eq, reduceCtorEq, brT, brF, br_s, i_10, i_01, ib_0_2, ib_1_2, tn_0, tn_1, Int32.le_refl, eq_self, rv_bN, rv_iM, RCX 0, RCG 2, RCT 4, RCT 15, RCT 25, RCS 35, RCS 49, RCH 63, RCP 67, RCB 72, RCR 77, RCM 81, RLY, lit_at hw, h3, h1, l1, g_40 hw hB ht (by omega : i < 600) hd, ez, on_succ]
      exact k' hd hQ
    · have ez : iB (isLt (t i) = true) = 0 := iB_f z
      refine ⟨σ, frR_rf, by rw [spn_s, if_neg (fun q => z q.2)]; exact h3, fun _ _ => rfl, fun hd hQ => ?_⟩
      refine b39_103 ?_
      simp only [↓br_pos, ↓br_neg, ↓rF_I, ↓rF_L, ↓rF_R, ↓rF_N, rO_m, rB_m, ↓rI_m, wI_m, ↓rB2_m, ↓rB3_m, wB2_m, wB3_m, ↓rL_m, wL_m, ↓rQ_m, wQ_m, ↓lI_m, pI_m, pL_m, pR_m, sI_m, sBy_m, sBo_m, sL_m, sQ_m, fst_m, true_and, and_true, tg_some, ln_some, uI_1, uI_2, uL_1, uL_2, uL_3, uQ_1, uQ_2, uQ_3, rv_i, rv_l, rv_n, rv_b0, rv_b1, RMR, ne_eq, reduceCtorEq, not_false_eq_true, Option.getD_some, if_true, if_false, and_self, false_and, and_false, Nat.add_left_cancel_iff, Nat.add_eq_left, Nat.left_eq_add, Nat.one_ne_zero, Nat.reduceAdd, Nat.reduceLT, Nat.reduceLeDiff, Nat.reduceEqDiff, true_implies, false_implies, implies_true, Option.some.injEq, forall_eq', forall_eq, reduceCtorEq, brT, brF, br_s, i_10, i_01, ib_0_2, ib_1_2, tn_0, tn_1, Int32.le_refl, eq_self, rv_bN, rv_iM, RCX 0, RCG 2, RCT 4, RCT 15, RCT 25, RCS 35, RCS 49, RCH 63, RCP 67, RCB 72, RCR 77, RCM 81, RLY, lit_at hw, h3, h1, l1, g_40 hw hB ht (by omega : i < 600) hd, ez]
      exact hQ
theorem lp_154 {w : mT} {t : Nat → Nat} {n : Nat} (hw : lit w) (ht : ∀ i, t i < 256) (hn : n ≤ 600) : ∀ (k i : Nat) (σ : mS), i + k = n → tBy σ t → σ.1 2 3 = Int32.ofNat i → σ.1 2 1 = Int32.ofNat n → ∃ σ', frR 2 3 σ σ' ∧ σ'.1 2 3 = Int32.ofNat (spn isDg t n k i) ∧ (∀ j, j ≠ 3 → σ'.1 2 j = σ.1 2 j) ∧ ∀ {Q : Option (Option Value) → Hp → Prop} {d : Nat}, 1 ≤ d → Q (some none) (mW w σ') → Wp 39 154 [.ref 2] [] (mW w σ) Q d := by
  intro k
  induction k with
  | zero =>
    intro i σ hi hB h3 h1
    have hi' : i = n := by omega
    subst hi'
    refine ⟨σ, frR_rf, h3, fun _ _ => rfl, fun hd hQ => ?_⟩
    refine b39_154 ?_
    simp only [↓br_pos, ↓br_neg, ↓rF_I, ↓rF_L, ↓rF_R, ↓rF_N, rO_m, rB_m, ↓rI_m, wI_m, ↓rB2_m, ↓rB3_m, wB2_m, wB3_m, ↓rL_m, wL_m, ↓rQ_m, wQ_m, ↓lI_m, pI_m, pL_m, pR_m, sI_m, sBy_m, sBo_m, sL_m, sQ_m, fst_m, true_and, and_true, tg_some, ln_some, uI_1, uI_2, uL_1, uL_2, uL_3, uQ_1, uQ_2, uQ_3, rv_i, rv_l, rv_n, rv_b0, rv_b1, RMR, ne_eq, reduceCtorEq, not_false_eq_true, Option.getD_some, if_true, if_false, and_self, false_and, and_false, Nat.add_left_cancel_iff, Nat.add_eq_left, Nat.left_eq_add, Nat.one_ne_zero, Nat.reduceAdd, Nat.reduceLT, Nat.reduceLeDiff, Nat.reduceEqDiff, true_implies, false_implies, implies_true, Option.some.injEq, forall_eq', forall_eq, reduceCtorEq, brT, brF, br_s, i_10, i_01, ib_0_2, ib_1_2, tn_0, tn_1, Int32.le_refl, eq_self, rv_bN, rv_iM, RCX 0, RCG 2, RCT 4, RCT 15, RCT 25, RCS 35, RCS 49, RCH 63, RCP 67, RCB 72, RCR 77, RCM 81, RLY, lit_at hw, h3, h1, Int32.le_refl]
    exact hQ
  | succ k ih =>
    intro i σ hi hB h3 h1
    have l1 : (Int32.ofNat n ≤ Int32.ofNat i) ↔ False := iff_false_intro (fun q => absurd ((on_le (by omega) (by omega)).mp q) (by omega))
    by_cases z : isDg (t i) = true
    · have ez : iB (isDg (t i) = true) = 1 := iB_t z
      have fr1 : frR 2 3 σ (uI σ 2 3 (Int32.ofNat (i + 1))) := frR_I (by omega)
      obtain ⟨σ', f', e', o', k'⟩ := ih (i + 1) (uI σ 2 3 (Int32.ofNat (i + 1))) (by omega) (tBy_R hB fr1) (by rw [uI_1, if_pos ⟨rfl, rfl⟩]) (by rw [uI_1, if_neg (by omega)]; exact h1)
      refine ⟨σ', frR_tr fr1 f', by rw [spn_s, if_pos ⟨by omega, z⟩]; exact e', fun j hj => by rw [o' j hj, uI_1, if_neg (fun q => hj q.2)], fun hd hQ => ?_⟩
      refine b39_154 ?_
      simp only [↓br_pos, ↓br_neg, ↓rF_I, ↓rF_L, ↓rF_R, ↓rF_N, rO_m, rB_m, ↓rI_m, wI_m, ↓rB2_m, ↓rB3_m, wB2_m, wB3_m, ↓rL_m, wL_m, ↓rQ_m, wQ_m, ↓lI_m, pI_m, pL_m, pR_m, sI_m, sBy_m, sBo_m, sL_m, sQ_m, fst_m, true_and, and_true, tg_some, ln_some, uI_1, uI_2, uL_1, uL_2, uL_3, uQ_1, uQ_2, uQ_3, rv_i, rv_l, rv_n, rv_b0, rv_b1, RMR, ne_eq, reduceCtorEq, not_false_eq_true, Option.getD_some, if_true, if_false, and_self, false_and, and_false, Nat.add_left_cancel_iff, Nat.add_eq_left, Nat.left_eq_add, Nat.one_ne_zero, Nat.reduceAdd, Nat.reduceLT, Nat.reduceLeDiff, Nat.reduceEqDiff, true_implies, false_implies, implies_true, Option.some.injEq, forall_eq', forall_eq, reduceCtorEq, brT, brF, br_s, i_10, i_01, ib_0_2, ib_1_2, tn_0, tn_1, Int32.le_refl, eq_self, rv_bN, rv_iM, RCX 0, RCG 2, RCT 4, RCT 15, RCT 25, RCS 35, RCS 49, RCH 63, RCP 67, RCB 72, RCR 77, RCM 81, RLY, lit_at hw, h3, h1, l1, g_41 hw hB ht (by omega : i < 600) hd, ez, on_succ]
      exact k' hd hQ
    · have ez : iB (isDg (t i) = true) = 0 := iB_f z
      refine ⟨σ, frR_rf, by rw [spn_s, if_neg (fun q => z q.2)]; exact h3, fun _ _ => rfl, fun hd hQ => ?_⟩
      refine b39_154 ?_
      simp only [↓br_pos, ↓br_neg, ↓rF_I, ↓rF_L, ↓rF_R, ↓rF_N, rO_m, rB_m, ↓rI_m, wI_m, ↓rB2_m, ↓rB3_m, wB2_m, wB3_m, ↓rL_m, wL_m, ↓rQ_m, wQ_m, ↓lI_m, pI_m, pL_m, pR_m, sI_m, sBy_m, sBo_m, sL_m, sQ_m, fst_m, true_and, and_true, tg_some, ln_some, uI_1, uI_2, uL_1, uL_2, uL_3, uQ_1, uQ_2, uQ_3, rv_i, rv_l, rv_n, rv_b0, rv_b1, RMR, ne_eq, reduceCtorEq, not_false_eq_true, Option.getD_some, if_true, if_false, and_self, false_and, and_false, Nat.add_left_cancel_iff, Nat.add_eq_left, Nat.left_eq_add, Nat.one_ne_zero, Nat.reduceAdd, Nat.reduceLT, Nat.reduceLeDiff, Nat.reduceEqDiff, true_implies, false_implies, implies_true, Option.some.injEq, forall_eq', forall_eq, reduceCtorEq, brT, brF, br_s, i_10, i_01, ib_0_2, ib_1_2, tn_0, tn_1, Int32.le_refl, eq_self, rv_bN, rv_iM, RCX 0, RCG 2, RCT 4, RCT 15, RCT 25, RCS 35, RCS 49, RCH 63, RCP 67, RCB 72, RCR 77, RCM 81, RLY, lit_at hw, h3, h1, l1, g_41 hw hB ht (by omega : i < 600) hd, ez]
      exact hQ
/-- the next word, number or sign -/
theorem lp_39 {w : mT} {t : Nat → Nat} {n : Nat} (hw : lit w) (ht : ∀ i, t i < 256) (hn : n ≤ 600) : ∀ (k i : Nat) (σ : mS), i + k = n → tBy σ t → σ.1 2 2 = Int32.ofNat i → σ.1 2 1 = Int32.ofNat n → ∃ σ', frR 2 3 σ σ' ∧ σ'.1 2 2 = Int32.ofNat (spn isWs t n k i) ∧ σ'.1 2 3 = Int32.ofNat (tkE t n (spn isWs t n k i)) ∧ σ'.1 2 4 = Int32.ofNat (tkK t n (spn isWs t n k i)) ∧ (∀ j, j ≠ 2 → j ≠ 3 → j ≠ 4 → σ'.1 2 j = σ.1 2 j) ∧ ∀ {Q : Option (Option Value) → Hp → Prop} {d : Nat}, 2 ≤ d → Q (some none) (mW w σ') → Wp 39 8 [.ref 2] [] (mW w σ) Q d := by
  intro k
  induction k with
  | zero =>
    intro i σ hi hB h2 h1
    have hi' : i = n := by omega
    subst hi'
    have es : spn isWs t i 0 i = i := rfl
    rw [es]
    have ek : tkK t i i = 0 := if_pos (Nat.le_refl _)
    have ee : tkE t i i = i := if_pos (Nat.le_refl _)
    have l2 : (Int32.ofNat i < Int32.ofNat i) ↔ False := iff_false_intro (fun q => absurd ((on_lt (by omega) (by omega)).mp q) (by omega))
    refine ⟨uI (uI σ 2 3 (Int32.ofNat i)) 2 4 0, frR_tr (frR_I (by omega)) (frR_I (by omega)), by rw [uI_1, if_neg (by omega), uI_1, if_neg (by omega)]; exact h2, by rw [ee, uI_1, if_neg (by omega), uI_1, if_pos ⟨rfl, rfl⟩], by rw [ek, uI_1, if_pos ⟨rfl, rfl⟩]; rfl, fun j j2 j3 j4 => by rw [uI_1, if_neg (fun q => j4 q.2), uI_1, if_neg (fun q => j3 q.2)], fun hd hQ => ?_⟩
    refine b39_8 ?_
    simp only [↓br_pos, ↓br_neg, ↓rF_I, ↓rF_L, ↓rF_R, ↓rF_N, rO_m, rB_m, ↓rI_m, wI_m, ↓rB2_m, ↓rB3_m, wB2_m, wB3_m, ↓rL_m, wL_m, ↓rQ_m, wQ_m, ↓lI_m, pI_m, pL_m, pR_m, sI_m, sBy_m, sBo_m, sL_m, sQ_m, fst_m, true_and, and_true, tg_some, ln_some, uI_1, uI_2, uL_1, uL_2, uL_3, uQ_1, uQ_2, uQ_3, rv_i, rv_l, rv_n, rv_b0, rv_b1, RMR, ne_eq, reduceCtorEq, not_false_eq_true, Option.getD_some, if_true, if_false, and_self, false_and, and_false, Nat.add_left_cancel_iff, Nat.add_eq_left, Nat.left_eq_add, Nat.one_ne_zero, Nat.reduceAdd, Nat.reduceLT, Nat.reduceLeDiff, Nat.reduceEqDiff, true_implies, false_implies, implies_true, Option.some.injEq, forall_eq', forall_eq, reduceCtorEq, brT, brF, br_s, i_10, i_01, ib_0_2, ib_1_2, tn_0, tn_1, Int32.le_refl, eq_self, rv_bN, rv_iM, RCX 0, RCG 2, RCT 4, RCT 15, RCT 25, RCS 35, RCS 49, RCH 63, RCP 67, RCB 72, RCR 77, RCM 81, RLY, lit_at hw, h2, h1, Int32.le_refl, l2]
    exact hQ
  | succ k ih =>
    intro i σ hi hB h2 h1
    have l1 : (Int32.ofNat n ≤ Int32.ofNat i) ↔ False := iff_false_intro (fun q => absurd ((on_le (by omega) (by omega)).mp q) (by omega))
    have l2 : (Int32.ofNat i < Int32.ofNat n) ↔ True := iff_true_intro ((on_lt (by omega) (by omega)).mpr (by omega))
    have e0 := hB.1
    have e1 := hB.2 i (by omega)
    have hti := ht i
    have eb : inB (Int32.ofNat i) 600 = true := on_inB (by omega) (by omega)
    have en := on_nat (i := i) (by omega)
    have x1 := of_inj (a := t i) (b := 32) (by omega) (by omega)
    have x2 := of_inj (a := t i) (b := 10) (by omega) (by omega)
    have x3 := of_inj (a := t i) (b := 59) (by omega) (by omega)
    by_cases z : isWs (t i) = true
    · have fr1 : frR 2 3 σ (uI σ 2 2 (Int32.ofNat (i + 1))) := frR_I (by omega)
      obtain ⟨σ', f', a', b', c', o', k'⟩ := ih (i + 1) (uI σ 2 2 (Int32.ofNat (i + 1))) (by omega) (tBy_R hB fr1) (by rw [uI_1, if_pos ⟨rfl, rfl⟩]) (by rw [uI_1, if_neg (by omega)]; exact h1)
      have es : spn isWs t n (k + 1) i = spn isWs t n k (i + 1) := by rw [spn_s, if_pos ⟨by omega, z⟩]
      rw [es]
      refine ⟨σ', frR_tr fr1 f', a', b', c', fun j j2 j3 j4 => by rw [o' j j2 j3 j4, uI_1, if_neg (fun q => j2 q.2)], fun hd hQ => ?_⟩
      have hz := of_decide_eq_true z
      refine b39_8 ?_
      by_cases y : t i = 32
      · have c1 : (Int32.ofNat (t i) = (32 : Int32)) ↔ True := iff_true_intro (x1.mpr y)
        simp only [↓br_pos, ↓br_neg, ↓rF_I, ↓rF_L, ↓rF_R, ↓rF_N, rO_m, rB_m, ↓rI_m, wI_m, ↓rB2_m, ↓rB3_m, wB2_m, wB3_m, ↓rL_m, wL_m, ↓rQ_m, wQ_m, ↓lI_m, pI_m, pL_m, pR_m, sI_m, sBy_m, sBo_m, sL_m, sQ_m, fst_m, true_and, and_true, tg_some, ln_some, uI_1, uI_2, uL_1, uL_2, uL_3, uQ_1, uQ_2, uQ_3, rv_i, rv_l, rv_n, rv_b0, rv_b1, RMR, ne_eq, reduceCtorEq, not_false_eq_true, Option.getD_some, if_true, if_false, and_self, false_and, and_false, Nat.add_left_cancel_iff, Nat.add_eq_left, Nat.left_eq_add, Nat.one_ne_zero, Nat.reduceAdd, Nat.reduceLT, Nat.reduceLeDiff, Nat.reduceEqDiff, true_implies, false_implies, implies_true, Option.some.injEq, forall_eq', forall_eq, reduceCtorEq, brT, brF, br_s, i_10, i_01, ib_0_2, ib_1_2, tn_0, tn_1, Int32.le_refl, eq_self, rv_bN, rv_iM, RCX 0, RCG 2, RCT 4, RCT 15, RCT 25, RCS 35, RCS 49, RCH 63, RCP 67, RCB 72, RCR 77, RCM 81, RLY, lit_at hw, h2, h1, l1, e0, e1, eb, en, c1, on_succ]
        exact k' hd hQ
      · have c1 : (Int32.ofNat (t i) = (32 : Int32)) ↔ False := iff_false_intro (fun q => y (x1.mp q))
        have c2 : (Int32.ofNat (t i) = (10 : Int32)) ↔ True := iff_true_intro (x2.mpr (by omega))
        simp only [↓br_pos, ↓br_neg, ↓rF_I, ↓rF_L, ↓rF_R, ↓rF_N, rO_m, rB_m, ↓rI_m, wI_m, ↓rB2_m, ↓rB3_m, wB2_m, wB3_m, ↓rL_m, wL_m, ↓rQ_m, wQ_m, ↓lI_m, pI_m, pL_m, pR_m, sI_m, sBy_m, sBo_m, sL_m, sQ_m, fst_m, true_and, and_true, tg_some, ln_some, uI_1, uI_2, uL_1, uL_2, uL_3, uQ_1, uQ_2, uQ_3, rv_i, rv_l, rv_n, rv_b0, rv_b1, RMR, ne_eq, reduceCtorEq, not_false_eq_true, Option.getD_some, if_true, if_false, and_self, false_and, and_false, Nat.add_left_cancel_iff, Nat.add_eq_left, Nat.left_eq_add, Nat.one_ne_zero, Nat.reduceAdd, Nat.reduceLT, Nat.reduceLeDiff, Nat.reduceEqDiff, true_implies, false_implies, implies_true, Option.some.injEq, forall_eq', forall_eq, reduceCtorEq, brT, brF, br_s, i_10, i_01, ib_0_2, ib_1_2, tn_0, tn_1, Int32.le_refl, eq_self, rv_bN, rv_iM, RCX 0, RCG 2, RCT 4, RCT 15, RCT 25, RCS 35, RCS 49, RCH 63, RCP 67, RCB 72, RCR 77, RCM 81, RLY, lit_at hw, h2, h1, l1, e0, e1, eb, en, c1, c2, on_succ]
        exact k' hd hQ
    · have es : spn isWs t n (k + 1) i = i := by rw [spn_s, if_neg (fun q => z q.2)]
      rw [es]
      have nz : ¬ (t i = 32 ∨ t i = 10) := fun q => z (decide_eq_true q)
      have c1 : (Int32.ofNat (t i) = (32 : Int32)) ↔ False := iff_false_intro (fun q => nz (Or.inl (x1.mp q)))
      have c2 : (Int32.ofNat (t i) = (10 : Int32)) ↔ False := iff_false_intro (fun q => nz (Or.inr (x2.mp q)))
      have fr1 : frR 2 3 σ (uI σ 2 3 (Int32.ofNat i)) := frR_I (by omega)
      have hB1 := tBy_R hB fr1
      have nin : ¬ n ≤ i := by omega
      by_cases y : isLt (t i) = true
      · have ek : tkK t n i = 1 := by unfold tkK; rw [if_neg nin, if_pos y]
        have ee : tkE t n i = spn isLt t n (n - i) i := by unfold tkE; rw [if_neg nin, if_pos y]
        have ez : iB (isLt (t i) = true) = 1 := iB_t y
        have fr2 : frR 2 3 (uI σ 2 3 (Int32.ofNat i)) (uI (uI σ 2 3 (Int32.ofNat i)) 2 4 1) := frR_I (by omega)
        obtain ⟨σ', f', e', o', k'⟩ := lp_103 hw ht hn (n - i) i (uI (uI σ 2 3 (Int32.ofNat i)) 2 4 1) (by omega) (tBy_R hB1 fr2) (by rw [uI_1, if_neg (by omega), uI_1, if_pos ⟨rfl, rfl⟩]) (by rw [uI_1, if_neg (by omega), uI_1, if_neg (by omega)]; exact h1)
        refine ⟨σ', frR_tr fr1 (frR_tr fr2 f'), by rw [o' 2 (by omega), uI_1, if_neg (by omega), uI_1, if_neg (by omega)]; exact h2, by rw [ee]; exact e', by rw [ek, o' 4 (by omega), uI_1, if_pos ⟨rfl, rfl⟩]; rfl, fun j j2 j3 j4 => by rw [o' j j3, uI_1, if_neg (fun q => j4 q.2), uI_1, if_neg (fun q => j3 q.2)], fun hd hQ => ?_⟩
        have hd1 := Nat.le_of_succ_le hd
        refine b39_8 ?_
        simp only [↓br_pos, ↓br_neg, ↓rF_I, ↓rF_L, ↓rF_R, ↓rF_N, rO_m, rB_m, ↓rI_m, wI_m, ↓rB2_m, ↓rB3_m, wB2_m, wB3_m, ↓rL_m, wL_m, ↓rQ_m, wQ_m, ↓lI_m, pI_m, pL_m, pR_m, sI_m, sBy_m, sBo_m, sL_m, sQ_m, fst_m, true_and, and_true, tg_some, ln_some, uI_1, uI_2, uL_1, uL_2, uL_3, uQ_1, uQ_2, uQ_3, rv_i, rv_l, rv_n, rv_b0, rv_b1, RMR, ne_eq, reduceCtorEq, not_false_eq_true, Option.getD_some, if_true, if_false, and_self, false_and, and_false, Nat.add_left_cancel_iff, Nat.add_eq_left, Nat.left_eq_add, Nat.one_ne_zero, Nat.reduceAdd, Nat.reduceLT, Nat.reduceLeDiff, Nat.reduceEqDiff, true_implies, false_implies, implies_true, Option.some.injEq, forall_eq', forall_eq, reduceCtorEq, brT, brF, br_s, i_10, i_01, ib_0_2, ib_1_2, tn_0, tn_1, Int32.le_refl, eq_self, rv_bN, rv_iM, RCX 0, RCG 2, RCT 4, RCT 15, RCT 25, RCS 35, RCS 49, RCH 63, RCP 67, RCB 72, RCR 77, RCM 81, RLY, lit_at hw, h2, h1, l1, l2, e0, e1, eb, en, c1, c2, g_40 hw hB1 ht (by omega : i < 600) hd1, ez]
        exact k' hd1 hQ
      · have ez : iB (isLt (t i) = true) = 0 := iB_f y
        by_cases v : isDg (t i) = true
        · have ek : tkK t n i = 2 := by unfold tkK; rw [if_neg nin, if_neg y, if_pos v]
          have ee : tkE t n i = spn isDg t n (n - i) i := by unfold tkE; rw [if_neg nin, if_neg y, if_pos v]
          have ev : iB (isDg (t i) = true) = 1 := iB_t v
          have fr2 : frR 2 3 (uI σ 2 3 (Int32.ofNat i)) (uI (uI σ 2 3 (Int32.ofNat i)) 2 4 2) := frR_I (by omega)
          obtain ⟨σ', f', e', o', k'⟩ := lp_154 hw ht hn (n - i) i (uI (uI σ 2 3 (Int32.ofNat i)) 2 4 2) (by omega) (tBy_R hB1 fr2) (by rw [uI_1, if_neg (by omega), uI_1, if_pos ⟨rfl, rfl⟩]) (by rw [uI_1, if_neg (by omega), uI_1, if_neg (by omega)]; exact h1)
          refine ⟨σ', frR_tr fr1 (frR_tr fr2 f'), by rw [o' 2 (by omega), uI_1, if_neg (by omega), uI_1, if_neg (by omega)]; exact h2, by rw [ee]; exact e', by rw [ek, o' 4 (by omega), uI_1, if_pos ⟨rfl, rfl⟩]; rfl, fun j j2 j3 j4 => by rw [o' j j3, uI_1, if_neg (fun q => j4 q.2), uI_1, if_neg (fun q => j3 q.2)], fun hd hQ => ?_⟩
          have hd1 := Nat.le_of_succ_le hd
          refine b39_8 ?_
          simp only [↓br_pos, ↓br_neg, ↓rF_I, ↓rF_L, ↓rF_R, ↓rF_N, rO_m, rB_m, ↓rI_m, wI_m, ↓rB2_m, ↓rB3_m, wB2_m, wB3_m, ↓rL_m, wL_m, ↓rQ_m, wQ_m, ↓lI_m, pI_m, pL_m, pR_m, sI_m, sBy_m, sBo_m, sL_m, sQ_m, fst_m, true_and, and_true, tg_some, ln_some, uI_1, uI_2, uL_1, uL_2, uL_3, uQ_1, uQ_2, uQ_3, rv_i, rv_l, rv_n, rv_b0, rv_b1, RMR, ne_eq, reduceCtorEq, not_false_eq_true, Option.getD_some, if_true, if_false, and_self, false_and, and_false, Nat.add_left_cancel_iff, Nat.add_eq_left, Nat.left_eq_add, Nat.one_ne_zero, Nat.reduceAdd, Nat.reduceLT, Nat.reduceLeDiff, Nat.reduceEqDiff, true_implies, false_implies, implies_true, Option.some.injEq, forall_eq', forall_eq, reduceCtorEq, brT, brF, br_s, i_10, i_01, ib_0_2, ib_1_2, tn_0, tn_1, Int32.le_refl, eq_self, rv_bN, rv_iM, RCX 0, RCG 2, RCT 4, RCT 15, RCT 25, RCS 35, RCS 49, RCH 63, RCP 67, RCB 72, RCR 77, RCM 81, RLY, lit_at hw, h2, h1, l1, l2, e0, e1, eb, en, c1, c2, g_40 hw hB1 ht (by omega : i < 600) hd1, g_41 hw hB1 ht (by omega : i < 600) hd1, ez, ev]
          exact k' hd1 hQ
        · have ev : iB (isDg (t i) = true) = 0 := iB_f v
          have ee : tkE t n i = i + 1 := by unfold tkE; rw [if_neg nin, if_neg y, if_neg v]
          by_cases u : t i = 59
          · have ek : tkK t n i = 3 := by unfold tkK; rw [if_neg nin, if_neg y, if_neg v, if_pos u]
            have c3 : (Int32.ofNat (t i) = (59 : Int32)) ↔ True := iff_true_intro (x3.mpr u)
            refine ⟨uI (uI (uI σ 2 3 (Int32.ofNat i)) 2 4 3) 2 3 (Int32.ofNat (i + 1)), frR_tr fr1 (frR_tr (frR_I (by omega)) (frR_I (by omega))), by rw [uI_1, if_neg (by omega), uI_1, if_neg (by omega), uI_1, if_neg (by omega)]; exact h2, by rw [ee, uI_1, if_pos ⟨rfl, rfl⟩], by rw [ek, uI_1, if_neg (by omega), uI_1, if_pos ⟨rfl, rfl⟩]; rfl, fun j j2 j3 j4 => by rw [uI_1, if_neg (fun q => j3 q.2), uI_1, if_neg (fun q => j4 q.2), uI_1, if_neg (fun q => j3 q.2)], fun hd hQ => ?_⟩
            have hd1 := Nat.le_of_succ_le hd
            refine b39_8 ?_
            simp only [↓br_pos, ↓br_neg, ↓rF_I, ↓rF_L, ↓rF_R, ↓rF_N, rO_m, rB_m, ↓rI_m, wI_m, ↓rB2_m, ↓rB3_m, wB2_m, wB3_m, ↓rL_m, wL_m, ↓rQ_m, wQ_m, ↓lI_m, pI_m, pL_m, pR_m, sI_m, sBy_m, sBo_m, sL_m, sQ_m, fst_m, true_and, and_true, tg_some, ln_some, uI_1, uI_2, uL_1, uL_2, uL_3, uQ_1, uQ_2, uQ_3, rv_i, rv_l, rv_n, rv_b0, rv_b1, RMR, ne_eq, reduceCtorEq, not_false_eq_true, Option.getD_some, if_true, if_false, and_self, false_and, and_false, Nat.add_left_cancel_iff, Nat.add_eq_left, Nat.left_eq_add, Nat.one_ne_zero, Nat.reduceAdd, Nat.reduceLT, Nat.reduceLeDiff, Nat.reduceEqDiff, true_implies, false_implies, implies_true, Option.some.injEq, forall_eq', forall_eq, reduceCtorEq, brT, brF, br_s, i_10, i_01, ib_0_2, ib_1_2, tn_0, tn_1, Int32.le_refl, eq_self, rv_bN, rv_iM, RCX 0, RCG 2, RCT 4, RCT 15, RCT 25, RCS 35, RCS 49, RCH 63, RCP 67, RCB 72, RCR 77, RCM 81, RLY, lit_at hw, h2, h1, l1, l2, e0, e1, eb, en, c1, c2, c3, g_40 hw hB1 ht (by omega : i < 600) hd1, g_41 hw hB1 ht (by omega : i < 600) hd1, ez, ev, on_succ]
            exact hQ
          · have ek : tkK t n i = 4 := by unfold tkK; rw [if_neg nin, if_neg y, if_neg v, if_neg u]
            have c3 : (Int32.ofNat (t i) = (59 : Int32)) ↔ False := iff_false_intro (fun q => u (x3.mp q))
            refine ⟨uI (uI (uI σ 2 3 (Int32.ofNat i)) 2 4 4) 2 3 (Int32.ofNat (i + 1)), frR_tr fr1 (frR_tr (frR_I (by omega)) (frR_I (by omega))), by rw [uI_1, if_neg (by omega), uI_1, if_neg (by omega), uI_1, if_neg (by omega)]; exact h2, by rw [ee, uI_1, if_pos ⟨rfl, rfl⟩], by rw [ek, uI_1, if_neg (by omega), uI_1, if_pos ⟨rfl, rfl⟩]; rfl, fun j j2 j3 j4 => by rw [uI_1, if_neg (fun q => j3 q.2), uI_1, if_neg (fun q => j4 q.2), uI_1, if_neg (fun q => j3 q.2)], fun hd hQ => ?_⟩
            have hd1 := Nat.le_of_succ_le hd
            refine b39_8 ?_
            simp only [↓br_pos, ↓br_neg, ↓rF_I, ↓rF_L, ↓rF_R, ↓rF_N, rO_m, rB_m, ↓rI_m, wI_m, ↓rB2_m, ↓rB3_m, wB2_m, wB3_m, ↓rL_m, wL_m, ↓rQ_m, wQ_m, ↓lI_m, pI_m, pL_m, pR_m, sI_m, sBy_m, sBo_m, sL_m, sQ_m, fst_m, true_and, and_true, tg_some, ln_some, uI_1, uI_2, uL_1, uL_2, uL_3, uQ_1, uQ_2, uQ_3, rv_i, rv_l, rv_n, rv_b0, rv_b1, RMR, ne_eq, reduceCtorEq, not_false_eq_true, Option.getD_some, if_true, if_false, and_self, false_and, and_false, Nat.add_left_cancel_iff, Nat.add_eq_left, Nat.left_eq_add, Nat.one_ne_zero, Nat.reduceAdd, Nat.reduceLT, Nat.reduceLeDiff, Nat.reduceEqDiff, true_implies, false_implies, implies_true, Option.some.injEq, forall_eq', forall_eq, reduceCtorEq, brT, brF, br_s, i_10, i_01, ib_0_2, ib_1_2, tn_0, tn_1, Int32.le_refl, eq_self, rv_bN, rv_iM, RCX 0, RCG 2, RCT 4, RCT 15, RCT 25, RCS 35, RCS 49, RCH 63, RCP 67, RCB 72, RCR 77, RCM 81, RLY, lit_at hw, h2, h1, l1, l2, e0, e1, eb, en, c1, c2, c3, g_40 hw hB1 ht (by omega : i < 600) hd1, g_41 hw hB1 ht (by omega : i < 600) hd1, ez, ev, on_succ]
            exact hQ
end
