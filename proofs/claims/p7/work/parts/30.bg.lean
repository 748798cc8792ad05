/-! State: a state begins -/
def sBeg (τ : Rw) : Rw := fun j => if 12 ≤ j ∧ j < 24 then τ (j - 8) else 0
theorem sBeg_l {τ : Rw} {l : Nat} (h : l < 12) : sBeg τ (12 + l) = τ (4 + l) := by
  unfold sBeg
  rw [if_pos (by omega)]
  congr 1; omega
theorem sBeg_0 {τ : Rw} {j : Nat} (h : j < 12 ∨ 24 ≤ j) : sBeg τ j = 0 := by
  unfold sBeg
  exact if_neg (by omega)
theorem sm_cn {n c : Nat} {f : Nat → Nat} (h : ∀ i, i < n → f i ≤ c) : sm n f ≤ n * c := by
  induction n with
  | zero => exact Nat.zero_le _
  | succ n ih =>
    have a := ih (fun i hi => h i (by omega))
    have b := h n (by omega)
    rw [sm_s, Nat.succ_mul]; omega
theorem vRow_beg {τ : Rw} (hv : vTold τ) : vRow τ (sBeg τ) := by
  have v0 := hv.1
  have v2 := hv.2.2.1
  have z : ∀ j, (j < 12 ∨ 24 ≤ j) → sBeg τ j = 0 := fun j h => sBeg_0 h
  refine vR_mk (by rw [z 0 (by omega)]; omega) (fun m hm => Or.inl (z _ (by omega))) (fun m hm => by rw [z _ (by omega)]; omega) (by rw [z _ (by omega)]; omega) (by rw [z _ (by omega)]; omega) (fun p hp => by rw [z _ (by omega)]; omega) (fun p hp k hk => ?_) (fun p hp k hk hk2 c hc => z _ (by unfold li; omega)) ?_ (fun s hs => by rw [z _ (by omega), z _ (by omega)]; omega) (fun s hs => by rw [z _ (by omega)]; omega) (fun i hi => ?_) (fun i hi => ?_)
  · rw [z _ (by omega)] at hk; omega
  · have a1 : sm (τ 0) (fun l => sBeg τ (12 + l)) ≤ τ 0 * 9999 := sm_cn (fun l hl => by rw [sBeg_l (by omega)]; exact (hv.2.2.2.2.1 l hl).2.1)
    have a2 : sm 3 (fun p => sm 12 (fun c => tOn (sBeg τ) p c)) = 0 := sm_z (fun p hp => sm_z (fun c hc => by unfold tOn; rw [z _ (by omega)]; rfl))
    have a3 : sm (τ 2) (fun s => sBeg τ (27 + s)) = 0 := sm_z (fun s hs => z _ (by omega))
    unfold allT
    rw [a2, a3]
    have : τ 0 * 9999 ≤ 12 * 9999 := Nat.mul_le_mul_right _ v0
    omega
  · rw [z _ (by omega)] at hi; omega
  · rw [z _ (by omega)] at hi; omega
def V48 (σ : mS) (t : Nat) : Nat → Nat → Int32 := fun A J => if A = 1 then σ.1 (t + 1) J else if A = 7 ∨ A = 8 then -1 else 0
theorem lp_48a {w : mT} {σ : mS} {r t : Nat} (hR : isS w r) (hT : isT w t) (hd : r + 14 ≤ t ∨ t + 10 ≤ r) : ∀ (n i : Nat) (σi : mS) (R : Nat → Nat → Prop), i + n = 12 → cpV σ σi r (V48 σ t) R → ∃ σ', cpV σ σ' r (V48 σ t) (fun A J => R A J ∨ (A = 1 ∧ i ≤ J ∧ J < 12)) ∧ ∀ {Q : Option (Option Value) → Hp → Prop} {d : Nat}, Wp 48 38 [.ref r, .ref t, .int (0 : Int32)] [] (mW w σ') Q d → Wp 48 12 [.ref r, .ref t, .int (Int32.ofNat i)] [] (mW w σi) Q d := by
  simp only [isS] at hR
  simp only [isT] at hT
  intro n
  induction n with
  | zero =>
    intro i σi R hi h
    refine ⟨σi, cpV_mo h (fun A J q => q.resolve_right (by omega)), fun hQ => ?_⟩
    have l1 : ((12 : Int32) ≤ Int32.ofNat i) ↔ True := iff_true_intro ((on_le (i := 12) (by omega) (by omega)).mpr (by omega))
    refine b48_12 ?_
    simp only [↓rF_I, ↓rF_L, ↓rF_R, ↓rF_N, rO_m, rB_m, ↓rI_m, wI_m, ↓rB2_m, ↓rB3_m, wB2_m, wB3_m, ↓rL_m, wL_m, ↓rQ_m, wQ_m, ↓lI_m, pI_m, pL_m, pR_m, sI_m, sBy_m, sBo_m, sL_m, sQ_m, fst_m, true_and, and_true, tg_some, ln_some, uI_1, uI_2, uL_1, uL_2, uL_3, uQ_1, uQ_2, uQ_3, rv_i, rv_l, rv_n, rv_b0, rv_b1, RMR, ne_eq, reduceCtorEq, not_false_eq_true, Option.getD_some, if_true, if_false, and_self, false_and, and_false, Nat.add_left_cancel_iff, Nat.add_eq_left, Nat.left_eq_add, Nat.one_ne_zero, Nat.reduceAdd, Nat.reduceLT, Nat.reduceLeDiff, Nat.reduceEqDiff, true_implies, false_implies, implies_true, Option.some.injEq, forall_eq', forall_eq, reduceCtorEq, brT, brF, br_s, i_10, i_01, ib_0_2, ib_1_2, tn_0, tn_1, Int32.le_refl, eq_self, rv_bN, rv_iM, l1]
    exact hQ
  | succ n ih =>
    intro i σi R hi h
    have e : σi.1 (t + 1) i = σ.1 (t + 1) i := congrFun (h.1.1 (t + 1) (by omega)) i
    obtain ⟨σ', h1, h2⟩ := ih (i + 1) _ _ (by omega) (cpV_I (A := 1) (J := i) (v := σ.1 (t + 1) i) h (by omega) rfl)
    have hm : ∀ A J, (R A J ∨ (A = 1 ∧ i ≤ J ∧ J < 12)) → ((R A J ∨ (A = 1 ∧ i ≤ J ∧ J < i + 1)) ∨ (A = 1 ∧ i + 1 ≤ J ∧ J < 12)) := fun A J q => by
      rcases q with q | q
      · exact Or.inl (Or.inl (q))
      · have z : (A = 1 ∧ i ≤ J ∧ J < i + 1) ∨ (A = 1 ∧ i + 1 ≤ J ∧ J < 12) := by omega
        rcases z with z | z
        · exact Or.inl (Or.inr z)
        · exact Or.inr z
    refine ⟨σ', cpV_mo h1 hm, fun hQ => ?_⟩
    have l1 : ((12 : Int32) ≤ Int32.ofNat i) ↔ False := iff_false_intro (fun q => absurd ((on_le (i := 12) (by omega) (by omega)).mp q) (by omega))
    have eb : inB (Int32.ofNat i) 12 = true := on_inB (by omega) (by omega)
    have en := on_nat (i := i) (by omega)
    refine b48_12 ?_
    simp only [↓rF_I, ↓rF_L, ↓rF_R, ↓rF_N, rO_m, rB_m, ↓rI_m, wI_m, ↓rB2_m, ↓rB3_m, wB2_m, wB3_m, ↓rL_m, wL_m, ↓rQ_m, wQ_m, ↓lI_m, pI_m, pL_m, pR_m, sI_m, sBy_m, sBo_m, sL_m, sQ_m, fst_m, true_and, and_true, tg_some, ln_some, uI_1, uI_2, uL_1, uL_2, uL_3, uQ_1, uQ_2, uQ_3, rv_i, rv_l, rv_n, rv_b0, rv_b1, RMR, ne_eq, reduceCtorEq, not_false_eq_true, Option.getD_some, if_true, if_false, and_self, false_and, and_false, Nat.add_left_cancel_iff, Nat.add_eq_left, Nat.left_eq_add, Nat.one_ne_zero, Nat.reduceAdd, Nat.reduceLT, Nat.reduceLeDiff, Nat.reduceEqDiff, true_implies, false_implies, implies_true, Option.some.injEq, forall_eq', forall_eq, reduceCtorEq, brT, brF, br_s, i_10, i_01, ib_0_2, ib_1_2, tn_0, tn_1, Int32.le_refl, eq_self, rv_bN, rv_iM, RCS r, RCT t, hR, hT, l1, eb, en, e, on_succ]
    exact h2 hQ
theorem lp_48b {w : mT} {σ : mS} {r t : Nat} (hR : isS w r) : ∀ (n i : Nat) (σi : mS) (R : Nat → Nat → Prop), i + n = 3 → cpV σ σi r (V48 σ t) R → ∃ σ', cpV σ σ' r (V48 σ t) (fun A J => R A J ∨ (A = 2 ∧ i ≤ J ∧ J < 3)) ∧ ∀ {Q : Option (Option Value) → Hp → Prop} {d : Nat}, Wp 48 58 [.ref r, .ref t, .int (0 : Int32)] [] (mW w σ') Q d → Wp 48 38 [.ref r, .ref t, .int (Int32.ofNat i)] [] (mW w σi) Q d := by
  simp only [isS] at hR
  intro n
  induction n with
  | zero =>
    intro i σi R hi h
    refine ⟨σi, cpV_mo h (fun A J q => q.resolve_right (by omega)), fun hQ => ?_⟩
    have l1 : ((3 : Int32) ≤ Int32.ofNat i) ↔ True := iff_true_intro ((on_le (i := 3) (by omega) (by omega)).mpr (by omega))
    refine b48_38 ?_
    simp only [↓rF_I, ↓rF_L, ↓rF_R, ↓rF_N, rO_m, rB_m, ↓rI_m, wI_m, ↓rB2_m, ↓rB3_m, wB2_m, wB3_m, ↓rL_m, wL_m, ↓rQ_m, wQ_m, ↓lI_m, pI_m, pL_m, pR_m, sI_m, sBy_m, sBo_m, sL_m, sQ_m, fst_m, true_and, and_true, tg_some, ln_some, uI_1, uI_2, uL_1, uL_2, uL_3, uQ_1, uQ_2, uQ_3, rv_i, rv_l, rv_n, rv_b0, rv_b1, RMR, ne_eq, reduceCtorEq, not_false_eq_true, Option.getD_some, if_true, if_false, and_self, false_and, and_false, Nat.add_left_cancel_iff, Nat.add_eq_left, Nat.left_eq_add, Nat.one_ne_zero, Nat.reduceAdd, Nat.reduceLT, Nat.reduceLeDiff, Nat.reduceEqDiff, true_implies, false_implies, implies_true, Option.some.injEq, forall_eq', forall_eq, reduceCtorEq, brT, brF, br_s, i_10, i_01, ib_0_2, ib_1_2, tn_0, tn_1, Int32.le_refl, eq_self, rv_bN, rv_iM, l1]
    exact hQ
  | succ n ih =>
    intro i σi R hi h
    obtain ⟨σ', h1, h2⟩ := ih (i + 1) _ _ (by omega) (cpV_I (A := 2) (J := i) (v := 0) h (by omega) rfl)
    have hm : ∀ A J, (R A J ∨ (A = 2 ∧ i ≤ J ∧ J < 3)) → ((R A J ∨ (A = 2 ∧ i ≤ J ∧ J < i + 1)) ∨ (A = 2 ∧ i + 1 ≤ J ∧ J < 3)) := fun A J q => by
      rcases q with q | q
      · exact Or.inl (Or.inl (q))
      · have z : (A = 2 ∧ i ≤ J ∧ J < i + 1) ∨ (A = 2 ∧ i + 1 ≤ J ∧ J < 3) := by omega
        rcases z with z | z
        · exact Or.inl (Or.inr z)
        · exact Or.inr z
    refine ⟨σ', cpV_mo h1 hm, fun hQ => ?_⟩
    have l1 : ((3 : Int32) ≤ Int32.ofNat i) ↔ False := iff_false_intro (fun q => absurd ((on_le (i := 3) (by omega) (by omega)).mp q) (by omega))
    have eb : inB (Int32.ofNat i) 3 = true := on_inB (by omega) (by omega)
    have en := on_nat (i := i) (by omega)
    refine b48_38 ?_
    simp only [↓rF_I, ↓rF_L, ↓rF_R, ↓rF_N, rO_m, rB_m, ↓rI_m, wI_m, ↓rB2_m, ↓rB3_m, wB2_m, wB3_m, ↓rL_m, wL_m, ↓rQ_m, wQ_m, ↓lI_m, pI_m, pL_m, pR_m, sI_m, sBy_m, sBo_m, sL_m, sQ_m, fst_m, true_and, and_true, tg_some, ln_some, uI_1, uI_2, uL_1, uL_2, uL_3, uQ_1, uQ_2, uQ_3, rv_i, rv_l, rv_n, rv_b0, rv_b1, RMR, ne_eq, reduceCtorEq, not_false_eq_true, Option.getD_some, if_true, if_false, and_self, false_and, and_false, Nat.add_left_cancel_iff, Nat.add_eq_left, Nat.left_eq_add, Nat.one_ne_zero, Nat.reduceAdd, Nat.reduceLT, Nat.reduceLeDiff, Nat.reduceEqDiff, true_implies, false_implies, implies_true, Option.some.injEq, forall_eq', forall_eq, reduceCtorEq, brT, brF, br_s, i_10, i_01, ib_0_2, ib_1_2, tn_0, tn_1, Int32.le_refl, eq_self, rv_bN, rv_iM, RCS r, hR, l1, eb, en, on_succ]
    exact h2 hQ
theorem lp_48c {w : mT} {σ : mS} {r t : Nat} (hR : isS w r) : ∀ (n i : Nat) (σi : mS) (R : Nat → Nat → Prop), i + n = 8 → cpV σ σi r (V48 σ t) R → ∃ σ', cpV σ σ' r (V48 σ t) (fun A J => R A J ∨ (5 ≤ A ∧ A < 8 ∧ i ≤ J ∧ J < 8)) ∧ ∀ {Q : Option (Option Value) → Hp → Prop} {d : Nat}, Wp 48 93 [.ref r, .ref t, .int (0 : Int32)] [] (mW w σ') Q d → Wp 48 58 [.ref r, .ref t, .int (Int32.ofNat i)] [] (mW w σi) Q d := by
  simp only [isS] at hR
  intro n
  induction n with
  | zero =>
    intro i σi R hi h
    refine ⟨σi, cpV_mo h (fun A J q => q.resolve_right (by omega)), fun hQ => ?_⟩
    have l1 : ((8 : Int32) ≤ Int32.ofNat i) ↔ True := iff_true_intro ((on_le (i := 8) (by omega) (by omega)).mpr (by omega))
    refine b48_58 ?_
    simp only [↓rF_I, ↓rF_L, ↓rF_R, ↓rF_N, rO_m, rB_m, ↓rI_m, wI_m, ↓rB2_m, ↓rB3_m, wB2_m, wB3_m, ↓rL_m, wL_m, ↓rQ_m, wQ_m, ↓lI_m, pI_m, pL_m, pR_m, sI_m, sBy_m, sBo_m, sL_m, sQ_m, fst_m, true_and, and_true, tg_some, ln_some, uI_1, uI_2, uL_1, uL_2, uL_3, uQ_1, uQ_2, uQ_3, rv_i, rv_l, rv_n, rv_b0, rv_b1, RMR, ne_eq, reduceCtorEq, not_false_eq_true, Option.getD_some, if_true, if_false, and_self, false_and, and_false, Nat.add_left_cancel_iff, Nat.add_eq_left, Nat.left_eq_add, Nat.one_ne_zero, Nat.reduceAdd, Nat.reduceLT, Nat.reduceLeDiff, Nat.reduceEqDiff, true_implies, false_implies, implies_true, Option.some.injEq, forall_eq', forall_eq, reduceCtorEq, brT, brF, br_s, i_10, i_01, ib_0_2, ib_1_2, tn_0, tn_1, Int32.le_refl, eq_self, rv_bN, rv_iM, l1]
    exact hQ
  | succ n ih =>
    intro i σi R hi h
    obtain ⟨σ', h1, h2⟩ := ih (i + 1) _ _ (by omega) (cpV_I (A := 7) (J := i) (v := -1) (cpV_I (A := 6) (J := i) (v := 0) (cpV_I (A := 5) (J := i) (v := 0) h (by omega) rfl) (by omega) rfl) (by omega) rfl)
    have hm : ∀ A J, (R A J ∨ (5 ≤ A ∧ A < 8 ∧ i ≤ J ∧ J < 8)) → ((((R A J ∨ (A = 5 ∧ i ≤ J ∧ J < i + 1)) ∨ (A = 6 ∧ i ≤ J ∧ J < i + 1)) ∨ (A = 7 ∧ i ≤ J ∧ J < i + 1)) ∨ (5 ≤ A ∧ A < 8 ∧ i + 1 ≤ J ∧ J < 8)) := fun A J q => by
      rcases q with q | q
      · exact Or.inl (Or.inl (Or.inl (Or.inl (q))))
      · have z : (A = 5 ∧ i ≤ J ∧ J < i + 1) ∨ (A = 6 ∧ i ≤ J ∧ J < i + 1) ∨ (A = 7 ∧ i ≤ J ∧ J < i + 1) ∨ (5 ≤ A ∧ A < 8 ∧ i + 1 ≤ J ∧ J < 8) := by omega
        rcases z with z | z | z | z
        · exact Or.inl (Or.inl (Or.inl (Or.inr z)))
        · exact Or.inl (Or.inl (Or.inr z))
        · exact Or.inl (Or.inr z)
        · exact Or.inr z
    refine ⟨σ', cpV_mo h1 hm, fun hQ => ?_⟩
    have l1 : ((8 : Int32) ≤ Int32.ofNat i) ↔ False := iff_false_intro (fun q => absurd ((on_le (i := 8) (by omega) (by omega)).mp q) (by omega))
    have eb : inB (Int32.ofNat i) 8 = true := on_inB (by omega) (by omega)
    have en := on_nat (i := i) (by omega)
    refine b48_58 ?_
    simp only [↓rF_I, ↓rF_L, ↓rF_R, ↓rF_N, rO_m, rB_m, ↓rI_m, wI_m, ↓rB2_m, ↓rB3_m, wB2_m, wB3_m, ↓rL_m, wL_m, ↓rQ_m, wQ_m, ↓lI_m, pI_m, pL_m, pR_m, sI_m, sBy_m, sBo_m, sL_m, sQ_m, fst_m, true_and, and_true, tg_some, ln_some, uI_1, uI_2, uL_1, uL_2, uL_3, uQ_1, uQ_2, uQ_3, rv_i, rv_l, rv_n, rv_b0, rv_b1, RMR, ne_eq, reduceCtorEq, not_false_eq_true, Option.getD_some, if_true, if_false, and_self, false_and, and_false, Nat.add_left_cancel_iff, Nat.add_eq_left, Nat.left_eq_add, Nat.one_ne_zero, Nat.reduceAdd, Nat.reduceLT, Nat.reduceLeDiff, Nat.reduceEqDiff, true_implies, false_implies, implies_true, Option.some.injEq, forall_eq', forall_eq, reduceCtorEq, brT, brF, br_s, i_10, i_01, ib_0_2, ib_1_2, tn_0, tn_1, Int32.le_refl, eq_self, rv_bN, rv_iM, RCS r, hR, l1, eb, en, on_succ]
    exact h2 hQ
theorem lp_48d {w : mT} {σ : mS} {r t : Nat} (hR : isS w r) : ∀ (n i : Nat) (σi : mS) (R : Nat → Nat → Prop), i + n = 2 → cpV σ σi r (V48 σ t) R → ∃ σ', cpV σ σ' r (V48 σ t) (fun A J => R A J ∨ (8 ≤ A ∧ A < 13 ∧ i ≤ J ∧ J < 2)) ∧ ∀ {Q : Option (Option Value) → Hp → Prop} {d : Nat}, Q (some none) (mW w σ') → Wp 48 93 [.ref r, .ref t, .int (Int32.ofNat i)] [] (mW w σi) Q d := by
  simp only [isS] at hR
  intro n
  induction n with
  | zero =>
    intro i σi R hi h
    refine ⟨σi, cpV_mo h (fun A J q => q.resolve_right (by omega)), fun hQ => ?_⟩
    have l1 : ((2 : Int32) ≤ Int32.ofNat i) ↔ True := iff_true_intro ((on_le (i := 2) (by omega) (by omega)).mpr (by omega))
    refine b48_93 ?_
    simp only [↓rF_I, ↓rF_L, ↓rF_R, ↓rF_N, rO_m, rB_m, ↓rI_m, wI_m, ↓rB2_m, ↓rB3_m, wB2_m, wB3_m, ↓rL_m, wL_m, ↓rQ_m, wQ_m, ↓lI_m, pI_m, pL_m, pR_m, sI_m, sBy_m, sBo_m, sL_m, sQ_m, fst_m, true_and, and_true, tg_some, ln_some, uI_1, uI_2, uL_1, uL_2, uL_3, uQ_1, uQ_2, uQ_3, rv_i, rv_l, rv_n, rv_b0, rv_b1, RMR, ne_eq, reduceCtorEq, not_false_eq_true, Option.getD_some, if_true, if_false, and_self, false_and, and_false, Nat.add_left_cancel_iff, Nat.add_eq_left, Nat.left_eq_add, Nat.one_ne_zero, Nat.reduceAdd, Nat.reduceLT, Nat.reduceLeDiff, Nat.reduceEqDiff, true_implies, false_implies, implies_true, Option.some.injEq, forall_eq', forall_eq, reduceCtorEq, brT, brF, br_s, i_10, i_01, ib_0_2, ib_1_2, tn_0, tn_1, Int32.le_refl, eq_self, rv_bN, rv_iM, l1]
    exact hQ
  | succ n ih =>
    intro i σi R hi h
    obtain ⟨σ', h1, h2⟩ := ih (i + 1) _ _ (by omega) (cpV_I (A := 12) (J := i) (v := 0) (cpV_I (A := 11) (J := i) (v := 0) (cpV_I (A := 10) (J := i) (v := 0) (cpV_I (A := 9) (J := i) (v := 0) (cpV_I (A := 8) (J := i) (v := -1) h (by omega) rfl) (by omega) rfl) (by omega) rfl) (by omega) rfl) (by omega) rfl)
    have hm : ∀ A J, (R A J ∨ (8 ≤ A ∧ A < 13 ∧ i ≤ J ∧ J < 2)) → ((((((R A J ∨ (A = 8 ∧ i ≤ J ∧ J < i + 1)) ∨ (A = 9 ∧ i ≤ J ∧ J < i + 1)) ∨ (A = 10 ∧ i ≤ J ∧ J < i + 1)) ∨ (A = 11 ∧ i ≤ J ∧ J < i + 1)) ∨ (A = 12 ∧ i ≤ J ∧ J < i + 1)) ∨ (8 ≤ A ∧ A < 13 ∧ i + 1 ≤ J ∧ J < 2)) := fun A J q => by
      rcases q with q | q
      · exact Or.inl (Or.inl (Or.inl (Or.inl (Or.inl (Or.inl (q))))))
      · have z : (A = 8 ∧ i ≤ J ∧ J < i + 1) ∨ (A = 9 ∧ i ≤ J ∧ J < i + 1) ∨ (A = 10 ∧ i ≤ J ∧ J < i + 1) ∨ (A = 11 ∧ i ≤ J ∧ J < i + 1) ∨ (A = 12 ∧ i ≤ J ∧ J < i + 1) ∨ (8 ≤ A ∧ A < 13 ∧ i + 1 ≤ J ∧ J < 2) := by omega
        rcases z with z | z | z | z | z | z
        · exact Or.inl (Or.inl (Or.inl (Or.inl (Or.inl (Or.inr z)))))
        · exact Or.inl (Or.inl (Or.inl (Or.inl (Or.inr z))))
        · exact Or.inl (Or.inl (Or.inl (Or.inr z)))
        · exact Or.inl (Or.inl (Or.inr z))
        · exact Or.inl (Or.inr z)
        · exact Or.inr z
    refine ⟨σ', cpV_mo h1 hm, fun hQ => ?_⟩
    have l1 : ((2 : Int32) ≤ Int32.ofNat i) ↔ False := iff_false_intro (fun q => absurd ((on_le (i := 2) (by omega) (by omega)).mp q) (by omega))
    have eb : inB (Int32.ofNat i) 2 = true := on_inB (by omega) (by omega)
    have en := on_nat (i := i) (by omega)
    refine b48_93 ?_
    simp only [↓rF_I, ↓rF_L, ↓rF_R, ↓rF_N, rO_m, rB_m, ↓rI_m, wI_m, ↓rB2_m, ↓rB3_m, wB2_m, wB3_m, ↓rL_m, wL_m, ↓rQ_m, wQ_m, ↓lI_m, pI_m, pL_m, pR_m, sI_m, sBy_m, sBo_m, sL_m, sQ_m, fst_m, true_and, and_true, tg_some, ln_some, uI_1, uI_2, uL_1, uL_2, uL_3, uQ_1, uQ_2, uQ_3, rv_i, rv_l, rv_n, rv_b0, rv_b1, RMR, ne_eq, reduceCtorEq, not_false_eq_true, Option.getD_some, if_true, if_false, and_self, false_and, and_false, Nat.add_left_cancel_iff, Nat.add_eq_left, Nat.left_eq_add, Nat.one_ne_zero, Nat.reduceAdd, Nat.reduceLT, Nat.reduceLeDiff, Nat.reduceEqDiff, true_implies, false_implies, implies_true, Option.some.injEq, forall_eq', forall_eq, reduceCtorEq, brT, brF, br_s, i_10, i_01, ib_0_2, ib_1_2, tn_0, tn_1, Int32.le_refl, eq_self, rv_bN, rv_iM, RCS r, hR, l1, eb, en, on_succ]
    exact h2 hQ
theorem g_48 {w : mT} {σ : mS} {r t : Nat} {τ : Rw} (hR : isS w r) (hT : isT w t) (hτ : tTold σ t τ) (hv : vTold τ) (hd : r + 14 ≤ t ∨ t + 10 ≤ r) : ∃ σ', frR r (r + 14) σ σ' ∧ tSt σ' r τ (sBeg τ) ∧ ∀ {D : Nat} {K : Hp → Prop}, 1 ≤ D → (wpV D 48 [.ref r, .ref t] (mW w σ) K ↔ K (mW w σ')) := by
  have c1 : cpV σ (uI (uI σ r 0 0) r 1 0) r (V48 σ t) _ := cpV_I (A := 0) (cpV_I (A := 0) cpV_0 (by omega) rfl) (by omega) rfl
  obtain ⟨σa, h1, k1⟩ := lp_48a hR hT hd 12 0 _ _ rfl c1
  obtain ⟨σb, h2, k2⟩ := lp_48b hR 3 0 _ _ rfl h1
  obtain ⟨σc, h3, k3⟩ := lp_48c hR 8 0 _ _ rfl h2
  obtain ⟨σe, h4, k4⟩ := lp_48d hR 2 0 _ _ rfl h3
  have v0 := hv.1
  have v2 := hv.2.2.1
  have z : ∀ j, (j < 12 ∨ 24 ≤ j) → sBeg τ j = 0 := fun j h => sBeg_0 h
  have g0 : ∀ A J, (A = 0 ∧ J < 2) ∨ (A = 2 ∧ J < 3) ∨ (5 ≤ A ∧ A < 7 ∧ J < 8) ∨ (9 ≤ A ∧ A < 13 ∧ J < 2) → σe.1 (r + A) J = 0 := fun A J q => by
    rw [h4.2 A J (by omega)]
    unfold V48
    rw [if_neg (by omega), if_neg (by omega)]
  have g1 : ∀ A J, (A = 7 ∧ J < 8) ∨ (A = 8 ∧ J < 2) → σe.1 (r + A) J = -1 := fun A J q => by
    rw [h4.2 A J (by omega)]
    unfold V48
    rw [if_neg (by omega), if_pos (by omega)]
  have g2 : ∀ J, J < 12 → σe.1 (r + 1) J = σ.1 (t + 1) J := fun J q => by
    rw [h4.2 1 J (by omega)]
    exact if_pos rfl
  refine ⟨σe, h4.1, ?_, fun hD => ?_⟩
  · refine ⟨?_, ?_, fun l hl => ?_, fun p hp => ?_, fun p hp k hk => ?_, fun p hp k hk c hc => ?_, fun s hs => ⟨?_, ?_, ?_⟩, fun m hm => ⟨?_, ?_, ?_, ?_, ?_⟩, fun i hi => ?_, fun i hi => ?_⟩
    · rw [z 0 (by omega)]; exact g0 0 0 (by omega)
    · rw [z 1 (by omega)]; exact g0 0 1 (by omega)
    · rw [g2 l (by omega), sBeg_l (by omega)]; exact (hτ.2.2.2.2.1 l hl).1
    · rw [z _ (by omega)]; exact g0 2 p (by omega)
    · rw [z _ (by omega)] at hk; omega
    · rw [z _ (by omega)] at hk; omega
    · rw [z _ (by omega)]; exact g0 5 s (by omega)
    · rw [z _ (by omega)]; exact g0 6 s (by omega)
    · rw [z _ (by omega), g1 7 s (by omega)]; decide
    · rw [z _ (by omega), g1 8 m (by omega)]; decide
    · rw [z _ (by omega)]; exact g0 9 m (by omega)
    · rw [z _ (by omega)]; exact g0 10 m (by omega)
    · rw [z _ (by omega)]; exact g0 11 m (by omega)
    · rw [z _ (by omega)]; exact g0 12 m (by omega)
    · rw [z _ (by omega)] at hi; omega
    · rw [z _ (by omega)] at hi; omega
  · simp only [isS] at hR
    refine cV_of (m := 0) (fun d hdd Q hQ => ?_) rfl hD
    refine b48_0 ?_
    simp only [↓rF_I, ↓rF_L, ↓rF_R, ↓rF_N, rO_m, rB_m, ↓rI_m, wI_m, ↓rB2_m, ↓rB3_m, wB2_m, wB3_m, ↓rL_m, wL_m, ↓rQ_m, wQ_m, ↓lI_m, pI_m, pL_m, pR_m, sI_m, sBy_m, sBo_m, sL_m, sQ_m, fst_m, true_and, and_true, tg_some, ln_some, uI_1, uI_2, uL_1, uL_2, uL_3, uQ_1, uQ_2, uQ_3, rv_i, rv_l, rv_n, rv_b0, rv_b1, RMR, ne_eq, reduceCtorEq, not_false_eq_true, Option.getD_some, if_true, if_false, and_self, false_and, and_false, Nat.add_left_cancel_iff, Nat.add_eq_left, Nat.left_eq_add, Nat.one_ne_zero, Nat.reduceAdd, Nat.reduceLT, Nat.reduceLeDiff, Nat.reduceEqDiff, true_implies, false_implies, implies_true, Option.some.injEq, forall_eq', forall_eq, reduceCtorEq, brT, brF, br_s, i_10, i_01, ib_0_2, ib_1_2, tn_0, tn_1, Int32.le_refl, eq_self, rv_bN, rv_iM, RCS r, hR]
    exact k1 (k2 (k3 (k4 hQ)))
/-- a TEXT is cleared -/
theorem g_69 {w : mT} {σ : mS} {t D : Nat} {K : Hp → Prop} (hT : isT w t) (hD : 1 ≤ D) : wpV D 69 [.ref t] (mW w σ) K ↔ K (mW w (uI (uI (uI (uI (uI σ t 0 0) t 1 1) t 2 0) t 3 0) t 4 0)) := by
  simp only [isT] at hT
  refine cV_of (m := 0) (fun d hd Q hQ => ?_) rfl hD
  refine b69_0 ?_
  simp only [↓rF_I, ↓rF_L, ↓rF_R, ↓rF_N, rO_m, rB_m, ↓rI_m, wI_m, ↓rB2_m, ↓rB3_m, wB2_m, wB3_m, ↓rL_m, wL_m, ↓rQ_m, wQ_m, ↓lI_m, pI_m, pL_m, pR_m, sI_m, sBy_m, sBo_m, sL_m, sQ_m, fst_m, true_and, and_true, tg_some, ln_some, uI_1, uI_2, uL_1, uL_2, uL_3, uQ_1, uQ_2, uQ_3, rv_i, rv_l, rv_n, rv_b0, rv_b1, RMR, ne_eq, reduceCtorEq, not_false_eq_true, Option.getD_some, if_true, if_false, and_self, false_and, and_false, Nat.add_left_cancel_iff, Nat.add_eq_left, Nat.left_eq_add, Nat.one_ne_zero, Nat.reduceAdd, Nat.reduceLT, Nat.reduceLeDiff, Nat.reduceEqDiff, true_implies, false_implies, implies_true, Option.some.injEq, forall_eq', forall_eq, reduceCtorEq, brT, brF, br_s, i_10, i_01, ib_0_2, ib_1_2, tn_0, tn_1, Int32.le_refl, eq_self, rv_bN, rv_iM, RCT t, hT]
  exact hQ

