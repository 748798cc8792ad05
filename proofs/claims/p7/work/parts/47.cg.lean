/-! the class's calls: days, machines, orders -/
theorem tSt_cz {σ : mS} {r m : Nat} {τ ρ : Rw} (h : tSt σ r τ ρ) (hb : bRow τ ρ) (hm : m < 2) : tSt (uI σ (r + 12) m 0) r τ (rSet ρ (10 + m) 0) := by
  obtain ⟨b1, b2, b3, b4, b5⟩ := hb
  have hb : bRow τ ρ := ⟨b1, b2, b3, b4, b5⟩
  have e10 : rSet ρ (10 + m) 0 10 ≤ ρ 10 := by rw [rSet_1]; split <;> omega
  have e11 : rSet ρ (10 + m) 0 11 ≤ ρ 11 := by rw [rSet_1]; split <;> omega
  have hb' : bRow τ (rSet ρ (10 + m) 0) := ⟨b1, b2, by omega, by omega, fun q hq => by rw [rS_ne (by omega)]; exact b5 q hq⟩
  refine tSt_up h hb hb' (fun j hj => ?_)
  have hin := dom_in hb' hj
  by_cases c : j = 10 + m
  · subst c
    refine Or.inr ?_
    rw [cv_eq (lA_or hm), tv_0 (by unfold isSh; omega), rS_eq]; rfl
  · refine Or.inl ⟨?_, cv_ne (lA_or hm) hin (by unfold in0; omega) c, rS_ne c⟩
    unfold dom at hj ⊢
    rcases hj with hj | hj | hj | hj | hj | hj | hj | hj | hj | hj
    · exact Or.inl hj
    · exact Or.inr (Or.inl hj)
    · exact Or.inr (Or.inr (Or.inl hj))
    · exact Or.inr (Or.inr (Or.inr (Or.inl hj)))
    · exact Or.inr (Or.inr (Or.inr (Or.inr (Or.inl hj))))
    · exact Or.inr (Or.inr (Or.inr (Or.inr (Or.inr (Or.inl hj)))))
    · exact Or.inr (Or.inr (Or.inr (Or.inr (Or.inr (Or.inr (Or.inl ⟨hj.1, by omega, hj.2.2⟩))))))
    · exact Or.inr (Or.inr (Or.inr (Or.inr (Or.inr (Or.inr (Or.inr (Or.inl ⟨hj.1, by omega⟩)))))))
    · rw [rS_ne (by omega)] at hj
      exact Or.inr (Or.inr (Or.inr (Or.inr (Or.inr (Or.inr (Or.inr (Or.inr (Or.inl hj))))))))
    · rw [rS_ne (by omega)] at hj
      exact Or.inr (Or.inr (Or.inr (Or.inr (Or.inr (Or.inr (Or.inr (Or.inr (Or.inr hj))))))))
theorem o66_0 {w : mT} {σ : mS} {p l a b t : Nat} {τ ρ : Rw} (hw : lit w) (hρ : tSt σ 35 τ ρ) (hb : bRow τ ρ) (hn : ρ 10 < 8) : ∃ σ', frR 35 49 σ σ' ∧ tSt σ' 35 τ (sO0 ρ p l a b t) ∧ ∀ {D : Nat} {K : Hp → Prop}, 2 ≤ D → (wpV D 66 [.ref 35, .int (0 : Int32), .int (Int32.ofNat p), .int (Int32.ofNat l), .int (Int32.ofNat a), .int (Int32.ofNat b), .int (Int32.ofNat t)] (mW w σ) K ↔ K (mW w σ')) :=
  ⟨_, frR_tr (frR_I (by omega)) (frR_tr (frR_I (by omega)) (frR_tr (frR_I (by omega)) (frR_tr (frR_I (by omega)) (frR_tr (frR_I (by omega)) (frR_tr (frR_I (by omega)) (frR_I (by omega))))))), sO0_st hρ hb hn, fun hD => g_66 (m := 0) (isS35 hw) (by omega) (tS_or hρ (by omega : 0 < 2)) hn hD⟩
theorem o66_1 {w : mT} {σ : mS} {p c s : Nat} {τ ρ : Rw} (hw : lit w) (hρ : tSt σ 35 τ ρ) (hb : bRow τ ρ) (hn : ρ 11 < 8) : ∃ σ', frR 35 49 σ σ' ∧ tSt σ' 35 τ (sO1 ρ p c s) ∧ ∀ {D : Nat} {K : Hp → Prop}, 2 ≤ D → (wpV D 66 [.ref 35, .int (1 : Int32), .int (Int32.ofNat p), .int (Int32.ofNat s), .int (Int32.ofNat c), .int (Int32.ofNat c), .int (0 : Int32)] (mW w σ) K ↔ K (mW w σ')) :=
  ⟨_, frR_tr (frR_I (by omega)) (frR_tr (frR_I (by omega)) (frR_tr (frR_I (by omega)) (frR_tr (frR_I (by omega)) (frR_tr (frR_I (by omega)) (frR_tr (frR_I (by omega)) (frR_I (by omega))))))), sO1_st hρ hb hn, fun hD => g_66 (m := 1) (isS35 hw) (by omega) (tS_or hρ (by omega : 1 < 2)) hn hD⟩
theorem m1_eq {a : Nat} (h : a < 1000000) : (Int32.ofNat a - 1 = -1) ↔ a = 0 := of_m1 (by omega)
theorem c_92z {w : mT} {σ : mS} {tp n : Nat} {t : Nat → Nat} {τ ρ : Rw} {bk : Nat → Rw} {has : Nat → Bool} {im : Nat → Rw} {a : Int32} {D : Nat} {K : Int32 → Hp → Prop} (h : cIn w σ tp t τ ρ n bk has im) (ha : ¬ (1 ≤ a.toInt ∧ a.toInt ≤ 99 ∧ (ρ 0 : Int) + a.toInt ≤ 999)) (hD : 4 ≤ D) : wpI D 92 [.ref 0, .int a] (mW w σ) K ↔ K (-1) (mW w σ) := by
  have h' := h
  obtain ⟨hw, hS, hH, ⟨P, hP, p3, p4, hτ⟩, hρ, hv, hr, h1, htp, htb, ht⟩ := h
  have hT := isTP hw hP
  have hT' := hT
  simp only [isT] at hT'
  refine cI_of (m := 3) (fun d hd Q hQ => ?_) rfl hD
  have v0 := vR_day hr
  have e0 : σ.1 35 0 = Int32.ofNat (ρ 0) := tS_d hρ
  refine b92_0 ?_
  by_cases z : a < 1
  · simp only [↓br_pos, ↓br_neg, ↓rF_I, ↓rF_L, ↓rF_R, ↓rF_N, rO_m, rB_m, ↓rI_m, wI_m, ↓rB2_m, ↓rB3_m, wB2_m, wB3_m, ↓rL_m, wL_m, ↓rQ_m, wQ_m, ↓lI_m, pI_m, pL_m, pR_m, sI_m, sBy_m, sBo_m, sL_m, sQ_m, fst_m, true_and, and_true, tg_some, ln_some, uI_1, uI_2, uL_1, uL_2, uL_3, uQ_1, uQ_2, uQ_3, rv_i, rv_l, rv_n, rv_b0, rv_b1, RMR, ne_eq, reduceCtorEq, not_false_eq_true, Option.getD_some, if_true, if_false, and_self, false_and, and_false, Nat.add_left_cancel_iff, Nat.add_eq_left, Nat.left_eq_add, Nat.one_ne_zero, Nat.reduceAdd, Nat.reduceLT, Nat.reduceLeDiff, Nat.reduceEqDiff, true_implies, false_implies, implies_true, Option.some.injEq, forall_eq', forall_eq, reduceCtorEq, brT, brF, br_s, i_10, i_01, ib_0_2, ib_1_2, tn_0, tn_1, Int32.le_refl, eq_self, rv_bN, rv_iM, z]
    exact hQ
  · by_cases y : (99 : Int32) < a
    · simp only [↓br_pos, ↓br_neg, ↓rF_I, ↓rF_L, ↓rF_R, ↓rF_N, rO_m, rB_m, ↓rI_m, wI_m, ↓rB2_m, ↓rB3_m, wB2_m, wB3_m, ↓rL_m, wL_m, ↓rQ_m, wQ_m, ↓lI_m, pI_m, pL_m, pR_m, sI_m, sBy_m, sBo_m, sL_m, sQ_m, fst_m, true_and, and_true, tg_some, ln_some, uI_1, uI_2, uL_1, uL_2, uL_3, uQ_1, uQ_2, uQ_3, rv_i, rv_l, rv_n, rv_b0, rv_b1, RMR, ne_eq, reduceCtorEq, not_false_eq_true, Option.getD_some, if_true, if_false, and_self, false_and, and_false, Nat.add_left_cancel_iff, Nat.add_eq_left, Nat.left_eq_add, Nat.one_ne_zero, Nat.reduceAdd, Nat.reduceLT, Nat.reduceLeDiff, Nat.reduceEqDiff, true_implies, false_implies, implies_true, Option.some.injEq, forall_eq', forall_eq, reduceCtorEq, brT, brF, br_s, i_10, i_01, ib_0_2, ib_1_2, tn_0, tn_1, Int32.le_refl, eq_self, rv_bN, rv_iM, z, y]
      exact hQ
    · have z' := z
      rw [i_lt, show (1 : Int32).toInt = 1 by decide] at z'
      have y' := y
      rw [i_lt, show (99 : Int32).toInt = 99 by decide] at y'
      obtain ⟨k, rfl, hk⟩ := ex_on (a := a) (n := 100) ⟨by omega, by omega⟩
      rw [on_int (by omega)] at ha z' y'
      have c : (Int32.ofNat (ρ 0 + k) ≤ (999 : Int32)) ↔ False := iff_false_intro (fun q => absurd ((on_le (j := 999) (by omega) (by omega)).mp q) (by omega))
      simp only [↓br_pos, ↓br_neg, ↓rF_I, ↓rF_L, ↓rF_R, ↓rF_N, rO_m, rB_m, ↓rI_m, wI_m, ↓rB2_m, ↓rB3_m, wB2_m, wB3_m, ↓rL_m, wL_m, ↓rQ_m, wQ_m, ↓lI_m, pI_m, pL_m, pR_m, sI_m, sBy_m, sBo_m, sL_m, sQ_m, fst_m, true_and, and_true, tg_some, ln_some, uI_1, uI_2, uL_1, uL_2, uL_3, uQ_1, uQ_2, uQ_3, rv_i, rv_l, rv_n, rv_b0, rv_b1, RMR, ne_eq, reduceCtorEq, not_false_eq_true, Option.getD_some, if_true, if_false, and_self, false_and, and_false, Nat.add_left_cancel_iff, Nat.add_eq_left, Nat.left_eq_add, Nat.one_ne_zero, Nat.reduceAdd, Nat.reduceLT, Nat.reduceLeDiff, Nat.reduceEqDiff, true_implies, false_implies, implies_true, Option.some.injEq, forall_eq', forall_eq, reduceCtorEq, brT, brF, br_s, i_10, i_01, ib_0_2, ib_1_2, tn_0, tn_1, Int32.le_refl, eq_self, rv_bN, rv_iM, RCX 0, RCG 2, RCT 4, RCT 15, RCT 25, RCS 35, RCS 49, RCH 63, RCP 67, RCB 72, RCR 77, RCM 81, RLY, lit_at hw, z, y, e0, of_add, c]
      exact hQ
theorem c_92 {w : mT} {σ : mS} {tp n : Nat} {t : Nat → Nat} {τ ρ : Rw} {bk : Nat → Rw} {has : Nat → Bool} {im : Nat → Rw} {k : Nat} (h : cIn w σ tp t τ ρ n bk has im) (hk : 1 ≤ k ∧ k ≤ 99) (hk2 : ρ 0 + k ≤ 999) : ∃ w' σ', wExt w w' ∧ frM σ σ' ∧ cIn w' σ' tp t τ (rSet ρ 0 (ρ 0 + k)) (nPh n) (bkPh n bk ρ) has im ∧ ∀ {D : Nat} {K : Int32 → Hp → Prop}, 4 ≤ D → (wpI D 92 [.ref 0, .int (Int32.ofNat k)] (mW w σ) K ↔ K (Int32.ofNat (ρ 0 + k)) (mW w' σ')) := by
  have h' := h
  obtain ⟨hw, hS, hH, ⟨P, hP, p3, p4, hτ⟩, hρ, hv, hr, h1, htp, htb, ht⟩ := h
  have hT := isTP hw hP
  have hT' := hT
  simp only [isT] at hT'
  obtain ⟨w1, σ1, x1, x2, C1, k1⟩ := k_11 h'
  have hw1 := C1.1
  have hρ1 : tSt σ1 35 τ ρ := C1.2.2.2.2.1
  obtain ⟨P1, hP1, p31, p41, hτ1⟩ := C1.2.2.2.1
  have hT1 := isTP hw1 hP1
  have hT1' := hT1
  simp only [isT] at hT1'
  have hb := vRow_b hv hr
  have ts : tSt (uI σ1 35 0 (Int32.ofNat (ρ 0 + k))) 35 τ (rSet ρ 0 (ρ 0 + k)) := tSt_w0 hρ1 hb (by unfold in0; omega) (by decide) (tv_0 (by decide)).symm (by omega)
  have vr : vRow τ (rSet ρ 0 (ρ 0 + k)) := vRow_s hv hr (by omega)
  refine ⟨w1, uI σ1 35 0 (Int32.ofNat (ρ 0 + k)), x1, frM_tr (frM_D x2 (by omega)) (frM_I (by omega)), cIn_mu C1 (frR_I (by omega)) ts vr, fun hD => cI_of (m := 3) (fun d hd Q hQ => ?_) rfl hD⟩
  have v0 := vR_day hr
  have e0 : σ.1 35 0 = Int32.ofNat (ρ 0) := tS_d hρ
  have e1 : σ1.1 35 0 = Int32.ofNat (ρ 0) := tS_d hρ1
  have c1 : (Int32.ofNat k < (1 : Int32)) ↔ False := iff_false_intro (fun q => absurd ((on_lt (j := 1) (by omega) (by omega)).mp q) (by omega))
  have c2 : ((99 : Int32) < Int32.ofNat k) ↔ False := iff_false_intro (fun q => absurd ((on_lt (i := 99) (by omega) (by omega)).mp q) (by omega))
  have c3 : (Int32.ofNat (ρ 0 + k) ≤ (999 : Int32)) ↔ True := iff_true_intro ((on_le (j := 999) (by omega) (by omega)).mpr hk2)
  refine b92_0 ?_
  simp only [↓br_pos, ↓br_neg, ↓rF_I, ↓rF_L, ↓rF_R, ↓rF_N, rO_m, rB_m, ↓rI_m, wI_m, ↓rB2_m, ↓rB3_m, wB2_m, wB3_m, ↓rL_m, wL_m, ↓rQ_m, wQ_m, ↓lI_m, pI_m, pL_m, pR_m, sI_m, sBy_m, sBo_m, sL_m, sQ_m, fst_m, true_and, and_true, tg_some, ln_some, uI_1, uI_2, uL_1, uL_2, uL_3, uQ_1, uQ_2, uQ_3, rv_i, rv_l, rv_n, rv_b0, rv_b1, RMR, ne_eq, reduceCtorEq, not_false_eq_true, Option.getD_some, if_true, if_false, and_self, false_and, and_false, Nat.add_left_cancel_iff, Nat.add_eq_left, Nat.left_eq_add, Nat.one_ne_zero, Nat.reduceAdd, Nat.reduceLT, Nat.reduceLeDiff, Nat.reduceEqDiff, true_implies, false_implies, implies_true, Option.some.injEq, forall_eq', forall_eq, reduceCtorEq, brT, brF, br_s, i_10, i_01, ib_0_2, ib_1_2, tn_0, tn_1, Int32.le_refl, eq_self, rv_bN, rv_iM, RCX 0, RCG 2, RCT 4, RCT 15, RCT 25, RCS 35, RCS 49, RCH 63, RCP 67, RCB 72, RCR 77, RCM 81, RLY, lit_at hw, c1, c2, e0, of_add, c3, k1 hd, lit_at hw1, e1]
  exact hQ
theorem c_90z {w : mT} {σ : mS} {tp n : Nat} {t : Nat → Nat} {τ ρ : Rw} {bk : Nat → Rw} {has : Nat → Bool} {im : Nat → Rw} {a : Int32} {D : Nat} {K : Int32 → Hp → Prop} (h : cIn w σ tp t τ ρ n bk has im) (ha : ¬ (bN a 2 = 1 ∧ ρ (2 + a.toNatClampNeg) ≠ 0)) (hD : 4 ≤ D) : wpI D 90 [.ref 0, .int a] (mW w σ) K ↔ K 0 (mW w σ) := by
  have h' := h
  obtain ⟨hw, hS, hH, ⟨P, hP, p3, p4, hτ⟩, hρ, hv, hr, h1, htp, htb, ht⟩ := h
  have hT := isTP hw hP
  have hT' := hT
  simp only [isT] at hT'
  refine cI_of (m := 3) (fun d hd Q hQ => ?_) rfl hD
  have hd1 : 1 ≤ d := by omega
  refine b90_0 ?_
  by_cases z : bN a 2 = 1
  · obtain ⟨m, rfl, hm⟩ := bN_ex z
    have en := on_nat (i := m) (by omega)
    rw [en] at ha
    have e : ρ (2 + m) = 0 := Decidable.not_not.mp (fun q => ha ⟨z, q⟩)
    have eb : inB (Int32.ofNat m) 2 = true := on_inB hm (by omega)
    have es : σ.1 43 m = Int32.ofNat (ρ (2 + m)) - 1 := tS_st hρ hm
    have es' : σ.1 43 m = -1 := by rw [es, e]; decide
    simp only [↓br_pos, ↓br_neg, ↓rF_I, ↓rF_L, ↓rF_R, ↓rF_N, rO_m, rB_m, ↓rI_m, wI_m, ↓rB2_m, ↓rB3_m, wB2_m, wB3_m, ↓rL_m, wL_m, ↓rQ_m, wQ_m, ↓lI_m, pI_m, pL_m, pR_m, sI_m, sBy_m, sBo_m, sL_m, sQ_m, fst_m, true_and, and_true, tg_some, ln_some, uI_1, uI_2, uL_1, uL_2, uL_3, uQ_1, uQ_2, uQ_3, rv_i, rv_l, rv_n, rv_b0, rv_b1, RMR, ne_eq, reduceCtorEq, not_false_eq_true, Option.getD_some, if_true, if_false, and_self, false_and, and_false, Nat.add_left_cancel_iff, Nat.add_eq_left, Nat.left_eq_add, Nat.one_ne_zero, Nat.reduceAdd, Nat.reduceLT, Nat.reduceLeDiff, Nat.reduceEqDiff, true_implies, false_implies, implies_true, Option.some.injEq, forall_eq', forall_eq, reduceCtorEq, brT, brF, br_s, i_10, i_01, ib_0_2, ib_1_2, tn_0, tn_1, Int32.le_refl, eq_self, rv_bN, rv_iM, RCX 0, RCG 2, RCT 4, RCT 15, RCT 25, RCS 35, RCS 49, RCH 63, RCP 67, RCB 72, RCR 77, RCM 81, RLY, lit_at hw, g_118 hd1, z, eb, en, es']
    exact hQ
  · have z' : bN a 2 = 0 := bN_01.resolve_right z
    simp only [↓br_pos, ↓br_neg, ↓rF_I, ↓rF_L, ↓rF_R, ↓rF_N, rO_m, rB_m, ↓rI_m, wI_m, ↓rB2_m, ↓rB3_m, wB2_m, wB3_m, ↓rL_m, wL_m, ↓rQ_m, wQ_m, ↓lI_m, pI_m, pL_m, pR_m, sI_m, sBy_m, sBo_m, sL_m, sQ_m, fst_m, true_and, and_true, tg_some, ln_some, uI_1, uI_2, uL_1, uL_2, uL_3, uQ_1, uQ_2, uQ_3, rv_i, rv_l, rv_n, rv_b0, rv_b1, RMR, ne_eq, reduceCtorEq, not_false_eq_true, Option.getD_some, if_true, if_false, and_self, false_and, and_false, Nat.add_left_cancel_iff, Nat.add_eq_left, Nat.left_eq_add, Nat.one_ne_zero, Nat.reduceAdd, Nat.reduceLT, Nat.reduceLeDiff, Nat.reduceEqDiff, true_implies, false_implies, implies_true, Option.some.injEq, forall_eq', forall_eq, reduceCtorEq, brT, brF, br_s, i_10, i_01, ib_0_2, ib_1_2, tn_0, tn_1, Int32.le_refl, eq_self, rv_bN, rv_iM, RCX 0, RCG 2, RCT 4, RCT 15, RCT 25, RCS 35, RCS 49, RCH 63, RCP 67, RCB 72, RCR 77, RCM 81, RLY, lit_at hw, g_118 hd1, z']
    exact hQ
theorem c_90 {w : mT} {σ : mS} {tp n : Nat} {t : Nat → Nat} {τ ρ : Rw} {bk : Nat → Rw} {has : Nat → Bool} {im : Nat → Rw} {m : Nat} (h : cIn w σ tp t τ ρ n bk has im) (hm : m < 2) (hs : ρ (2 + m) ≠ 0) : ∃ w' σ', wExt w w' ∧ frM σ σ' ∧ cIn w' σ' tp t τ (rSet (rSet ρ (2 + m) 0) (6 + m) 0) (nPh n) (bkPh n bk ρ) has im ∧ ∀ {D : Nat} {K : Int32 → Hp → Prop}, 4 ≤ D → (wpI D 90 [.ref 0, .int (Int32.ofNat m)] (mW w σ) K ↔ K 1 (mW w' σ')) := by
  have h' := h
  obtain ⟨hw, hS, hH, ⟨P, hP, p3, p4, hτ⟩, hρ, hv, hr, h1, htp, htb, ht⟩ := h
  have hT := isTP hw hP
  have hT' := hT
  simp only [isT] at hT'
  obtain ⟨w1, σ1, x1, x2, C1, k1⟩ := k_11 h'
  have hw1 := C1.1
  have hρ1 : tSt σ1 35 τ ρ := C1.2.2.2.2.1
  obtain ⟨P1, hP1, p31, p41, hτ1⟩ := C1.2.2.2.1
  have hT1 := isTP hw1 hP1
  have hT1' := hT1
  simp only [isT] at hT1'
  have hb := vRow_b hv hr
  have ts : tSt (uI (uI σ1 43 m (-1)) 45 m 0) 35 τ (rSet (rSet ρ (2 + m) 0) (6 + m) 0) := tSt_w (A := 10) (tSt_w (A := 8) hρ1 hb (by unfold in0; omega) (lA_st hm) (by rw [tv_1 (by unfold isSh; omega)]; decide) (by omega)) (bRow_c hb (cnt_set (by omega))) (by unfold in0; omega) (lA_wy hm) (tv_0 (by unfold isSh; omega)).symm (by omega)
  have vr : vRow τ (rSet (rSet ρ (2 + m) 0) (6 + m) 0) := vRow_s hv (vRow_s hv hr (by omega)) (by omega)
  refine ⟨w1, uI (uI σ1 43 m (-1)) 45 m 0, x1, frM_tr (frM_D x2 (by omega)) (frM_tr (frM_I (by omega)) (frM_I (by omega))), cIn_mu C1 (frR_tr (frR_I (by omega)) (frR_I (by omega))) ts vr, fun hD => cI_of (m := 3) (fun d hd Q hQ => ?_) rfl hD⟩
  have hd1 : 1 ≤ d := by omega
  have z : bN (Int32.ofNat m) 2 = 1 := bN_on hm (by omega)
  have en := on_nat (i := m) (by omega)
  have eb : inB (Int32.ofNat m) 2 = true := on_inB hm (by omega)
  have es : σ.1 43 m = Int32.ofNat (ρ (2 + m)) - 1 := tS_st hρ hm
  have hs2 := onP_lt hv (vR_on hr hm)
  have es' : (Int32.ofNat (ρ (2 + m)) - 1 = -1) ↔ False := iff_false_intro (fun q => hs ((m1_eq (by omega)).mp q))
  refine b90_0 ?_
  simp only [↓br_pos, ↓br_neg, ↓rF_I, ↓rF_L, ↓rF_R, ↓rF_N, rO_m, rB_m, ↓rI_m, wI_m, ↓rB2_m, ↓rB3_m, wB2_m, wB3_m, ↓rL_m, wL_m, ↓rQ_m, wQ_m, ↓lI_m, pI_m, pL_m, pR_m, sI_m, sBy_m, sBo_m, sL_m, sQ_m, fst_m, true_and, and_true, tg_some, ln_some, uI_1, uI_2, uL_1, uL_2, uL_3, uQ_1, uQ_2, uQ_3, rv_i, rv_l, rv_n, rv_b0, rv_b1, RMR, ne_eq, reduceCtorEq, not_false_eq_true, Option.getD_some, if_true, if_false, and_self, false_and, and_false, Nat.add_left_cancel_iff, Nat.add_eq_left, Nat.left_eq_add, Nat.one_ne_zero, Nat.reduceAdd, Nat.reduceLT, Nat.reduceLeDiff, Nat.reduceEqDiff, true_implies, false_implies, implies_true, Option.some.injEq, forall_eq', forall_eq, reduceCtorEq, brT, brF, br_s, i_10, i_01, ib_0_2, ib_1_2, tn_0, tn_1, Int32.le_refl, eq_self, rv_bN, rv_iM, RCX 0, RCG 2, RCT 4, RCT 15, RCT 25, RCS 35, RCS 49, RCH 63, RCP 67, RCB 72, RCR 77, RCM 81, RLY, lit_at hw, g_118 hd1, z, eb, en, es, es', k1 hd, lit_at hw1]
  exact hQ
theorem c_95z {w : mT} {σ : mS} {tp n : Nat} {t : Nat → Nat} {τ ρ : Rw} {bk : Nat → Rw} {has : Nat → Bool} {im : Nat → Rw} {a : Int32} {D : Nat} {K : Int32 → Hp → Prop} (h : cIn w σ tp t τ ρ n bk has im) (ha : ¬ (bN a 2 = 1 ∧ ρ (10 + a.toNatClampNeg) ≠ 0)) (hD : 4 ≤ D) : wpI D 95 [.ref 0, .int a] (mW w σ) K ↔ K (-1) (mW w σ) := by
  have h' := h
  obtain ⟨hw, hS, hH, ⟨P, hP, p3, p4, hτ⟩, hρ, hv, hr, h1, htp, htb, ht⟩ := h
  have hT := isTP hw hP
  have hT' := hT
  simp only [isT] at hT'
  refine cI_of (m := 3) (fun d hd Q hQ => ?_) rfl hD
  have hd1 : 1 ≤ d := by omega
  refine b95_0 ?_
  by_cases z : bN a 2 = 1
  · obtain ⟨m, rfl, hm⟩ := bN_ex z
    have en := on_nat (i := m) (by omega)
    rw [en] at ha
    have e : ρ (10 + m) = 0 := Decidable.not_not.mp (fun q => ha ⟨z, q⟩)
    have eb : inB (Int32.ofNat m) 2 = true := on_inB hm (by omega)
    have es : σ.1 47 m = Int32.ofNat (ρ (10 + m)) := tS_or hρ hm
    have es' : σ.1 47 m = 0 := by rw [es, e]; rfl
    simp only [↓br_pos, ↓br_neg, ↓rF_I, ↓rF_L, ↓rF_R, ↓rF_N, rO_m, rB_m, ↓rI_m, wI_m, ↓rB2_m, ↓rB3_m, wB2_m, wB3_m, ↓rL_m, wL_m, ↓rQ_m, wQ_m, ↓lI_m, pI_m, pL_m, pR_m, sI_m, sBy_m, sBo_m, sL_m, sQ_m, fst_m, true_and, and_true, tg_some, ln_some, uI_1, uI_2, uL_1, uL_2, uL_3, uQ_1, uQ_2, uQ_3, rv_i, rv_l, rv_n, rv_b0, rv_b1, RMR, ne_eq, reduceCtorEq, not_false_eq_true, Option.getD_some, if_true, if_false, and_self, false_and, and_false, Nat.add_left_cancel_iff, Nat.add_eq_left, Nat.left_eq_add, Nat.one_ne_zero, Nat.reduceAdd, Nat.reduceLT, Nat.reduceLeDiff, Nat.reduceEqDiff, true_implies, false_implies, implies_true, Option.some.injEq, forall_eq', forall_eq, reduceCtorEq, brT, brF, br_s, i_10, i_01, ib_0_2, ib_1_2, tn_0, tn_1, Int32.le_refl, eq_self, rv_bN, rv_iM, RCX 0, RCG 2, RCT 4, RCT 15, RCT 25, RCS 35, RCS 49, RCH 63, RCP 67, RCB 72, RCR 77, RCM 81, RLY, lit_at hw, g_118 hd1, z, eb, en, es']
    exact hQ
  · have z' : bN a 2 = 0 := bN_01.resolve_right z
    simp only [↓br_pos, ↓br_neg, ↓rF_I, ↓rF_L, ↓rF_R, ↓rF_N, rO_m, rB_m, ↓rI_m, wI_m, ↓rB2_m, ↓rB3_m, wB2_m, wB3_m, ↓rL_m, wL_m, ↓rQ_m, wQ_m, ↓lI_m, pI_m, pL_m, pR_m, sI_m, sBy_m, sBo_m, sL_m, sQ_m, fst_m, true_and, and_true, tg_some, ln_some, uI_1, uI_2, uL_1, uL_2, uL_3, uQ_1, uQ_2, uQ_3, rv_i, rv_l, rv_n, rv_b0, rv_b1, RMR, ne_eq, reduceCtorEq, not_false_eq_true, Option.getD_some, if_true, if_false, and_self, false_and, and_false, Nat.add_left_cancel_iff, Nat.add_eq_left, Nat.left_eq_add, Nat.one_ne_zero, Nat.reduceAdd, Nat.reduceLT, Nat.reduceLeDiff, Nat.reduceEqDiff, true_implies, false_implies, implies_true, Option.some.injEq, forall_eq', forall_eq, reduceCtorEq, brT, brF, br_s, i_10, i_01, ib_0_2, ib_1_2, tn_0, tn_1, Int32.le_refl, eq_self, rv_bN, rv_iM, RCX 0, RCG 2, RCT 4, RCT 15, RCT 25, RCS 35, RCS 49, RCH 63, RCP 67, RCB 72, RCR 77, RCM 81, RLY, lit_at hw, g_118 hd1, z']
    exact hQ
theorem c_95 {w : mT} {σ : mS} {tp n : Nat} {t : Nat → Nat} {τ ρ : Rw} {bk : Nat → Rw} {has : Nat → Bool} {im : Nat → Rw} {m : Nat} (h : cIn w σ tp t τ ρ n bk has im) (hm : m < 2) (hs : ρ (10 + m) ≠ 0) : ∃ w' σ', wExt w w' ∧ frM σ σ' ∧ cIn w' σ' tp t τ (rSet (rSet ρ (10 + m) 0) (6 + m) 0) (nPh n) (bkPh n bk ρ) has im ∧ ∀ {D : Nat} {K : Int32 → Hp → Prop}, 4 ≤ D → (wpI D 95 [.ref 0, .int (Int32.ofNat m)] (mW w σ) K ↔ K (Int32.ofNat (ρ (10 + m))) (mW w' σ')) := by
  have h' := h
  obtain ⟨hw, hS, hH, ⟨P, hP, p3, p4, hτ⟩, hρ, hv, hr, h1, htp, htb, ht⟩ := h
  have hT := isTP hw hP
  have hT' := hT
  simp only [isT] at hT'
  obtain ⟨w1, σ1, x1, x2, C1, k1⟩ := k_11 h'
  have hw1 := C1.1
  have hρ1 : tSt σ1 35 τ ρ := C1.2.2.2.2.1
  obtain ⟨P1, hP1, p31, p41, hτ1⟩ := C1.2.2.2.1
  have hT1 := isTP hw1 hP1
  have hT1' := hT1
  simp only [isT] at hT1'
  have hb := vRow_b hv hr
  have c8 : ρ (10 + m) ≤ 8 := by
    have : m = 0 ∨ m = 1 := by omega
    rcases this with rfl | rfl
    · exact vR_c0 hr
    · exact vR_c1 hr
  have v1 : vRow τ (rSet ρ (10 + m) 0) := vRow_s hv hr (by omega)
  have ts : tSt (uI (uI σ1 47 m 0) 45 m 0) 35 τ (rSet (rSet ρ (10 + m) 0) (6 + m) 0) := tSt_w (A := 10) (tSt_cz hρ1 hb hm) (vRow_b hv v1) (by unfold in0; omega) (lA_wy hm) (tv_0 (by unfold isSh; omega)).symm (by omega)
  have vr : vRow τ (rSet (rSet ρ (10 + m) 0) (6 + m) 0) := vRow_s hv v1 (by omega)
  refine ⟨w1, uI (uI σ1 47 m 0) 45 m 0, x1, frM_tr (frM_D x2 (by omega)) (frM_tr (frM_I (by omega)) (frM_I (by omega))), cIn_mu C1 (frR_tr (frR_I (by omega)) (frR_I (by omega))) ts vr, fun hD => cI_of (m := 3) (fun d hd Q hQ => ?_) rfl hD⟩
  have hd1 : 1 ≤ d := by omega
  have z : bN (Int32.ofNat m) 2 = 1 := bN_on hm (by omega)
  have en := on_nat (i := m) (by omega)
  have eb : inB (Int32.ofNat m) 2 = true := on_inB hm (by omega)
  have es : σ.1 47 m = Int32.ofNat (ρ (10 + m)) := tS_or hρ hm
  have es1 : σ1.1 47 m = Int32.ofNat (ρ (10 + m)) := tS_or hρ1 hm
  have es' : (Int32.ofNat (ρ (10 + m)) = 0) ↔ False := iff_false_intro (fun q => hs ((of_eq0 (by omega)).mp q))
  refine b95_0 ?_
  simp only [↓br_pos, ↓br_neg, ↓rF_I, ↓rF_L, ↓rF_R, ↓rF_N, rO_m, rB_m, ↓rI_m, wI_m, ↓rB2_m, ↓rB3_m, wB2_m, wB3_m, ↓rL_m, wL_m, ↓rQ_m, wQ_m, ↓lI_m, pI_m, pL_m, pR_m, sI_m, sBy_m, sBo_m, sL_m, sQ_m, fst_m, true_and, and_true, tg_some, ln_some, uI_1, uI_2, uL_1, uL_2, uL_3, uQ_1, uQ_2, uQ_3, rv_i, rv_l, rv_n, rv_b0, rv_b1, RMR, ne_eq, reduceCtorEq, not_false_eq_true, Option.getD_some, if_true, if_false, and_self, false_and, and_false, Nat.add_left_cancel_iff, Nat.add_eq_left, Nat.left_eq_add, Nat.one_ne_zero, Nat.reduceAdd, Nat.reduceLT, Nat.reduceLeDiff, Nat.reduceEqDiff, true_implies, false_implies, implies_true, Option.some.injEq, forall_eq', forall_eq, reduceCtorEq, brT, brF, br_s, i_10, i_01, ib_0_2, ib_1_2, tn_0, tn_1, Int32.le_refl, eq_self, rv_bN, rv_iM, RCX 0, RCG 2, RCT 4, RCT 15, RCT 25, RCS 35, RCS 49, RCH 63, RCP 67, RCB 72, RCR 77, RCM 81, RLY, lit_at hw, g_118 hd1, z, eb, en, es, es', k1 hd, lit_at hw1, es1]
  exact hQ
theorem c_93z {w : mT} {σ : mS} {tp n : Nat} {t : Nat → Nat} {τ ρ : Rw} {bk : Nat → Rw} {has : Nat → Bool} {im : Nat → Rw} {p l a b c : Int32} {D : Nat} {K : Int32 → Hp → Prop} (h : cIn w σ tp t τ ρ n bk has im) (ha : ¬ (cbP τ p l a b c ∧ ρ 10 < 8)) (hD : 4 ≤ D) : wpI D 93 [.ref 0, .int p, .int l, .int a, .int b, .int c] (mW w σ) K ↔ K (-1) (mW w σ) := by
  have h' := h
  obtain ⟨hw, hS, hH, ⟨P, hP, p3, p4, hτ⟩, hρ, hv, hr, h1, htp, htb, ht⟩ := h
  have hT := isTP hw hP
  have hT' := hT
  simp only [isT] at hT'
  refine cI_of (m := 3) (fun d hd Q hQ => ?_) rfl hD
  have c0 := vR_c0 hr
  have es : σ.1 47 0 = Int32.ofNat (ρ 10) := tS_or hρ (by omega : 0 < 2)
  refine b93_0 ?_
  by_cases z : cbP τ p l a b c
  · have ez : iB (cbP τ p l a b c) = 1 := iB_t z
    have c8 : (Int32.ofNat (ρ 10) < (8 : Int32)) ↔ False := iff_false_intro (fun q => ha ⟨z, (on_lt (j := 8) (by omega) (by omega)).mp q⟩)
    simp only [↓br_pos, ↓br_neg, ↓rF_I, ↓rF_L, ↓rF_R, ↓rF_N, rO_m, rB_m, ↓rI_m, wI_m, ↓rB2_m, ↓rB3_m, wB2_m, wB3_m, ↓rL_m, wL_m, ↓rQ_m, wQ_m, ↓lI_m, pI_m, pL_m, pR_m, sI_m, sBy_m, sBo_m, sL_m, sQ_m, fst_m, true_and, and_true, tg_some, ln_some, uI_1, uI_2, uL_1, uL_2, uL_3, uQ_1, uQ_2, uQ_3, rv_i, rv_l, rv_n, rv_b0, rv_b1, RMR, ne_eq, reduceCtorEq, not_false_eq_true, Option.getD_some, if_true, if_false, and_self, false_and, and_false, Nat.add_left_cancel_iff, Nat.add_eq_left, Nat.left_eq_add, Nat.one_ne_zero, Nat.reduceAdd, Nat.reduceLT, Nat.reduceLeDiff, Nat.reduceEqDiff, true_implies, false_implies, implies_true, Option.some.injEq, forall_eq', forall_eq, reduceCtorEq, brT, brF, br_s, i_10, i_01, ib_0_2, ib_1_2, tn_0, tn_1, Int32.le_refl, eq_self, rv_bN, rv_iM, RCX 0, RCG 2, RCT 4, RCT 15, RCT 25, RCS 35, RCS 49, RCH 63, RCP 67, RCB 72, RCR 77, RCM 81, RLY, lit_at hw, g_121 hw hP p3 hτ hv hd, ez, es, c8]
    exact hQ
  · have ez : iB (cbP τ p l a b c) = 0 := iB_f z
    simp only [↓br_pos, ↓br_neg, ↓rF_I, ↓rF_L, ↓rF_R, ↓rF_N, rO_m, rB_m, ↓rI_m, wI_m, ↓rB2_m, ↓rB3_m, wB2_m, wB3_m, ↓rL_m, wL_m, ↓rQ_m, wQ_m, ↓lI_m, pI_m, pL_m, pR_m, sI_m, sBy_m, sBo_m, sL_m, sQ_m, fst_m, true_and, and_true, tg_some, ln_some, uI_1, uI_2, uL_1, uL_2, uL_3, uQ_1, uQ_2, uQ_3, rv_i, rv_l, rv_n, rv_b0, rv_b1, RMR, ne_eq, reduceCtorEq, not_false_eq_true, Option.getD_some, if_true, if_false, and_self, false_and, and_false, Nat.add_left_cancel_iff, Nat.add_eq_left, Nat.left_eq_add, Nat.one_ne_zero, Nat.reduceAdd, Nat.reduceLT, Nat.reduceLeDiff, Nat.reduceEqDiff, true_implies, false_implies, implies_true, Option.some.injEq, forall_eq', forall_eq, reduceCtorEq, brT, brF, br_s, i_10, i_01, ib_0_2, ib_1_2, tn_0, tn_1, Int32.le_refl, eq_self, rv_bN, rv_iM, RCX 0, RCG 2, RCT 4, RCT 15, RCT 25, RCS 35, RCS 49, RCH 63, RCP 67, RCB 72, RCR 77, RCM 81, RLY, lit_at hw, g_121 hw hP p3 hτ hv hd, ez]
    exact hQ
theorem c_93 {w : mT} {σ : mS} {tp n : Nat} {t : Nat → Nat} {τ ρ : Rw} {bk : Nat → Rw} {has : Nat → Bool} {im : Nat → Rw} {p l a b c : Nat} (h : cIn w σ tp t τ ρ n bk has im) (hp : p < τ 1) (hl : l < τ 0) (ha : a < τ (28 + p)) (hb' : b < τ (28 + p)) (hc : 1 ≤ c ∧ c ≤ 99) (hn : ρ 10 < 8) : ∃ w' σ', wExt w w' ∧ frM σ σ' ∧ cIn w' σ' tp t τ (sO0 ρ p l a b c) (nPh n) (bkPh n bk ρ) has im ∧ ∀ {D : Nat} {K : Int32 → Hp → Prop}, 4 ≤ D → (wpI D 93 [.ref 0, .int (Int32.ofNat p), .int (Int32.ofNat l), .int (Int32.ofNat a), .int (Int32.ofNat b), .int (Int32.ofNat c)] (mW w σ) K ↔ K (Int32.ofNat (ρ 10 + 1)) (mW w' σ')) := by
  have h' := h
  obtain ⟨hw, hS, hH, ⟨P, hP, p3, p4, hτ⟩, hρ, hv, hr, h1, htp, htb, ht⟩ := h
  have hT := isTP hw hP
  have hT' := hT
  simp only [isT] at hT'
  obtain ⟨w1, σ1, x1, x2, C1, k1⟩ := k_11 h'
  have hw1 := C1.1
  have hρ1 : tSt σ1 35 τ ρ := C1.2.2.2.2.1
  obtain ⟨P1, hP1, p31, p41, hτ1⟩ := C1.2.2.2.1
  have hT1 := isTP hw1 hP1
  have hT1' := hT1
  simp only [isT] at hT1'
  have hb := vRow_b hv hr
  obtain ⟨σ2, f2, t2, e2⟩ := o66_0 (p := p) (l := l) (a := a) (b := b) (t := c) hw1 hρ1 hb hn
  refine ⟨w1, σ2, x1, frM_tr (frM_D x2 (by omega)) (frM_R f2 (by omega)), cIn_mu C1 f2 t2 (vRow_O0 hv hr hp hl ha hb' hc hn), fun hD => cI_of (m := 3) (fun d hd Q hQ => ?_) rfl hD⟩
  have hd2 : 2 ≤ d := by omega
  have ez : iB (cbP τ (Int32.ofNat p) (Int32.ofNat l) (Int32.ofNat a) (Int32.ofNat b) (Int32.ofNat c)) = 1 := iB_t (cbP_of hv hp hl ha hb' hc)
  have es : σ.1 47 0 = Int32.ofNat (ρ 10) := tS_or hρ (by omega : 0 < 2)
  have c8 : (Int32.ofNat (ρ 10) < (8 : Int32)) ↔ True := iff_true_intro ((on_lt (j := 8) (by omega) (by omega)).mpr hn)
  have es2 : σ2.1 47 0 = Int32.ofNat (ρ 10 + 1) := tS_or t2 (by omega : 0 < 2)
  refine b93_0 ?_
  simp only [↓br_pos, ↓br_neg, ↓rF_I, ↓rF_L, ↓rF_R, ↓rF_N, rO_m, rB_m, ↓rI_m, wI_m, ↓rB2_m, ↓rB3_m, wB2_m, wB3_m, ↓rL_m, wL_m, ↓rQ_m, wQ_m, ↓lI_m, pI_m, pL_m, pR_m, sI_m, sBy_m, sBo_m, sL_m, sQ_m, fst_m, true_and, and_true, tg_some, ln_some, uI_1, uI_2, uL_1, uL_2, uL_3, uQ_1, uQ_2, uQ_3, rv_i, rv_l, rv_n, rv_b0, rv_b1, RMR, ne_eq, reduceCtorEq, not_false_eq_true, Option.getD_some, if_true, if_false, and_self, false_and, and_false, Nat.add_left_cancel_iff, Nat.add_eq_left, Nat.left_eq_add, Nat.one_ne_zero, Nat.reduceAdd, Nat.reduceLT, Nat.reduceLeDiff, Nat.reduceEqDiff, true_implies, false_implies, implies_true, Option.some.injEq, forall_eq', forall_eq, reduceCtorEq, brT, brF, br_s, i_10, i_01, ib_0_2, ib_1_2, tn_0, tn_1, Int32.le_refl, eq_self, rv_bN, rv_iM, RCX 0, RCG 2, RCT 4, RCT 15, RCT 25, RCS 35, RCS 49, RCH 63, RCP 67, RCB 72, RCR 77, RCM 81, RLY, lit_at hw, g_121 hw hP p3 hτ hv hd, ez, es, c8, k1 hd, lit_at hw1, e2 hd2, es2]
  exact hQ
theorem c_94z {w : mT} {σ : mS} {tp n : Nat} {t : Nat → Nat} {τ ρ : Rw} {bk : Nat → Rw} {has : Nat → Bool} {im : Nat → Rw} {p c s : Int32} {D : Nat} {K : Int32 → Hp → Prop} (h : cIn w σ tp t τ ρ n bk has im) (ha : ¬ (bC τ p c = 1 ∧ bN s (τ 2) = 1 ∧ ρ 11 < 8)) (hD : 4 ≤ D) : wpI D 94 [.ref 0, .int p, .int c, .int s] (mW w σ) K ↔ K (-1) (mW w σ) := by
  have h' := h
  obtain ⟨hw, hS, hH, ⟨P, hP, p3, p4, hτ⟩, hρ, hv, hr, h1, htp, htb, ht⟩ := h
  have hT := isTP hw hP
  have hT' := hT
  simp only [isT] at hT'
  refine cI_of (m := 3) (fun d hd Q hQ => ?_) rfl hD
  have hd1 : 1 ≤ d := by omega
  have hd2 : 2 ≤ d := by omega
  have hd3 : 3 ≤ d := by omega
  have c1 := vR_c1 hr
  have v2 := hv.2.2.1
  have es : σ.1 47 1 = Int32.ofNat (ρ 11) := tS_or hρ (by omega : 1 < 2)
  refine b94_0 ?_
  by_cases z : bC τ p c = 1
  · by_cases y : bN s (τ 2) = 1
    · have c8 : (Int32.ofNat (ρ 11) < (8 : Int32)) ↔ False := iff_false_intro (fun q => ha ⟨z, y, (on_lt (j := 8) (by omega) (by omega)).mp q⟩)
      simp only [↓br_pos, ↓br_neg, ↓rF_I, ↓rF_L, ↓rF_R, ↓rF_N, rO_m, rB_m, ↓rI_m, wI_m, ↓rB2_m, ↓rB3_m, wB2_m, wB3_m, ↓rL_m, wL_m, ↓rQ_m, wQ_m, ↓lI_m, pI_m, pL_m, pR_m, sI_m, sBy_m, sBo_m, sL_m, sQ_m, fst_m, true_and, and_true, tg_some, ln_some, uI_1, uI_2, uL_1, uL_2, uL_3, uQ_1, uQ_2, uQ_3, rv_i, rv_l, rv_n, rv_b0, rv_b1, RMR, ne_eq, reduceCtorEq, not_false_eq_true, Option.getD_some, if_true, if_false, and_self, false_and, and_false, Nat.add_left_cancel_iff, Nat.add_eq_left, Nat.left_eq_add, Nat.one_ne_zero, Nat.reduceAdd, Nat.reduceLT, Nat.reduceLeDiff, Nat.reduceEqDiff, true_implies, false_implies, implies_true, Option.some.injEq, forall_eq', forall_eq, reduceCtorEq, brT, brF, br_s, i_10, i_01, ib_0_2, ib_1_2, tn_0, tn_1, Int32.le_refl, eq_self, rv_bN, rv_iM, RCX 0, RCG 2, RCT 4, RCT 15, RCT 25, RCS 35, RCS 49, RCH 63, RCP 67, RCB 72, RCR 77, RCM 81, RLY, lit_at hw, RCT P, hT', p3, g_72 hT hτ hv hd2, z, g_73 hT hτ.2.2.2.1 (by omega : τ 2 < 2147483648) hd1, y, es, c8]
      exact hQ
    · have y' : bN s (τ 2) = 0 := bN_01.resolve_right y
      simp only [↓br_pos, ↓br_neg, ↓rF_I, ↓rF_L, ↓rF_R, ↓rF_N, rO_m, rB_m, ↓rI_m, wI_m, ↓rB2_m, ↓rB3_m, wB2_m, wB3_m, ↓rL_m, wL_m, ↓rQ_m, wQ_m, ↓lI_m, pI_m, pL_m, pR_m, sI_m, sBy_m, sBo_m, sL_m, sQ_m, fst_m, true_and, and_true, tg_some, ln_some, uI_1, uI_2, uL_1, uL_2, uL_3, uQ_1, uQ_2, uQ_3, rv_i, rv_l, rv_n, rv_b0, rv_b1, RMR, ne_eq, reduceCtorEq, not_false_eq_true, Option.getD_some, if_true, if_false, and_self, false_and, and_false, Nat.add_left_cancel_iff, Nat.add_eq_left, Nat.left_eq_add, Nat.one_ne_zero, Nat.reduceAdd, Nat.reduceLT, Nat.reduceLeDiff, Nat.reduceEqDiff, true_implies, false_implies, implies_true, Option.some.injEq, forall_eq', forall_eq, reduceCtorEq, brT, brF, br_s, i_10, i_01, ib_0_2, ib_1_2, tn_0, tn_1, Int32.le_refl, eq_self, rv_bN, rv_iM, RCX 0, RCG 2, RCT 4, RCT 15, RCT 25, RCS 35, RCS 49, RCH 63, RCP 67, RCB 72, RCR 77, RCM 81, RLY, lit_at hw, RCT P, hT', p3, g_72 hT hτ hv hd2, z, g_73 hT hτ.2.2.2.1 (by omega : τ 2 < 2147483648) hd1, y']
      exact hQ
  · have z' : bC τ p c = 0 := bC_01.resolve_right z
    simp only [↓br_pos, ↓br_neg, ↓rF_I, ↓rF_L, ↓rF_R, ↓rF_N, rO_m, rB_m, ↓rI_m, wI_m, ↓rB2_m, ↓rB3_m, wB2_m, wB3_m, ↓rL_m, wL_m, ↓rQ_m, wQ_m, ↓lI_m, pI_m, pL_m, pR_m, sI_m, sBy_m, sBo_m, sL_m, sQ_m, fst_m, true_and, and_true, tg_some, ln_some, uI_1, uI_2, uL_1, uL_2, uL_3, uQ_1, uQ_2, uQ_3, rv_i, rv_l, rv_n, rv_b0, rv_b1, RMR, ne_eq, reduceCtorEq, not_false_eq_true, Option.getD_some, if_true, if_false, and_self, false_and, and_false, Nat.add_left_cancel_iff, Nat.add_eq_left, Nat.left_eq_add, Nat.one_ne_zero, Nat.reduceAdd, Nat.reduceLT, Nat.reduceLeDiff, Nat.reduceEqDiff, true_implies, false_implies, implies_true, Option.some.injEq, forall_eq', forall_eq, reduceCtorEq, brT, brF, br_s, i_10, i_01, ib_0_2, ib_1_2, tn_0, tn_1, Int32.le_refl, eq_self, rv_bN, rv_iM, RCX 0, RCG 2, RCT 4, RCT 15, RCT 25, RCS 35, RCS 49, RCH 63, RCP 67, RCB 72, RCR 77, RCM 81, RLY, lit_at hw, RCT P, hT', p3, g_72 hT hτ hv hd2, z']
    exact hQ
theorem c_94 {w : mT} {σ : mS} {tp n : Nat} {t : Nat → Nat} {τ ρ : Rw} {bk : Nat → Rw} {has : Nat → Bool} {im : Nat → Rw} {p c s : Nat} (h : cIn w σ tp t τ ρ n bk has im) (hp : p < τ 1) (hc : c < τ (28 + p)) (hs : s < τ 2) (hn : ρ 11 < 8) : ∃ w' σ', wExt w w' ∧ frM σ σ' ∧ cIn w' σ' tp t τ (sO1 ρ p c s) (nPh n) (bkPh n bk ρ) has im ∧ ∀ {D : Nat} {K : Int32 → Hp → Prop}, 4 ≤ D → (wpI D 94 [.ref 0, .int (Int32.ofNat p), .int (Int32.ofNat c), .int (Int32.ofNat s)] (mW w σ) K ↔ K (Int32.ofNat (ρ 11 + 1)) (mW w' σ')) := by
  have h' := h
  obtain ⟨hw, hS, hH, ⟨P, hP, p3, p4, hτ⟩, hρ, hv, hr, h1, htp, htb, ht⟩ := h
  have hT := isTP hw hP
  have hT' := hT
  simp only [isT] at hT'
  obtain ⟨w1, σ1, x1, x2, C1, k1⟩ := k_11 h'
  have hw1 := C1.1
  have hρ1 : tSt σ1 35 τ ρ := C1.2.2.2.2.1
  obtain ⟨P1, hP1, p31, p41, hτ1⟩ := C1.2.2.2.1
  have hT1 := isTP hw1 hP1
  have hT1' := hT1
  simp only [isT] at hT1'
  have hb := vRow_b hv hr
  obtain ⟨σ2, f2, t2, e2⟩ := o66_1 (p := p) (c := c) (s := s) hw1 hρ1 hb hn
  refine ⟨w1, σ2, x1, frM_tr (frM_D x2 (by omega)) (frM_R f2 (by omega)), cIn_mu C1 f2 t2 (vRow_O1 hv hr hp hc hs hn), fun hD => cI_of (m := 3) (fun d hd Q hQ => ?_) rfl hD⟩
  have hd1 : 1 ≤ d := by omega
  have hd2 : 2 ≤ d := by omega
  have hd3 : 3 ≤ d := by omega
  have v2 := hv.2.2.1
  have z := bC_t hp hv hc
  have y := bN_on hs (by omega : τ 2 < 2147483648)
  have es : σ.1 47 1 = Int32.ofNat (ρ 11) := tS_or hρ (by omega : 1 < 2)
  have c8 : (Int32.ofNat (ρ 11) < (8 : Int32)) ↔ True := iff_true_intro ((on_lt (j := 8) (by omega) (by omega)).mpr hn)
  have es2 : σ2.1 47 1 = Int32.ofNat (ρ 11 + 1) := tS_or t2 (by omega : 1 < 2)
  refine b94_0 ?_
  simp only [↓br_pos, ↓br_neg, ↓rF_I, ↓rF_L, ↓rF_R, ↓rF_N, rO_m, rB_m, ↓rI_m, wI_m, ↓rB2_m, ↓rB3_m, wB2_m, wB3_m, ↓rL_m, wL_m, ↓rQ_m, wQ_m, ↓lI_m, pI_m, pL_m, pR_m, sI_m, sBy_m, sBo_m, sL_m, sQ_m, fst_m, true_and, and_true, tg_some, ln_some, uI_1, uI_2, uL_1, uL_2, uL_3, uQ_1, uQ_2, uQ_3, rv_i, rv_l, rv_n, rv_b0, rv_b1, RMR, ne_eq, reduceCtorEq, not_false_eq_true, Option.getD_some, if_true, if_false, and_self, false_and, and_false, Nat.add_left_cancel_iff, Nat.add_eq_left, Nat.left_eq_add, Nat.one_ne_zero, Nat.reduceAdd, Nat.reduceLT, Nat.reduceLeDiff, Nat.reduceEqDiff, true_implies, false_implies, implies_true, Option.some.injEq, forall_eq', forall_eq, reduceCtorEq, brT, brF, br_s, i_10, i_01, ib_0_2, ib_1_2, tn_0, tn_1, Int32.le_refl, eq_self, rv_bN, rv_iM, RCX 0, RCG 2, RCT 4, RCT 15, RCT 25, RCS 35, RCS 49, RCH 63, RCP 67, RCB 72, RCR 77, RCM 81, RLY, lit_at hw, RCT P, hT', p3, g_72 hT hτ hv hd2, z, g_73 hT hτ.2.2.2.1 (by omega : τ 2 < 2147483648) hd1, y, es, c8, k1 hd, lit_at hw1, e2 hd2, es2]
  exact hQ
def wcN (τ ρ : Rw) (p c s : Nat) : Nat := if tOn ρ p c = 0 then 2 else if ¬ tkP τ ρ s then 3 else if ¬ apP τ ρ 1 p c c then 4 else 0
theorem g_88z {w : mT} {σ : mS} {P D : Nat} {τ : Rw} {p c s : Int32} {K : Int32 → Hp → Prop} (hw : lit w) (hP : P = 15 ∨ P = 25) (p3 : σ.2.2 0 3 = some P) (hτ : tTold σ P τ) (hv : vTold τ) (hc : ¬ (bC τ p c = 1 ∧ bN s (τ 2) = 1)) (hD : 3 ≤ D) : wpI D 88 [.ref 0, .int p, .int c, .int s] (mW w σ) K ↔ K 1 (mW w σ) := by
  have hT := isTP hw hP
  have hT' := hT
  simp only [isT] at hT'
  refine cI_of (m := 2) (fun d hd Q hQ => ?_) rfl hD
  have hd1 : 1 ≤ d := by omega
  have hd2 : 2 ≤ d := by omega
  have v2 := hv.2.2.1
  refine b88_0 ?_
  by_cases z : bC τ p c = 1
  · have y' : bN s (τ 2) = 0 := bN_01.resolve_right (fun q => hc ⟨z, q⟩)
    simp only [↓br_pos, ↓br_neg, ↓rF_I, ↓rF_L, ↓rF_R, ↓rF_N, rO_m, rB_m, ↓rI_m, wI_m, ↓rB2_m, ↓rB3_m, wB2_m, wB3_m, ↓rL_m, wL_m, ↓rQ_m, wQ_m, ↓lI_m, pI_m, pL_m, pR_m, sI_m, sBy_m, sBo_m, sL_m, sQ_m, fst_m, true_and, and_true, tg_some, ln_some, uI_1, uI_2, uL_1, uL_2, uL_3, uQ_1, uQ_2, uQ_3, rv_i, rv_l, rv_n, rv_b0, rv_b1, RMR, ne_eq, reduceCtorEq, not_false_eq_true, Option.getD_some, if_true, if_false, and_self, false_and, and_false, Nat.add_left_cancel_iff, Nat.add_eq_left, Nat.left_eq_add, Nat.one_ne_zero, Nat.reduceAdd, Nat.reduceLT, Nat.reduceLeDiff, Nat.reduceEqDiff, true_implies, false_implies, implies_true, Option.some.injEq, forall_eq', forall_eq, reduceCtorEq, brT, brF, br_s, i_10, i_01, ib_0_2, ib_1_2, tn_0, tn_1, Int32.le_refl, eq_self, rv_bN, rv_iM, RCX 0, RCG 2, RCT 4, RCT 15, RCT 25, RCS 35, RCS 49, RCH 63, RCP 67, RCB 72, RCR 77, RCM 81, RLY, lit_at hw, RCT P, hT', p3, g_72 hT hτ hv hd2, z, g_73 hT hτ.2.2.2.1 (by omega : τ 2 < 2147483648) hd1, y']
    exact hQ
  · have z' : bC τ p c = 0 := bC_01.resolve_right z
    simp only [↓br_pos, ↓br_neg, ↓rF_I, ↓rF_L, ↓rF_R, ↓rF_N, rO_m, rB_m, ↓rI_m, wI_m, ↓rB2_m, ↓rB3_m, wB2_m, wB3_m, ↓rL_m, wL_m, ↓rQ_m, wQ_m, ↓lI_m, pI_m, pL_m, pR_m, sI_m, sBy_m, sBo_m, sL_m, sQ_m, fst_m, true_and, and_true, tg_some, ln_some, uI_1, uI_2, uL_1, uL_2, uL_3, uQ_1, uQ_2, uQ_3, rv_i, rv_l, rv_n, rv_b0, rv_b1, RMR, ne_eq, reduceCtorEq, not_false_eq_true, Option.getD_some, if_true, if_false, and_self, false_and, and_false, Nat.add_left_cancel_iff, Nat.add_eq_left, Nat.left_eq_add, Nat.one_ne_zero, Nat.reduceAdd, Nat.reduceLT, Nat.reduceLeDiff, Nat.reduceEqDiff, true_implies, false_implies, implies_true, Option.some.injEq, forall_eq', forall_eq, reduceCtorEq, brT, brF, br_s, i_10, i_01, ib_0_2, ib_1_2, tn_0, tn_1, Int32.le_refl, eq_self, rv_bN, rv_iM, RCX 0, RCG 2, RCT 4, RCT 15, RCT 25, RCS 35, RCS 49, RCH 63, RCP 67, RCB 72, RCR 77, RCM 81, RLY, lit_at hw, RCT P, hT', p3, g_72 hT hτ hv hd2, z']
    exact hQ
theorem g_88 {w : mT} {σ : mS} {P p c s D : Nat} {τ ρ : Rw} {K : Int32 → Hp → Prop} (hw : lit w) (hP : P = 15 ∨ P = 25) (p3 : σ.2.2 0 3 = some P) (hτ : tTold σ P τ) (hv : vTold τ) (hρ : tSt σ 35 τ ρ) (hr : vRow τ ρ) (hp : p < τ 1) (hc : c < τ (28 + p)) (hs : s < τ 2) (hD : 3 ≤ D) : wpI D 88 [.ref 0, .int (Int32.ofNat p), .int (Int32.ofNat c), .int (Int32.ofNat s)] (mW w σ) K ↔ K (Int32.ofNat (wcN τ ρ p c s)) (mW w σ) := by
  have hT := isTP hw hP
  have hT' := hT
  simp only [isT] at hT'
  refine cI_of (m := 2) (fun d hd Q hQ => ?_) rfl hD
  have hd1 : 1 ≤ d := by omega
  have hd2 : 2 ≤ d := by omega
  have v1 := hv.2.1
  have v2 := hv.2.2.1
  have v3 := (hv.2.2.2.2.2.1 p hp).2
  have z := bC_t hp hv hc
  have y := bN_on hs (by omega : τ 2 < 2147483648)
  have tl := tOn_lt hr (by omega : p < 3) (by omega : c < 12)
  have e56 := fun {K : Int32 → Hp → Prop} => g_56 (K := K) (isS35 hw) hρ hr (by omega : p < 3) (by omega : c < 12) hd2
  have e62 := fun {K : Int32 → Hp → Prop} => g_62 (K := K) (isS35 hw) hT hρ hτ hv hr hs hd1
  have e122 : ∀ {K : Int32 → Hp → Prop}, wpI d 122 [.ref 0, .int (1 : Int32), .int (Int32.ofNat p), .int (Int32.ofNat c), .int (Int32.ofNat c)] (mW w σ) K ↔ K (iB (apP τ ρ 1 p c c)) (mW w σ) := fun {K} => g_122 (m := 1) hw hP p3 hτ hv hρ hr (by omega) (by omega) (by omega) (by omega) hd2
  have c0 := of_eq0 (a := tOn ρ p c) (by omega)
  refine b88_0 ?_
  unfold wcN at hQ
  by_cases a : tOn ρ p c = 0
  · rw [if_pos a] at hQ
    have c0' := iff_true_intro (c0.mpr a)
    simp only [↓br_pos, ↓br_neg, ↓rF_I, ↓rF_L, ↓rF_R, ↓rF_N, rO_m, rB_m, ↓rI_m, wI_m, ↓rB2_m, ↓rB3_m, wB2_m, wB3_m, ↓rL_m, wL_m, ↓rQ_m, wQ_m, ↓lI_m, pI_m, pL_m, pR_m, sI_m, sBy_m, sBo_m, sL_m, sQ_m, fst_m, true_and, and_true, tg_some, ln_some, uI_1, uI_2, uL_1, uL_2, uL_3, uQ_1, uQ_2, uQ_3, rv_i, rv_l, rv_n, rv_b0, rv_b1, RMR, ne_eq, reduceCtorEq, not_false_eq_true, Option.getD_some, if_true, if_false, and_self, false_and, and_false, Nat.add_left_cancel_iff, Nat.add_eq_left, Nat.left_eq_add, Nat.one_ne_zero, Nat.reduceAdd, Nat.reduceLT, Nat.reduceLeDiff, Nat.reduceEqDiff, true_implies, false_implies, implies_true, Option.some.injEq, forall_eq', forall_eq, reduceCtorEq, brT, brF, br_s, i_10, i_01, ib_0_2, ib_1_2, tn_0, tn_1, Int32.le_refl, eq_self, rv_bN, rv_iM, RCX 0, RCG 2, RCT 4, RCT 15, RCT 25, RCS 35, RCS 49, RCH 63, RCP 67, RCB 72, RCR 77, RCM 81, RLY, lit_at hw, RCT P, hT', p3, g_72 hT hτ hv hd2, z, g_73 hT hτ.2.2.2.1 (by omega : τ 2 < 2147483648) hd1, y, e56, c0']
    exact hQ
  · rw [if_neg a] at hQ
    have c0' := iff_false_intro (fun q => a (c0.mp q))
    by_cases b : tkP τ ρ s
    · rw [if_neg (fun q => q b)] at hQ
      have eb : iB (tkP τ ρ s) = 1 := iB_t b
      by_cases e : apP τ ρ 1 p c c
      · rw [if_neg (fun q => q e)] at hQ
        have ee : iB (apP τ ρ 1 p c c) = 1 := iB_t e
        simp only [↓br_pos, ↓br_neg, ↓rF_I, ↓rF_L, ↓rF_R, ↓rF_N, rO_m, rB_m, ↓rI_m, wI_m, ↓rB2_m, ↓rB3_m, wB2_m, wB3_m, ↓rL_m, wL_m, ↓rQ_m, wQ_m, ↓lI_m, pI_m, pL_m, pR_m, sI_m, sBy_m, sBo_m, sL_m, sQ_m, fst_m, true_and, and_true, tg_some, ln_some, uI_1, uI_2, uL_1, uL_2, uL_3, uQ_1, uQ_2, uQ_3, rv_i, rv_l, rv_n, rv_b0, rv_b1, RMR, ne_eq, reduceCtorEq, not_false_eq_true, Option.getD_some, if_true, if_false, and_self, false_and, and_false, Nat.add_left_cancel_iff, Nat.add_eq_left, Nat.left_eq_add, Nat.one_ne_zero, Nat.reduceAdd, Nat.reduceLT, Nat.reduceLeDiff, Nat.reduceEqDiff, true_implies, false_implies, implies_true, Option.some.injEq, forall_eq', forall_eq, reduceCtorEq, brT, brF, br_s, i_10, i_01, ib_0_2, ib_1_2, tn_0, tn_1, Int32.le_refl, eq_self, rv_bN, rv_iM, RCX 0, RCG 2, RCT 4, RCT 15, RCT 25, RCS 35, RCS 49, RCH 63, RCP 67, RCB 72, RCR 77, RCM 81, RLY, lit_at hw, RCT P, hT', p3, g_72 hT hτ hv hd2, z, g_73 hT hτ.2.2.2.1 (by omega : τ 2 < 2147483648) hd1, y, e56, c0', e62, eb, e122, ee]
        exact hQ
      · rw [if_pos e] at hQ
        have ee : iB (apP τ ρ 1 p c c) = 0 := iB_f e
        simp only [↓br_pos, ↓br_neg, ↓rF_I, ↓rF_L, ↓rF_R, ↓rF_N, rO_m, rB_m, ↓rI_m, wI_m, ↓rB2_m, ↓rB3_m, wB2_m, wB3_m, ↓rL_m, wL_m, ↓rQ_m, wQ_m, ↓lI_m, pI_m, pL_m, pR_m, sI_m, sBy_m, sBo_m, sL_m, sQ_m, fst_m, true_and, and_true, tg_some, ln_some, uI_1, uI_2, uL_1, uL_2, uL_3, uQ_1, uQ_2, uQ_3, rv_i, rv_l, rv_n, rv_b0, rv_b1, RMR, ne_eq, reduceCtorEq, not_false_eq_true, Option.getD_some, if_true, if_false, and_self, false_and, and_false, Nat.add_left_cancel_iff, Nat.add_eq_left, Nat.left_eq_add, Nat.one_ne_zero, Nat.reduceAdd, Nat.reduceLT, Nat.reduceLeDiff, Nat.reduceEqDiff, true_implies, false_implies, implies_true, Option.some.injEq, forall_eq', forall_eq, reduceCtorEq, brT, brF, br_s, i_10, i_01, ib_0_2, ib_1_2, tn_0, tn_1, Int32.le_refl, eq_self, rv_bN, rv_iM, RCX 0, RCG 2, RCT 4, RCT 15, RCT 25, RCS 35, RCS 49, RCH 63, RCP 67, RCB 72, RCR 77, RCM 81, RLY, lit_at hw, RCT P, hT', p3, g_72 hT hτ hv hd2, z, g_73 hT hτ.2.2.2.1 (by omega : τ 2 < 2147483648) hd1, y, e56, c0', e62, eb, e122, ee]
        exact hQ
    · rw [if_pos b] at hQ
      have eb : iB (tkP τ ρ s) = 0 := iB_f b
      simp only [↓br_pos, ↓br_neg, ↓rF_I, ↓rF_L, ↓rF_R, ↓rF_N, rO_m, rB_m, ↓rI_m, wI_m, ↓rB2_m, ↓rB3_m, wB2_m, wB3_m, ↓rL_m, wL_m, ↓rQ_m, wQ_m, ↓lI_m, pI_m, pL_m, pR_m, sI_m, sBy_m, sBo_m, sL_m, sQ_m, fst_m, true_and, and_true, tg_some, ln_some, uI_1, uI_2, uL_1, uL_2, uL_3, uQ_1, uQ_2, uQ_3, rv_i, rv_l, rv_n, rv_b0, rv_b1, RMR, ne_eq, reduceCtorEq, not_false_eq_true, Option.getD_some, if_true, if_false, and_self, false_and, and_false, Nat.add_left_cancel_iff, Nat.add_eq_left, Nat.left_eq_add, Nat.one_ne_zero, Nat.reduceAdd, Nat.reduceLT, Nat.reduceLeDiff, Nat.reduceEqDiff, true_implies, false_implies, implies_true, Option.some.injEq, forall_eq', forall_eq, reduceCtorEq, brT, brF, br_s, i_10, i_01, ib_0_2, ib_1_2, tn_0, tn_1, Int32.le_refl, eq_self, rv_bN, rv_iM, RCX 0, RCG 2, RCT 4, RCT 15, RCT 25, RCS 35, RCS 49, RCH 63, RCP 67, RCB 72, RCR 77, RCM 81, RLY, lit_at hw, RCT P, hT', p3, g_72 hT hτ hv hd2, z, g_73 hT hτ.2.2.2.1 (by omega : τ 2 < 2147483648) hd1, y, e56, c0', e62, eb]
      exact hQ
theorem wc_lt {τ ρ : Rw} {p c s : Nat} : wcN τ ρ p c s < 5 := by
  unfold wcN
  split
  · omega
  split
  · omega
  split <;> omega
theorem c_89z {w : mT} {σ : mS} {tp n : Nat} {t : Nat → Nat} {τ ρ : Rw} {bk : Nat → Rw} {has : Nat → Bool} {im : Nat → Rw} {p c s : Int32} {D : Nat} {K : Int32 → Hp → Prop} (h : cIn w σ tp t τ ρ n bk has im) (ha : ¬ (bC τ p c = 1 ∧ bN s (τ 2) = 1)) (hD : 4 ≤ D) : wpI D 89 [.ref 0, .int p, .int c, .int s] (mW w σ) K ↔ K (-1) (mW w σ) := by
  have h' := h
  obtain ⟨hw, hS, hH, ⟨P, hP, p3, p4, hτ⟩, hρ, hv, hr, h1, htp, htb, ht⟩ := h
  have hT := isTP hw hP
  have hT' := hT
  simp only [isT] at hT'
  refine cI_of (m := 3) (fun d hd Q hQ => ?_) rfl hD
  refine b89_0 ?_
  simp only [↓br_pos, ↓br_neg, ↓rF_I, ↓rF_L, ↓rF_R, ↓rF_N, rO_m, rB_m, ↓rI_m, wI_m, ↓rB2_m, ↓rB3_m, wB2_m, wB3_m, ↓rL_m, wL_m, ↓rQ_m, wQ_m, ↓lI_m, pI_m, pL_m, pR_m, sI_m, sBy_m, sBo_m, sL_m, sQ_m, fst_m, true_and, and_true, tg_some, ln_some, uI_1, uI_2, uL_1, uL_2, uL_3, uQ_1, uQ_2, uQ_3, rv_i, rv_l, rv_n, rv_b0, rv_b1, RMR, ne_eq, reduceCtorEq, not_false_eq_true, Option.getD_some, if_true, if_false, and_self, false_and, and_false, Nat.add_left_cancel_iff, Nat.add_eq_left, Nat.left_eq_add, Nat.one_ne_zero, Nat.reduceAdd, Nat.reduceLT, Nat.reduceLeDiff, Nat.reduceEqDiff, true_implies, false_implies, implies_true, Option.some.injEq, forall_eq', forall_eq, reduceCtorEq, brT, brF, br_s, i_10, i_01, ib_0_2, ib_1_2, tn_0, tn_1, Int32.le_refl, eq_self, rv_bN, rv_iM, RCX 0, RCG 2, RCT 4, RCT 15, RCT 25, RCS 35, RCS 49, RCH 63, RCP 67, RCB 72, RCR 77, RCM 81, RLY, lit_at hw, g_88z hw hP p3 hτ hv ha hd]
  exact hQ
theorem c_89n {w : mT} {σ : mS} {tp n : Nat} {t : Nat → Nat} {τ ρ : Rw} {bk : Nat → Rw} {has : Nat → Bool} {im : Nat → Rw} {p c s : Nat} {D : Nat} {K : Int32 → Hp → Prop} (h : cIn w σ tp t τ ρ n bk has im) (hp : p < τ 1) (hc : c < τ (28 + p)) (hs : s < τ 2) (hn : wcN τ ρ p c s ≠ 0) (hD : 4 ≤ D) : wpI D 89 [.ref 0, .int (Int32.ofNat p), .int (Int32.ofNat c), .int (Int32.ofNat s)] (mW w σ) K ↔ K (-1) (mW w σ) := by
  have h' := h
  obtain ⟨hw, hS, hH, ⟨P, hP, p3, p4, hτ⟩, hρ, hv, hr, h1, htp, htb, ht⟩ := h
  have hT := isTP hw hP
  have hT' := hT
  simp only [isT] at hT'
  refine cI_of (m := 3) (fun d hd Q hQ => ?_) rfl hD
  have lt := wc_lt (τ := τ) (ρ := ρ) (p := p) (c := c) (s := s)
  have e0 : (Int32.ofNat (wcN τ ρ p c s) = 0) ↔ False := iff_false_intro (fun q => hn ((of_eq0 (by omega)).mp q))
  refine b89_0 ?_
  simp only [↓br_pos, ↓br_neg, ↓rF_I, ↓rF_L, ↓rF_R, ↓rF_N, rO_m, rB_m, ↓rI_m, wI_m, ↓rB2_m, ↓rB3_m, wB2_m, wB3_m, ↓rL_m, wL_m, ↓rQ_m, wQ_m, ↓lI_m, pI_m, pL_m, pR_m, sI_m, sBy_m, sBo_m, sL_m, sQ_m, fst_m, true_and, and_true, tg_some, ln_some, uI_1, uI_2, uL_1, uL_2, uL_3, uQ_1, uQ_2, uQ_3, rv_i, rv_l, rv_n, rv_b0, rv_b1, RMR, ne_eq, reduceCtorEq, not_false_eq_true, Option.getD_some, if_true, if_false, and_self, false_and, and_false, Nat.add_left_cancel_iff, Nat.add_eq_left, Nat.left_eq_add, Nat.one_ne_zero, Nat.reduceAdd, Nat.reduceLT, Nat.reduceLeDiff, Nat.reduceEqDiff, true_implies, false_implies, implies_true, Option.some.injEq, forall_eq', forall_eq, reduceCtorEq, brT, brF, br_s, i_10, i_01, ib_0_2, ib_1_2, tn_0, tn_1, Int32.le_refl, eq_self, rv_bN, rv_iM, RCX 0, RCG 2, RCT 4, RCT 15, RCT 25, RCS 35, RCS 49, RCH 63, RCP 67, RCB 72, RCR 77, RCM 81, RLY, lit_at hw, g_88 hw hP p3 hτ hv hρ hr hp hc hs hd, e0]
  exact hQ
def sCutA (τ ρ : Rw) (p c s : Nat) : Rw := sMove τ (rSet (sGo ρ 1 p c) 7 0) p c s
theorem c_89 {w : mT} {σ : mS} {tp n : Nat} {t : Nat → Nat} {τ ρ : Rw} {bk : Nat → Rw} {has : Nat → Bool} {im : Nat → Rw} {p c s : Nat} (h : cIn w σ tp t τ ρ n bk has im) (hp : p < τ 1) (hc : c < τ (28 + p)) (hs : s < τ 2) (hn : wcN τ ρ p c s = 0) : ∃ w' σ', wExt w w' ∧ frM σ σ' ∧ cIn w' σ' tp t τ (sCutA τ ρ p c s) (nPh n) (bkPh n bk ρ) has im ∧ ∀ {D : Nat} {K : Int32 → Hp → Prop}, 4 ≤ D → (wpI D 89 [.ref 0, .int (Int32.ofNat p), .int (Int32.ofNat c), .int (Int32.ofNat s)] (mW w σ) K ↔ K (Int32.ofNat (tOn ρ p c)) (mW w' σ')) := by
  have h' := h
  obtain ⟨hw, hS, hH, ⟨P, hP, p3, p4, hτ⟩, hρ, hv, hr, h1, htp, htb, ht⟩ := h
  have hT := isTP hw hP
  have hT' := hT
  simp only [isT] at hT'
  obtain ⟨w1, σ1, x1, x2, C1, k1⟩ := k_11 h'
  have hw1 := C1.1
  have hρ1 : tSt σ1 35 τ ρ := C1.2.2.2.2.1
  obtain ⟨P1, hP1, p31, p41, hτ1⟩ := C1.2.2.2.1
  have hT1 := isTP hw1 hP1
  have hT1' := hT1
  simp only [isT] at hT1'
  have hb := vRow_b hv hr
  have v1 := hv.2.1
  have v3 := (hv.2.2.2.2.2.1 p hp).2
  obtain ⟨σ2, f2, t2, e2⟩ := g_54 (m := 1) (p := p) (c := c) (isS35 hw1) hρ1 hb (by omega) (onP_lt hv (vR_on hr (by omega : 1 < 2))) (by omega) (by omega)
  have r2 : vRow τ (sGo ρ 1 p c) := vRow_go hv hr (by omega) hp hc
  have t3 : tSt (uI σ2 45 1 0) 35 τ (rSet (sGo ρ 1 p c) 7 0) := tSt_w (A := 10) t2 (vRow_b hv r2) (by unfold in0; omega) (by decide) (tv_0 (by decide)).symm (by omega)
  have r3 : vRow τ (rSet (sGo ρ 1 p c) 7 0) := vRow_s hv r2 (by omega)
  have f3 : frR 35 49 σ2 (uI σ2 45 1 0) := frR_I (by omega)
  have T3 : tTold (uI σ2 45 1 0) P1 τ := tTold_R (tTold_R hτ1 f2 (by omega)) f3 (by omega)
  have p33 : σ2.2.2 0 3 = some P1 := by rw [f2.2]; exact p31
  obtain ⟨σ4, f4, t4, e4⟩ := g_63 (c := c) (isS35 hw1) hT1 t3 T3 hv r3 (by omega : p < 3) (by omega) hs
  have et : tOn (rSet (sGo ρ 1 p c) 7 0) p c = tOn ρ p c := tOn_c (by rw [rS_ne (by omega)]; unfold sGo; rw [rS_ne (by omega), rS_ne (by omega)]) (fun k _ => by rw [rS_ne (by unfold li; omega)]; unfold sGo; rw [rS_ne (by unfold li; omega), rS_ne (by unfold li; omega)])
  rw [et] at e4
  refine ⟨w1, σ4, x1, frM_tr (frM_D x2 (by omega)) (frM_R (frR_tr f2 (frR_tr f3 f4)) (by omega)), cIn_mu C1 (frR_tr f2 (frR_tr f3 f4)) t4 (vRow_move hv r3 (by omega) (by omega) hs), fun hD => cI_of (m := 3) (fun d hd Q hQ => ?_) rfl hD⟩
  have hd1 : 1 ≤ d := by omega
  have hd2 : 2 ≤ d := by omega
  have hd3 : 3 ≤ d := by omega
  have e0 : (Int32.ofNat (wcN τ ρ p c s) = 0) ↔ True := iff_true_intro (by rw [hn]; rfl)
  have e2' : ∀ {K : Hp → Prop}, wpV d 54 [.ref 35, .int (1 : Int32), .int (Int32.ofNat p), .int (Int32.ofNat c)] (mW w1 σ1) K ↔ K (mW w1 σ2) := fun {K} => e2 hd2
  refine b89_0 ?_
  simp only [↓br_pos, ↓br_neg, ↓rF_I, ↓rF_L, ↓rF_R, ↓rF_N, rO_m, rB_m, ↓rI_m, wI_m, ↓rB2_m, ↓rB3_m, wB2_m, wB3_m, ↓rL_m, wL_m, ↓rQ_m, wQ_m, ↓lI_m, pI_m, pL_m, pR_m, sI_m, sBy_m, sBo_m, sL_m, sQ_m, fst_m, true_and, and_true, tg_some, ln_some, uI_1, uI_2, uL_1, uL_2, uL_3, uQ_1, uQ_2, uQ_3, rv_i, rv_l, rv_n, rv_b0, rv_b1, RMR, ne_eq, reduceCtorEq, not_false_eq_true, Option.getD_some, if_true, if_false, and_self, false_and, and_false, Nat.add_left_cancel_iff, Nat.add_eq_left, Nat.left_eq_add, Nat.one_ne_zero, Nat.reduceAdd, Nat.reduceLT, Nat.reduceLeDiff, Nat.reduceEqDiff, true_implies, false_implies, implies_true, Option.some.injEq, forall_eq', forall_eq, reduceCtorEq, brT, brF, br_s, i_10, i_01, ib_0_2, ib_1_2, tn_0, tn_1, Int32.le_refl, eq_self, rv_bN, rv_iM, RCX 0, RCG 2, RCT 4, RCT 15, RCT 25, RCS 35, RCS 49, RCH 63, RCP 67, RCB 72, RCR 77, RCM 81, RLY, lit_at hw, g_88 hw hP p3 hτ hv hρ hr hp hc hs hd, e0, k1 hd, lit_at hw1, e2', p33, e4 hd]
  exact hQ
