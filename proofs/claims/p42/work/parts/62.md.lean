/-! the model's calls: days, machines, orders, back -/
theorem nb1 : vp_nar .boolean (1 : Int32) = 1 := by decide
theorem ex_99 {a : Int32} {n : Nat} (h : 1 ≤ a.toInt ∧ a.toInt ≤ n) : ∃ k : Nat, a = Int32.ofNat k ∧ 1 ≤ k ∧ k ≤ n := by
  obtain ⟨k, e, hk⟩ := ex_on (a := a) (n := a.toInt.toNat + 1) ⟨by omega, by omega⟩
  have : a.toInt.toNat < 2147483648 := by
    have := a.toInt_lt
    omega
  rw [e, on_int (by omega)] at h
  exact ⟨k, e, by omega, by omega⟩
theorem m_192z {w : mT} {σ : mS} {tp n : Nat} {t : Nat → Nat} {τ ρ : Rw} {bk : Nat → Rw} {has : Nat → Bool} {im : Nat → Rw} {a : Int32} {D : Nat} {K : Int32 → Hp → Prop} (h : mIn w σ tp t τ ρ n bk has im) (ha : ¬ (1 ≤ a.toInt ∧ a.toInt ≤ 99 ∧ (ρ 0 : Int) + a.toInt ≤ 999)) (hD : 3 ≤ D) : wpI D 192 [.ref 81, .int a] (mW w σ) K ↔ K (-1) (mW w (uI σ 81 0 0)) := by
  have M := h
  obtain ⟨hw, hτ, hρ, hv, hr, hp2, htp, htb, htl, hn, hn12, hbk, him⟩ := h
  have M0 := mIn_Z M (frZ_0 (j := 0) (x := 0) (by omega))
  obtain ⟨_, hτ0, hρ0, _, _, hp20, _, htb0, _, hn0, _, hbk0, him0⟩ := M0
  have M0 := mIn_Z M (frZ_0 (j := 0) (x := 0) (by omega))
  refine cI_of (m := 2) (fun d hd Q hQ => ?_) rfl hD
  have hd1 : 1 ≤ d := by omega
  have v0 := vR_day hr
  refine b192_0 ?_
  by_cases c : 1 ≤ a.toInt ∧ a.toInt ≤ 99
  · obtain ⟨k, rfl, hk⟩ := ex_99 (n := 99) c
    rw [on_int (by omega)] at ha c
    have c2 : (Int32.ofNat (ρ 0 + k) ≤ (999 : Int32)) ↔ False := iff_false_intro (fun q => absurd ((on_le (j := 999) (by omega) (by omega)).mp q) (by omega))
    have c1 : 1 ≤ (Int32.ofNat k).toInt ∧ (Int32.ofNat k).toInt ≤ 99 := by rw [on_int (by omega)]; omega
    simp only [↓br_pos, ↓br_neg, ↓rF_I, ↓rF_L, ↓rF_R, ↓rF_N, rO_m, rB_m, ↓rI_m, wI_m, ↓rB2_m, ↓rB3_m, wB2_m, wB3_m, ↓rL_m, wL_m, ↓rQ_m, wQ_m, ↓lI_m, pI_m, pL_m, pR_m, sI_m, sBy_m, sBo_m, sL_m, sQ_m, fst_m, true_and, and_true, tg_some, ln_some, uI_1, uI_2, uL_1, uL_2, uL_3, uQ_1, uQ_2, uQ_3, rv_i, rv_l, rv_n, rv_b0, rv_b1, RMR, ne_eq, reduceCtorEq, not_false_eq_true, Option.getD_some, if_true, if_false, and_self, false_and, and_false, Nat.add_left_cancel_iff, Nat.add_eq_left, Nat.left_eq_add, Nat.one_ne_zero, Nat.reduceAdd, Nat.reduceLT, Nat.reduceLeDiff, Nat.reduceEqDiff, true_implies, false_implies, implies_true, Option.some.injEq, forall_eq', forall_eq, reduceCtorEq, brT, brF, br_s, i_10, i_01, ib_0_2, ib_1_2, tn_0, tn_1, Int32.le_refl, eq_self, rv_bN, rv_iM, RCM 81, RLY, lit_at hw, g_129 hd1, vin_99, iB_t c1, z10, mr_0l hρ, ad_2, ad_4, ad_6, ad_8, ad_10, ad_12, ad_16, ad_24, ad_27, ad_28, ad_31, ad_35, ad_43, ad_51, ad_107, ad_131, ad_311, ml_3, ml_6, ml_7, ml_60, ml_100, ml_2471, mq_12, ar_2, ar_3, ar_4, ar_5, ar_6, of_add, of_mul, on_succ, c2]
    exact hQ
  · simp only [↓br_pos, ↓br_neg, ↓rF_I, ↓rF_L, ↓rF_R, ↓rF_N, rO_m, rB_m, ↓rI_m, wI_m, ↓rB2_m, ↓rB3_m, wB2_m, wB3_m, ↓rL_m, wL_m, ↓rQ_m, wQ_m, ↓lI_m, pI_m, pL_m, pR_m, sI_m, sBy_m, sBo_m, sL_m, sQ_m, fst_m, true_and, and_true, tg_some, ln_some, uI_1, uI_2, uL_1, uL_2, uL_3, uQ_1, uQ_2, uQ_3, rv_i, rv_l, rv_n, rv_b0, rv_b1, RMR, ne_eq, reduceCtorEq, not_false_eq_true, Option.getD_some, if_true, if_false, and_self, false_and, and_false, Nat.add_left_cancel_iff, Nat.add_eq_left, Nat.left_eq_add, Nat.one_ne_zero, Nat.reduceAdd, Nat.reduceLT, Nat.reduceLeDiff, Nat.reduceEqDiff, true_implies, false_implies, implies_true, Option.some.injEq, forall_eq', forall_eq, reduceCtorEq, brT, brF, br_s, i_10, i_01, ib_0_2, ib_1_2, tn_0, tn_1, Int32.le_refl, eq_self, rv_bN, rv_iM, RCM 81, RLY, lit_at hw, g_129 hd1, vin_99, iB_f c, z00]
    exact hQ
theorem m_192 {w : mT} {σ : mS} {tp n : Nat} {t : Nat → Nat} {τ ρ : Rw} {bk : Nat → Rw} {has : Nat → Bool} {im : Nat → Rw} {k : Nat} (h : mIn w σ tp t τ ρ n bk has im) (hk : 1 ≤ k ∧ k ≤ 99) (hk2 : ρ 0 + k ≤ 999) : ∃ σ', frA σ σ' ∧ mIn w σ' tp t τ (rSet ρ 0 (ρ 0 + k)) (nPh n) (bkPh n bk ρ) has im ∧ ∀ {D : Nat} {K : Int32 → Hp → Prop}, 3 ≤ D → (wpI D 192 [.ref 81, .int (Int32.ofNat k)] (mW w σ) K ↔ K (Int32.ofNat (ρ 0 + k)) (mW w σ')) := by
  have M := h
  obtain ⟨hw, hτ, hρ, hv, hr, hp2, htp, htb, htl, hn, hn12, hbk, him⟩ := h
  have M0 := mIn_Z M (frZ_0 (j := 0) (x := 0) (by omega))
  obtain ⟨_, hτ0, hρ0, _, _, hp20, _, htb0, _, hn0, _, hbk0, him0⟩ := M0
  have M0 := mIn_Z M (frZ_0 (j := 0) (x := 0) (by omega))
  obtain ⟨σ1, f1, M1, k1⟩ := k_177 M0
  have hρ1 := M1.2.2.1
  have hτ1 := M1.2.1
  have F1 := frA_tr (frA_I (σ := σ) (a := 81) (j := 0) (x := 0) (by omega)) f1
  refine ⟨uI σ1 85 0 (Int32.ofNat (ρ 0 + k)), frA_tr F1 (frA_I (by omega)), mIn_row M1 (frR_I (by omega)) (mR_w hρ1) (vRow_s hv hr (by omega)), fun hD => cI_of (m := 2) (fun d hd Q hQ => ?_) rfl hD⟩
  have hd1 : 1 ≤ d := by omega
  have c1 : 1 ≤ (Int32.ofNat k).toInt ∧ (Int32.ofNat k).toInt ≤ 99 := by rw [on_int (by omega)]; omega
  have c2 : (Int32.ofNat (ρ 0 + k) ≤ (999 : Int32)) ↔ True := iff_true_intro ((on_le (j := 999) (by omega) (by omega)).mpr hk2)
  refine b192_0 ?_
  simp only [↓br_pos, ↓br_neg, ↓rF_I, ↓rF_L, ↓rF_R, ↓rF_N, rO_m, rB_m, ↓rI_m, wI_m, ↓rB2_m, ↓rB3_m, wB2_m, wB3_m, ↓rL_m, wL_m, ↓rQ_m, wQ_m, ↓lI_m, pI_m, pL_m, pR_m, sI_m, sBy_m, sBo_m, sL_m, sQ_m, fst_m, true_and, and_true, tg_some, ln_some, uI_1, uI_2, uL_1, uL_2, uL_3, uQ_1, uQ_2, uQ_3, rv_i, rv_l, rv_n, rv_b0, rv_b1, RMR, ne_eq, reduceCtorEq, not_false_eq_true, Option.getD_some, if_true, if_false, and_self, false_and, and_false, Nat.add_left_cancel_iff, Nat.add_eq_left, Nat.left_eq_add, Nat.one_ne_zero, Nat.reduceAdd, Nat.reduceLT, Nat.reduceLeDiff, Nat.reduceEqDiff, true_implies, false_implies, implies_true, Option.some.injEq, forall_eq', forall_eq, reduceCtorEq, brT, brF, br_s, i_10, i_01, ib_0_2, ib_1_2, tn_0, tn_1, Int32.le_refl, eq_self, rv_bN, rv_iM, RCM 81, RLY, lit_at hw, g_129 hd1, vin_99, iB_t c1, z10, mr_0l hρ, mr_0l hρ1, ad_2, ad_4, ad_6, ad_8, ad_10, ad_12, ad_16, ad_24, ad_27, ad_28, ad_31, ad_35, ad_43, ad_51, ad_107, ad_131, ad_311, ml_3, ml_6, ml_7, ml_60, ml_100, ml_2471, mq_12, ar_2, ar_3, ar_4, ar_5, ar_6, of_add, of_mul, on_succ, c2, k1 hd]
  exact hQ
theorem m_189z {w : mT} {σ : mS} {tp n : Nat} {t : Nat → Nat} {τ ρ : Rw} {bk : Nat → Rw} {has : Nat → Bool} {im : Nat → Rw} {a : Int32} {D : Nat} {K : Int32 → Hp → Prop} (h : mIn w σ tp t τ ρ n bk has im) (ha : ¬ (bN a 2 = 1 ∧ ρ (2 + a.toNatClampNeg) ≠ 0)) (hD : 3 ≤ D) : wpI D 189 [.ref 81, .int a] (mW w σ) K ↔ K 0 (mW w (uI σ 81 0 0)) := by
  have M := h
  obtain ⟨hw, hτ, hρ, hv, hr, hp2, htp, htb, htl, hn, hn12, hbk, him⟩ := h
  have M0 := mIn_Z M (frZ_0 (j := 0) (x := 0) (by omega))
  obtain ⟨_, hτ0, hρ0, _, _, hp20, _, htb0, _, hn0, _, hbk0, him0⟩ := M0
  have M0 := mIn_Z M (frZ_0 (j := 0) (x := 0) (by omega))
  refine cI_of (m := 2) (fun d hd Q hQ => ?_) rfl hD
  have hd1 : 1 ≤ d := by omega
  refine b189_0 ?_
  have e : iB (0 ≤ a.toInt ∧ a.toInt ≤ 1) = bN a 2 := iB_bN (by omega)
  by_cases z : bN a 2 = 1
  · obtain ⟨m, rfl, hm⟩ := bN_ex z
    rw [on_nat (by omega)] at ha
    have y : ρ (2 + m) = 0 := Decidable.not_not.mp (fun q => ha ⟨z, q⟩)
    have c : (Int32.ofNat (ρ (2 + m)) = 0) ↔ True := iff_true_intro (by rw [y]; rfl)
    simp only [↓br_pos, ↓br_neg, ↓rF_I, ↓rF_L, ↓rF_R, ↓rF_N, rO_m, rB_m, ↓rI_m, wI_m, ↓rB2_m, ↓rB3_m, wB2_m, wB3_m, ↓rL_m, wL_m, ↓rQ_m, wQ_m, ↓lI_m, pI_m, pL_m, pR_m, sI_m, sBy_m, sBo_m, sL_m, sQ_m, fst_m, true_and, and_true, tg_some, ln_some, uI_1, uI_2, uL_1, uL_2, uL_3, uQ_1, uQ_2, uQ_3, rv_i, rv_l, rv_n, rv_b0, rv_b1, RMR, ne_eq, reduceCtorEq, not_false_eq_true, Option.getD_some, if_true, if_false, and_self, false_and, and_false, Nat.add_left_cancel_iff, Nat.add_eq_left, Nat.left_eq_add, Nat.one_ne_zero, Nat.reduceAdd, Nat.reduceLT, Nat.reduceLeDiff, Nat.reduceEqDiff, true_implies, false_implies, implies_true, Option.some.injEq, forall_eq', forall_eq, reduceCtorEq, brT, brF, br_s, i_10, i_01, ib_0_2, ib_1_2, tn_0, tn_1, Int32.le_refl, eq_self, rv_bN, rv_iM, RCM 81, RLY, lit_at hw, g_129 hd1, vin_01, e, z, z10, mr hρ (by omega : 2 + m < 2471), ad_2, ad_4, ad_6, ad_8, ad_10, ad_12, ad_16, ad_24, ad_27, ad_28, ad_31, ad_35, ad_43, ad_51, ad_107, ad_131, ad_311, ml_3, ml_6, ml_7, ml_60, ml_100, ml_2471, mq_12, ar_2, ar_3, ar_4, ar_5, ar_6, of_add, of_mul, on_succ, c]
    exact hQ
  · have z' : bN a 2 = 0 := bN_01.resolve_right z
    simp only [↓br_pos, ↓br_neg, ↓rF_I, ↓rF_L, ↓rF_R, ↓rF_N, rO_m, rB_m, ↓rI_m, wI_m, ↓rB2_m, ↓rB3_m, wB2_m, wB3_m, ↓rL_m, wL_m, ↓rQ_m, wQ_m, ↓lI_m, pI_m, pL_m, pR_m, sI_m, sBy_m, sBo_m, sL_m, sQ_m, fst_m, true_and, and_true, tg_some, ln_some, uI_1, uI_2, uL_1, uL_2, uL_3, uQ_1, uQ_2, uQ_3, rv_i, rv_l, rv_n, rv_b0, rv_b1, RMR, ne_eq, reduceCtorEq, not_false_eq_true, Option.getD_some, if_true, if_false, and_self, false_and, and_false, Nat.add_left_cancel_iff, Nat.add_eq_left, Nat.left_eq_add, Nat.one_ne_zero, Nat.reduceAdd, Nat.reduceLT, Nat.reduceLeDiff, Nat.reduceEqDiff, true_implies, false_implies, implies_true, Option.some.injEq, forall_eq', forall_eq, reduceCtorEq, brT, brF, br_s, i_10, i_01, ib_0_2, ib_1_2, tn_0, tn_1, Int32.le_refl, eq_self, rv_bN, rv_iM, RCM 81, RLY, lit_at hw, g_129 hd1, vin_01, e, z', z00]
    exact hQ
theorem m_189 {w : mT} {σ : mS} {tp n : Nat} {t : Nat → Nat} {τ ρ : Rw} {bk : Nat → Rw} {has : Nat → Bool} {im : Nat → Rw} {m : Nat} (h : mIn w σ tp t τ ρ n bk has im) (hm : m < 2) (hs : ρ (2 + m) ≠ 0) : ∃ σ', frA σ σ' ∧ mIn w σ' tp t τ (rSet (rSet ρ (2 + m) 0) (6 + m) 0) (nPh n) (bkPh n bk ρ) has im ∧ ∀ {D : Nat} {K : Int32 → Hp → Prop}, 3 ≤ D → (wpI D 189 [.ref 81, .int (Int32.ofNat m)] (mW w σ) K ↔ K 1 (mW w σ')) := by
  have M := h
  obtain ⟨hw, hτ, hρ, hv, hr, hp2, htp, htb, htl, hn, hn12, hbk, him⟩ := h
  have M0 := mIn_Z M (frZ_0 (j := 0) (x := 0) (by omega))
  obtain ⟨_, hτ0, hρ0, _, _, hp20, _, htb0, _, hn0, _, hbk0, him0⟩ := M0
  have M0 := mIn_Z M (frZ_0 (j := 0) (x := 0) (by omega))
  obtain ⟨σ1, f1, M1, k1⟩ := k_177 M0
  have hρ1 := M1.2.2.1
  have hτ1 := M1.2.1
  have F1 := frA_tr (frA_I (σ := σ) (a := 81) (j := 0) (x := 0) (by omega)) f1
  have vr : vRow τ (rSet (rSet ρ (2 + m) 0) (6 + m) 0) := vRow_s hv (vRow_s hv hr (by omega)) (by omega)
  refine ⟨uI (uI σ1 85 (2 + m) 0) 85 (6 + m) 0, frA_tr F1 (frA_tr (frA_I (by omega)) (frA_I (by omega))), mIn_row M1 (frR_tr (frR_I (by omega)) (frR_I (by omega))) (mR_w (x := 0) (mR_w (x := 0) hρ1)) vr, fun hD => cI_of (m := 2) (fun d hd Q hQ => ?_) rfl hD⟩
  have hd1 : 1 ≤ d := by omega
  have z : bN (Int32.ofNat m) 2 = 1 := bN_on hm (by omega)
  have e : iB (0 ≤ (Int32.ofNat m).toInt ∧ (Int32.ofNat m).toInt ≤ 1) = bN (Int32.ofNat m) 2 := iB_bN (by omega)
  have bnd : ρ (2 + m) < 1000 := by have := onP_lt hv (vR_on hr hm); omega
  have c : (Int32.ofNat (ρ (2 + m)) = 0) ↔ False := iff_false_intro (fun q => hs ((of_eq0 (by omega)).mp q))
  refine b189_0 ?_
  simp only [↓br_pos, ↓br_neg, ↓rF_I, ↓rF_L, ↓rF_R, ↓rF_N, rO_m, rB_m, ↓rI_m, wI_m, ↓rB2_m, ↓rB3_m, wB2_m, wB3_m, ↓rL_m, wL_m, ↓rQ_m, wQ_m, ↓lI_m, pI_m, pL_m, pR_m, sI_m, sBy_m, sBo_m, sL_m, sQ_m, fst_m, true_and, and_true, tg_some, ln_some, uI_1, uI_2, uL_1, uL_2, uL_3, uQ_1, uQ_2, uQ_3, rv_i, rv_l, rv_n, rv_b0, rv_b1, RMR, ne_eq, reduceCtorEq, not_false_eq_true, Option.getD_some, if_true, if_false, and_self, false_and, and_false, Nat.add_left_cancel_iff, Nat.add_eq_left, Nat.left_eq_add, Nat.one_ne_zero, Nat.reduceAdd, Nat.reduceLT, Nat.reduceLeDiff, Nat.reduceEqDiff, true_implies, false_implies, implies_true, Option.some.injEq, forall_eq', forall_eq, reduceCtorEq, brT, brF, br_s, i_10, i_01, ib_0_2, ib_1_2, tn_0, tn_1, Int32.le_refl, eq_self, rv_bN, rv_iM, RCM 81, RLY, lit_at hw, g_129 hd1, vin_01, e, z, z10, mr hρ (by omega : 2 + m < 2471), mr hρ1 (by omega : 2 + m < 2471), ix (by omega : 6 + m < 2471) (by omega), ad_2, ad_4, ad_6, ad_8, ad_10, ad_12, ad_16, ad_24, ad_27, ad_28, ad_31, ad_35, ad_43, ad_51, ad_107, ad_131, ad_311, ml_3, ml_6, ml_7, ml_60, ml_100, ml_2471, mq_12, ar_2, ar_3, ar_4, ar_5, ar_6, of_add, of_mul, on_succ, c, k1 hd]
  exact hQ
theorem m_195z {w : mT} {σ : mS} {tp n : Nat} {t : Nat → Nat} {τ ρ : Rw} {bk : Nat → Rw} {has : Nat → Bool} {im : Nat → Rw} {a : Int32} {D : Nat} {K : Int32 → Hp → Prop} (h : mIn w σ tp t τ ρ n bk has im) (ha : ¬ (bN a 2 = 1 ∧ ρ (10 + a.toNatClampNeg) ≠ 0)) (hD : 3 ≤ D) : wpI D 195 [.ref 81, .int a] (mW w σ) K ↔ K (-1) (mW w (uI σ 81 0 0)) := by
  have M := h
  obtain ⟨hw, hτ, hρ, hv, hr, hp2, htp, htb, htl, hn, hn12, hbk, him⟩ := h
  have M0 := mIn_Z M (frZ_0 (j := 0) (x := 0) (by omega))
  obtain ⟨_, hτ0, hρ0, _, _, hp20, _, htb0, _, hn0, _, hbk0, him0⟩ := M0
  have M0 := mIn_Z M (frZ_0 (j := 0) (x := 0) (by omega))
  refine cI_of (m := 2) (fun d hd Q hQ => ?_) rfl hD
  have hd1 : 1 ≤ d := by omega
  refine b195_0 ?_
  have e : iB (0 ≤ a.toInt ∧ a.toInt ≤ 1) = bN a 2 := iB_bN (by omega)
  by_cases z : bN a 2 = 1
  · obtain ⟨m, rfl, hm⟩ := bN_ex z
    rw [on_nat (by omega)] at ha
    have y : ρ (10 + m) = 0 := Decidable.not_not.mp (fun q => ha ⟨z, q⟩)
    have c : (Int32.ofNat (ρ (10 + m)) = 0) ↔ True := iff_true_intro (by rw [y]; rfl)
    simp only [↓br_pos, ↓br_neg, ↓rF_I, ↓rF_L, ↓rF_R, ↓rF_N, rO_m, rB_m, ↓rI_m, wI_m, ↓rB2_m, ↓rB3_m, wB2_m, wB3_m, ↓rL_m, wL_m, ↓rQ_m, wQ_m, ↓lI_m, pI_m, pL_m, pR_m, sI_m, sBy_m, sBo_m, sL_m, sQ_m, fst_m, true_and, and_true, tg_some, ln_some, uI_1, uI_2, uL_1, uL_2, uL_3, uQ_1, uQ_2, uQ_3, rv_i, rv_l, rv_n, rv_b0, rv_b1, RMR, ne_eq, reduceCtorEq, not_false_eq_true, Option.getD_some, if_true, if_false, and_self, false_and, and_false, Nat.add_left_cancel_iff, Nat.add_eq_left, Nat.left_eq_add, Nat.one_ne_zero, Nat.reduceAdd, Nat.reduceLT, Nat.reduceLeDiff, Nat.reduceEqDiff, true_implies, false_implies, implies_true, Option.some.injEq, forall_eq', forall_eq, reduceCtorEq, brT, brF, br_s, i_10, i_01, ib_0_2, ib_1_2, tn_0, tn_1, Int32.le_refl, eq_self, rv_bN, rv_iM, RCM 81, RLY, lit_at hw, g_129 hd1, vin_01, e, z, z10, mr hρ (by omega : 10 + m < 2471), ad_2, ad_4, ad_6, ad_8, ad_10, ad_12, ad_16, ad_24, ad_27, ad_28, ad_31, ad_35, ad_43, ad_51, ad_107, ad_131, ad_311, ml_3, ml_6, ml_7, ml_60, ml_100, ml_2471, mq_12, ar_2, ar_3, ar_4, ar_5, ar_6, of_add, of_mul, on_succ, c]
    exact hQ
  · have z' : bN a 2 = 0 := bN_01.resolve_right z
    simp only [↓br_pos, ↓br_neg, ↓rF_I, ↓rF_L, ↓rF_R, ↓rF_N, rO_m, rB_m, ↓rI_m, wI_m, ↓rB2_m, ↓rB3_m, wB2_m, wB3_m, ↓rL_m, wL_m, ↓rQ_m, wQ_m, ↓lI_m, pI_m, pL_m, pR_m, sI_m, sBy_m, sBo_m, sL_m, sQ_m, fst_m, true_and, and_true, tg_some, ln_some, uI_1, uI_2, uL_1, uL_2, uL_3, uQ_1, uQ_2, uQ_3, rv_i, rv_l, rv_n, rv_b0, rv_b1, RMR, ne_eq, reduceCtorEq, not_false_eq_true, Option.getD_some, if_true, if_false, and_self, false_and, and_false, Nat.add_left_cancel_iff, Nat.add_eq_left, Nat.left_eq_add, Nat.one_ne_zero, Nat.reduceAdd, Nat.reduceLT, Nat.reduceLeDiff, Nat.reduceEqDiff, true_implies, false_implies, implies_true, Option.some.injEq, forall_eq', forall_eq, reduceCtorEq, brT, brF, br_s, i_10, i_01, ib_0_2, ib_1_2, tn_0, tn_1, Int32.le_refl, eq_self, rv_bN, rv_iM, RCM 81, RLY, lit_at hw, g_129 hd1, vin_01, e, z', z00]
    exact hQ
theorem m_195 {w : mT} {σ : mS} {tp n : Nat} {t : Nat → Nat} {τ ρ : Rw} {bk : Nat → Rw} {has : Nat → Bool} {im : Nat → Rw} {m : Nat} (h : mIn w σ tp t τ ρ n bk has im) (hm : m < 2) (hs : ρ (10 + m) ≠ 0) : ∃ σ', frA σ σ' ∧ mIn w σ' tp t τ (rSet (rSet ρ (10 + m) 0) (6 + m) 0) (nPh n) (bkPh n bk ρ) has im ∧ ∀ {D : Nat} {K : Int32 → Hp → Prop}, 3 ≤ D → (wpI D 195 [.ref 81, .int (Int32.ofNat m)] (mW w σ) K ↔ K (Int32.ofNat (ρ (10 + m))) (mW w σ')) := by
  have M := h
  obtain ⟨hw, hτ, hρ, hv, hr, hp2, htp, htb, htl, hn, hn12, hbk, him⟩ := h
  have M0 := mIn_Z M (frZ_0 (j := 0) (x := 0) (by omega))
  obtain ⟨_, hτ0, hρ0, _, _, hp20, _, htb0, _, hn0, _, hbk0, him0⟩ := M0
  have M0 := mIn_Z M (frZ_0 (j := 0) (x := 0) (by omega))
  obtain ⟨σ1, f1, M1, k1⟩ := k_177 M0
  have hρ1 := M1.2.2.1
  have hτ1 := M1.2.1
  have F1 := frA_tr (frA_I (σ := σ) (a := 81) (j := 0) (x := 0) (by omega)) f1
  have vr : vRow τ (rSet (rSet ρ (10 + m) 0) (6 + m) 0) := vRow_s hv (vRow_s hv hr (by omega)) (by omega)
  refine ⟨uI (uI σ1 85 (10 + m) 0) 85 (6 + m) 0, frA_tr F1 (frA_tr (frA_I (by omega)) (frA_I (by omega))), mIn_row M1 (frR_tr (frR_I (by omega)) (frR_I (by omega))) (mR_w (x := 0) (mR_w (x := 0) hρ1)) vr, fun hD => cI_of (m := 2) (fun d hd Q hQ => ?_) rfl hD⟩
  have hd1 : 1 ≤ d := by omega
  have z : bN (Int32.ofNat m) 2 = 1 := bN_on hm (by omega)
  have e : iB (0 ≤ (Int32.ofNat m).toInt ∧ (Int32.ofNat m).toInt ≤ 1) = bN (Int32.ofNat m) 2 := iB_bN (by omega)
  have bnd : ρ (10 + m) < 1000 := by have a := vR_c0 hr; have b := vR_c1 hr; have q : m = 0 ∨ m = 1 := (by omega); rcases q with rfl | rfl; exact Nat.lt_of_le_of_lt a (by omega); exact Nat.lt_of_le_of_lt b (by omega)
  have c : (Int32.ofNat (ρ (10 + m)) = 0) ↔ False := iff_false_intro (fun q => hs ((of_eq0 (by omega)).mp q))
  refine b195_0 ?_
  simp only [↓br_pos, ↓br_neg, ↓rF_I, ↓rF_L, ↓rF_R, ↓rF_N, rO_m, rB_m, ↓rI_m, wI_m, ↓rB2_m, ↓rB3_m, wB2_m, wB3_m, ↓rL_m, wL_m, ↓rQ_m, wQ_m, ↓lI_m, pI_m, pL_m, pR_m, sI_m, sBy_m, sBo_m, sL_m, sQ_m, fst_m, true_and, and_true, tg_some, ln_some, uI_1, uI_2, uL_1, uL_2, uL_3, uQ_1, uQ_2, uQ_3, rv_i, rv_l, rv_n, rv_b0, rv_b1, RMR, ne_eq, reduceCtorEq, not_false_eq_true, Option.getD_some, if_true, if_false, and_self, false_and, and_false, Nat.add_left_cancel_iff, Nat.add_eq_left, Nat.left_eq_add, Nat.one_ne_zero, Nat.reduceAdd, Nat.reduceLT, Nat.reduceLeDiff, Nat.reduceEqDiff, true_implies, false_implies, implies_true, Option.some.injEq, forall_eq', forall_eq, reduceCtorEq, brT, brF, br_s, i_10, i_01, ib_0_2, ib_1_2, tn_0, tn_1, Int32.le_refl, eq_self, rv_bN, rv_iM, RCM 81, RLY, lit_at hw, g_129 hd1, vin_01, e, z, z10, mr hρ (by omega : 10 + m < 2471), mr hρ1 (by omega : 10 + m < 2471), ix (by omega : 6 + m < 2471) (by omega), ad_2, ad_4, ad_6, ad_8, ad_10, ad_12, ad_16, ad_24, ad_27, ad_28, ad_31, ad_35, ad_43, ad_51, ad_107, ad_131, ad_311, ml_3, ml_6, ml_7, ml_60, ml_100, ml_2471, mq_12, ar_2, ar_3, ar_4, ar_5, ar_6, of_add, of_mul, on_succ, c, k1 hd]
  exact hQ
theorem m_193z {w : mT} {σ : mS} {tp n : Nat} {t : Nat → Nat} {τ ρ : Rw} {bk : Nat → Rw} {has : Nat → Bool} {im : Nat → Rw} {p l a b c : Int32} {D : Nat} {K : Int32 → Hp → Prop} (h : mIn w σ tp t τ ρ n bk has im) (ha : ¬ (cbP τ p l a b c ∧ ρ 10 < 8)) (hD : 5 ≤ D) : wpI D 193 [.ref 81, .int p, .int l, .int a, .int b, .int c] (mW w σ) K ↔ K (-1) (mW w (uI σ 81 0 0)) := by
  have M := h
  obtain ⟨hw, hτ, hρ, hv, hr, hp2, htp, htb, htl, hn, hn12, hbk, him⟩ := h
  have M0 := mIn_Z M (frZ_0 (j := 0) (x := 0) (by omega))
  obtain ⟨_, hτ0, hρ0, _, _, hp20, _, htb0, _, hn0, _, hbk0, him0⟩ := M0
  have M0 := mIn_Z M (frZ_0 (j := 0) (x := 0) (by omega))
  refine cI_of (m := 4) (fun d hd Q hQ => ?_) rfl hD
  have v8 := vR_c0 hr
  refine b193_0 ?_
  by_cases z : cbP τ p l a b c
  · have y : ρ 10 = 8 := by
      have : ¬ ρ 10 < 8 := fun q => ha ⟨z, q⟩
      omega
    have c1 : (Int32.ofNat (ρ 10) = (8 : Int32)) ↔ True := iff_true_intro (by rw [y]; rfl)
    simp only [↓br_pos, ↓br_neg, ↓rF_I, ↓rF_L, ↓rF_R, ↓rF_N, rO_m, rB_m, ↓rI_m, wI_m, ↓rB2_m, ↓rB3_m, wB2_m, wB3_m, ↓rL_m, wL_m, ↓rQ_m, wQ_m, ↓lI_m, pI_m, pL_m, pR_m, sI_m, sBy_m, sBo_m, sL_m, sQ_m, fst_m, true_and, and_true, tg_some, ln_some, uI_1, uI_2, uL_1, uL_2, uL_3, uQ_1, uQ_2, uQ_3, rv_i, rv_l, rv_n, rv_b0, rv_b1, RMR, ne_eq, reduceCtorEq, not_false_eq_true, Option.getD_some, if_true, if_false, and_self, false_and, and_false, Nat.add_left_cancel_iff, Nat.add_eq_left, Nat.left_eq_add, Nat.one_ne_zero, Nat.reduceAdd, Nat.reduceLT, Nat.reduceLeDiff, Nat.reduceEqDiff, true_implies, false_implies, implies_true, Option.some.injEq, forall_eq', forall_eq, reduceCtorEq, brT, brF, br_s, i_10, i_01, ib_0_2, ib_1_2, tn_0, tn_1, Int32.le_refl, eq_self, rv_bN, rv_iM, RCM 81, RLY, lit_at hw, g_178 hw hτ0 hv hd, iB_t z, z10, mr_10l hρ, c1]
    exact hQ
  · simp only [↓br_pos, ↓br_neg, ↓rF_I, ↓rF_L, ↓rF_R, ↓rF_N, rO_m, rB_m, ↓rI_m, wI_m, ↓rB2_m, ↓rB3_m, wB2_m, wB3_m, ↓rL_m, wL_m, ↓rQ_m, wQ_m, ↓lI_m, pI_m, pL_m, pR_m, sI_m, sBy_m, sBo_m, sL_m, sQ_m, fst_m, true_and, and_true, tg_some, ln_some, uI_1, uI_2, uL_1, uL_2, uL_3, uQ_1, uQ_2, uQ_3, rv_i, rv_l, rv_n, rv_b0, rv_b1, RMR, ne_eq, reduceCtorEq, not_false_eq_true, Option.getD_some, if_true, if_false, and_self, false_and, and_false, Nat.add_left_cancel_iff, Nat.add_eq_left, Nat.left_eq_add, Nat.one_ne_zero, Nat.reduceAdd, Nat.reduceLT, Nat.reduceLeDiff, Nat.reduceEqDiff, true_implies, false_implies, implies_true, Option.some.injEq, forall_eq', forall_eq, reduceCtorEq, brT, brF, br_s, i_10, i_01, ib_0_2, ib_1_2, tn_0, tn_1, Int32.le_refl, eq_self, rv_bN, rv_iM, RCM 81, RLY, lit_at hw, g_178 hw hτ0 hv hd, iB_f z, z00]
    exact hQ
theorem m_193 {w : mT} {σ : mS} {tp n : Nat} {t : Nat → Nat} {τ ρ : Rw} {bk : Nat → Rw} {has : Nat → Bool} {im : Nat → Rw} {p l a b c : Nat} (h : mIn w σ tp t τ ρ n bk has im) (hp : p < τ 1) (hl : l < τ 0) (ha : a < τ (28 + p)) (hb : b < τ (28 + p)) (hc : 1 ≤ c ∧ c ≤ 99) (hn8 : ρ 10 < 8) : ∃ σ', frA σ σ' ∧ mIn w σ' tp t τ (sO0 ρ p l a b c) (nPh n) (bkPh n bk ρ) has im ∧ ∀ {D : Nat} {K : Int32 → Hp → Prop}, 5 ≤ D → (wpI D 193 [.ref 81, .int (Int32.ofNat p), .int (Int32.ofNat l), .int (Int32.ofNat a), .int (Int32.ofNat b), .int (Int32.ofNat c)] (mW w σ) K ↔ K (Int32.ofNat (ρ 10 + 1)) (mW w σ')) := by
  have M := h
  obtain ⟨hw, hτ, hρ, hv, hr, hp2, htp, htb, htl, hn, hn12, hbk, him⟩ := h
  have M0 := mIn_Z M (frZ_0 (j := 0) (x := 0) (by omega))
  obtain ⟨_, hτ0, hρ0, _, _, hp20, _, htb0, _, hn0, _, hbk0, him0⟩ := M0
  have M0 := mIn_Z M (frZ_0 (j := 0) (x := 0) (by omega))
  obtain ⟨σ1, f1, M1, k1⟩ := k_177 M0
  have hρ1 := M1.2.2.1
  have hτ1 := M1.2.1
  have F1 := frA_tr (frA_I (σ := σ) (a := 81) (j := 0) (x := 0) (by omega)) f1
  have v0 := hv.1
  have v1 := hv.2.1
  have v2 := (hv.2.2.2.2.2.1 p hp).2
  have hcb : cbP τ (Int32.ofNat p) (Int32.ofNat l) (Int32.ofNat a) (Int32.ofNat b) (Int32.ofNat c) := cbP_of hv hp hl ha hb hc
  refine ⟨uI (uI (uI (uI (uI (uI (uI (uI σ1 85 (51 + 7 * ρ 10) (Int32.ofNat p)) 85 (51 + 7 * ρ 10 + 1) (Int32.ofNat l)) 85 (51 + 7 * ρ 10 + 2) (Int32.ofNat a)) 85 (51 + 7 * ρ 10 + 3) (Int32.ofNat b)) 85 (51 + 7 * ρ 10 + 4) (Int32.ofNat c)) 85 (51 + 7 * ρ 10 + 5) (Int32.ofNat a)) 85 (51 + 7 * ρ 10 + 6) (Int32.ofNat 0)) 85 10 (Int32.ofNat (ρ 10 + 1)), frA_tr F1 (frA_R (lo := 85) (hi := 86) (frR_tr (frR_tr (frR_tr (frR_tr (frR_tr (frR_tr (frR_tr (frR_I (by omega)) (frR_I (by omega))) (frR_I (by omega))) (frR_I (by omega))) (frR_I (by omega))) (frR_I (by omega))) (frR_I (by omega))) (frR_I (by omega))) (by omega)), mIn_row M1 (frR_tr (frR_tr (frR_tr (frR_tr (frR_tr (frR_tr (frR_tr (frR_I (by omega)) (frR_I (by omega))) (frR_I (by omega))) (frR_I (by omega))) (frR_I (by omega))) (frR_I (by omega))) (frR_I (by omega))) (frR_I (by omega))) (mR_e (mR_w (mR_w (mR_w (mR_w (mR_w (mR_w (mR_w (mR_w hρ1)))))))) (fun j hj => ?_)) (vRow_O0 hv hr hp hl ha hb hc hn8), fun hD => cI_of (m := 4) (fun d hd Q hQ => ?_) rfl hD⟩
  · simp only [sO0, rSet_1]
    repeat' split
    all_goals first | rfl | (exfalso; omega)
  · have c1 : (Int32.ofNat (ρ 10) = (8 : Int32)) ↔ False := iff_false_intro (fun q => by have := (of_inj (b := 8) (by omega) (by omega)).mp q; omega)
    have hd2 : 2 ≤ d := by omega
    have x : ∀ i, i < 7 → (((10 : Nat) = 51 + 7 * ρ 10 + i) ↔ False) := fun i hi => iff_false_intro (by omega)
    refine b193_0 ?_
    simp only [↓br_pos, ↓br_neg, ↓rF_I, ↓rF_L, ↓rF_R, ↓rF_N, rO_m, rB_m, ↓rI_m, wI_m, ↓rB2_m, ↓rB3_m, wB2_m, wB3_m, ↓rL_m, wL_m, ↓rQ_m, wQ_m, ↓lI_m, pI_m, pL_m, pR_m, sI_m, sBy_m, sBo_m, sL_m, sQ_m, fst_m, true_and, and_true, tg_some, ln_some, uI_1, uI_2, uL_1, uL_2, uL_3, uQ_1, uQ_2, uQ_3, rv_i, rv_l, rv_n, rv_b0, rv_b1, RMR, ne_eq, reduceCtorEq, not_false_eq_true, Option.getD_some, if_true, if_false, and_self, false_and, and_false, Nat.add_left_cancel_iff, Nat.add_eq_left, Nat.left_eq_add, Nat.one_ne_zero, Nat.reduceAdd, Nat.reduceLT, Nat.reduceLeDiff, Nat.reduceEqDiff, true_implies, false_implies, implies_true, Option.some.injEq, forall_eq', forall_eq, reduceCtorEq, brT, brF, br_s, i_10, i_01, ib_0_2, ib_1_2, tn_0, tn_1, Int32.le_refl, eq_self, rv_bN, rv_iM, RCM 81, RLY, lit_at hw, g_178 hw hτ0 hv hd, iB_t hcb, z10, mr_10l hρ, mr_10l hρ1, c1, k1 hd2, ad_2, ad_4, ad_6, ad_8, ad_10, ad_12, ad_16, ad_24, ad_27, ad_28, ad_31, ad_35, ad_43, ad_51, ad_107, ad_131, ad_311, ml_3, ml_6, ml_7, ml_60, ml_100, ml_2471, mq_12, ar_2, ar_3, ar_4, ar_5, ar_6, of_add, of_mul, on_succ, ix (by omega : 51 + 7 * ρ 10 < 2471) (by omega), ix (by omega : 51 + 7 * ρ 10 + 1 < 2471) (by omega), ix (by omega : 51 + 7 * ρ 10 + 2 < 2471) (by omega), ix (by omega : 51 + 7 * ρ 10 + 3 < 2471) (by omega), ix (by omega : 51 + 7 * ρ 10 + 4 < 2471) (by omega), ix (by omega : 51 + 7 * ρ 10 + 5 < 2471) (by omega), ix (by omega : 51 + 7 * ρ 10 + 6 < 2471) (by omega), x 0 (by omega), x 1 (by omega), x 2 (by omega), x 3 (by omega), x 4 (by omega), x 5 (by omega), x 6 (by omega), Nat.add_zero, show ((10 : Nat) = 51 + 7 * ρ 10) ↔ False from iff_false_intro (by omega)]
    exact hQ
theorem g_184 {w : mT} {σ : mS} {τ : Rw} {p c s : Int32} {D : Nat} {K : Int32 → Hp → Prop} (hw : lit w) (hτ : mTold σ τ) (hv : vTold τ) (hD : 4 ≤ D) : wpI D 184 [.ref 81, .int p, .int c, .int s] (mW w σ) K ↔ K (iB (bC τ p c = 1 ∧ bN s (τ 2) = 1)) (mW w σ) := by
  refine cI_of (m := 3) (fun d hd Q hQ => ?_) rfl hD
  have hd2 : 2 ≤ d := by omega
  refine b184_0 ?_
  rcases bC_01 (τ := τ) (p := p) (c := c) with y | y
  · rw [iB_f (fun q => absurd (y.symm.trans q.1) (by decide))] at hQ
    simp only [↓br_pos, ↓br_neg, ↓rF_I, ↓rF_L, ↓rF_R, ↓rF_N, rO_m, rB_m, ↓rI_m, wI_m, ↓rB2_m, ↓rB3_m, wB2_m, wB3_m, ↓rL_m, wL_m, ↓rQ_m, wQ_m, ↓lI_m, pI_m, pL_m, pR_m, sI_m, sBy_m, sBo_m, sL_m, sQ_m, fst_m, true_and, and_true, tg_some, ln_some, uI_1, uI_2, uL_1, uL_2, uL_3, uQ_1, uQ_2, uQ_3, rv_i, rv_l, rv_n, rv_b0, rv_b1, RMR, ne_eq, reduceCtorEq, not_false_eq_true, Option.getD_some, if_true, if_false, and_self, false_and, and_false, Nat.add_left_cancel_iff, Nat.add_eq_left, Nat.left_eq_add, Nat.one_ne_zero, Nat.reduceAdd, Nat.reduceLT, Nat.reduceLeDiff, Nat.reduceEqDiff, true_implies, false_implies, implies_true, Option.some.injEq, forall_eq', forall_eq, reduceCtorEq, brT, brF, br_s, i_10, i_01, ib_0_2, ib_1_2, tn_0, tn_1, Int32.le_refl, eq_self, rv_bN, rv_iM, RCM 81, RLY, lit_at hw, g_154 hw hτ hv hd, y, z00]
    exact hQ
  · rcases bN_01 (a := s) (n := τ 2) with x | x
    · rw [iB_f (fun q => absurd (x.symm.trans q.2) (by decide))] at hQ
      simp only [↓br_pos, ↓br_neg, ↓rF_I, ↓rF_L, ↓rF_R, ↓rF_N, rO_m, rB_m, ↓rI_m, wI_m, ↓rB2_m, ↓rB3_m, wB2_m, wB3_m, ↓rL_m, wL_m, ↓rQ_m, wQ_m, ↓lI_m, pI_m, pL_m, pR_m, sI_m, sBy_m, sBo_m, sL_m, sQ_m, fst_m, true_and, and_true, tg_some, ln_some, uI_1, uI_2, uL_1, uL_2, uL_3, uQ_1, uQ_2, uQ_3, rv_i, rv_l, rv_n, rv_b0, rv_b1, RMR, ne_eq, reduceCtorEq, not_false_eq_true, Option.getD_some, if_true, if_false, and_self, false_and, and_false, Nat.add_left_cancel_iff, Nat.add_eq_left, Nat.left_eq_add, Nat.one_ne_zero, Nat.reduceAdd, Nat.reduceLT, Nat.reduceLeDiff, Nat.reduceEqDiff, true_implies, false_implies, implies_true, Option.some.injEq, forall_eq', forall_eq, reduceCtorEq, brT, brF, br_s, i_10, i_01, ib_0_2, ib_1_2, tn_0, tn_1, Int32.le_refl, eq_self, rv_bN, rv_iM, RCM 81, RLY, lit_at hw, g_154 hw hτ hv hd, y, z10, z00, g_153 hw hτ hv hd2, x]
      exact hQ
    · rw [iB_t ⟨y, x⟩] at hQ
      simp only [↓br_pos, ↓br_neg, ↓rF_I, ↓rF_L, ↓rF_R, ↓rF_N, rO_m, rB_m, ↓rI_m, wI_m, ↓rB2_m, ↓rB3_m, wB2_m, wB3_m, ↓rL_m, wL_m, ↓rQ_m, wQ_m, ↓lI_m, pI_m, pL_m, pR_m, sI_m, sBy_m, sBo_m, sL_m, sQ_m, fst_m, true_and, and_true, tg_some, ln_some, uI_1, uI_2, uL_1, uL_2, uL_3, uQ_1, uQ_2, uQ_3, rv_i, rv_l, rv_n, rv_b0, rv_b1, RMR, ne_eq, reduceCtorEq, not_false_eq_true, Option.getD_some, if_true, if_false, and_self, false_and, and_false, Nat.add_left_cancel_iff, Nat.add_eq_left, Nat.left_eq_add, Nat.one_ne_zero, Nat.reduceAdd, Nat.reduceLT, Nat.reduceLeDiff, Nat.reduceEqDiff, true_implies, false_implies, implies_true, Option.some.injEq, forall_eq', forall_eq, reduceCtorEq, brT, brF, br_s, i_10, i_01, ib_0_2, ib_1_2, tn_0, tn_1, Int32.le_refl, eq_self, rv_bN, rv_iM, RCM 81, RLY, lit_at hw, g_154 hw hτ hv hd, y, z10, z00, g_153 hw hτ hv hd2, x]
      exact hQ
theorem m_194z {w : mT} {σ : mS} {tp n : Nat} {t : Nat → Nat} {τ ρ : Rw} {bk : Nat → Rw} {has : Nat → Bool} {im : Nat → Rw} {p c s : Int32} {D : Nat} {K : Int32 → Hp → Prop} (h : mIn w σ tp t τ ρ n bk has im) (ha : ¬ (bC τ p c = 1 ∧ bN s (τ 2) = 1 ∧ ρ 11 < 8)) (hD : 5 ≤ D) : wpI D 194 [.ref 81, .int p, .int c, .int s] (mW w σ) K ↔ K (-1) (mW w (uI σ 81 0 0)) := by
  have M := h
  obtain ⟨hw, hτ, hρ, hv, hr, hp2, htp, htb, htl, hn, hn12, hbk, him⟩ := h
  have M0 := mIn_Z M (frZ_0 (j := 0) (x := 0) (by omega))
  obtain ⟨_, hτ0, hρ0, _, _, hp20, _, htb0, _, hn0, _, hbk0, him0⟩ := M0
  have M0 := mIn_Z M (frZ_0 (j := 0) (x := 0) (by omega))
  refine cI_of (m := 4) (fun d hd Q hQ => ?_) rfl hD
  have v8 := vR_c1 hr
  refine b194_0 ?_
  by_cases z : bC τ p c = 1 ∧ bN s (τ 2) = 1
  · have y : ρ 11 = 8 := by
      have : ¬ ρ 11 < 8 := fun q => ha ⟨z.1, z.2, q⟩
      omega
    have c1 : (Int32.ofNat (ρ 11) = (8 : Int32)) ↔ True := iff_true_intro (by rw [y]; rfl)
    simp only [↓br_pos, ↓br_neg, ↓rF_I, ↓rF_L, ↓rF_R, ↓rF_N, rO_m, rB_m, ↓rI_m, wI_m, ↓rB2_m, ↓rB3_m, wB2_m, wB3_m, ↓rL_m, wL_m, ↓rQ_m, wQ_m, ↓lI_m, pI_m, pL_m, pR_m, sI_m, sBy_m, sBo_m, sL_m, sQ_m, fst_m, true_and, and_true, tg_some, ln_some, uI_1, uI_2, uL_1, uL_2, uL_3, uQ_1, uQ_2, uQ_3, rv_i, rv_l, rv_n, rv_b0, rv_b1, RMR, ne_eq, reduceCtorEq, not_false_eq_true, Option.getD_some, if_true, if_false, and_self, false_and, and_false, Nat.add_left_cancel_iff, Nat.add_eq_left, Nat.left_eq_add, Nat.one_ne_zero, Nat.reduceAdd, Nat.reduceLT, Nat.reduceLeDiff, Nat.reduceEqDiff, true_implies, false_implies, implies_true, Option.some.injEq, forall_eq', forall_eq, reduceCtorEq, brT, brF, br_s, i_10, i_01, ib_0_2, ib_1_2, tn_0, tn_1, Int32.le_refl, eq_self, rv_bN, rv_iM, RCM 81, RLY, lit_at hw, g_184 hw hτ0 hv hd, iB_t z, z10, mr_11l hρ, c1]
    exact hQ
  · simp only [↓br_pos, ↓br_neg, ↓rF_I, ↓rF_L, ↓rF_R, ↓rF_N, rO_m, rB_m, ↓rI_m, wI_m, ↓rB2_m, ↓rB3_m, wB2_m, wB3_m, ↓rL_m, wL_m, ↓rQ_m, wQ_m, ↓lI_m, pI_m, pL_m, pR_m, sI_m, sBy_m, sBo_m, sL_m, sQ_m, fst_m, true_and, and_true, tg_some, ln_some, uI_1, uI_2, uL_1, uL_2, uL_3, uQ_1, uQ_2, uQ_3, rv_i, rv_l, rv_n, rv_b0, rv_b1, RMR, ne_eq, reduceCtorEq, not_false_eq_true, Option.getD_some, if_true, if_false, and_self, false_and, and_false, Nat.add_left_cancel_iff, Nat.add_eq_left, Nat.left_eq_add, Nat.one_ne_zero, Nat.reduceAdd, Nat.reduceLT, Nat.reduceLeDiff, Nat.reduceEqDiff, true_implies, false_implies, implies_true, Option.some.injEq, forall_eq', forall_eq, reduceCtorEq, brT, brF, br_s, i_10, i_01, ib_0_2, ib_1_2, tn_0, tn_1, Int32.le_refl, eq_self, rv_bN, rv_iM, RCM 81, RLY, lit_at hw, g_184 hw hτ0 hv hd, iB_f z, z00]
    exact hQ
theorem m_194 {w : mT} {σ : mS} {tp n : Nat} {t : Nat → Nat} {τ ρ : Rw} {bk : Nat → Rw} {has : Nat → Bool} {im : Nat → Rw} {p c s : Nat} (h : mIn w σ tp t τ ρ n bk has im) (hp : p < τ 1) (hc : c < τ (28 + p)) (hs : s < τ 2) (hn8 : ρ 11 < 8) : ∃ σ', frA σ σ' ∧ mIn w σ' tp t τ (sO1 ρ p c s) (nPh n) (bkPh n bk ρ) has im ∧ ∀ {D : Nat} {K : Int32 → Hp → Prop}, 5 ≤ D → (wpI D 194 [.ref 81, .int (Int32.ofNat p), .int (Int32.ofNat c), .int (Int32.ofNat s)] (mW w σ) K ↔ K (Int32.ofNat (ρ 11 + 1)) (mW w σ')) := by
  have M := h
  obtain ⟨hw, hτ, hρ, hv, hr, hp2, htp, htb, htl, hn, hn12, hbk, him⟩ := h
  have M0 := mIn_Z M (frZ_0 (j := 0) (x := 0) (by omega))
  obtain ⟨_, hτ0, hρ0, _, _, hp20, _, htb0, _, hn0, _, hbk0, him0⟩ := M0
  have M0 := mIn_Z M (frZ_0 (j := 0) (x := 0) (by omega))
  obtain ⟨σ1, f1, M1, k1⟩ := k_177 M0
  have hρ1 := M1.2.2.1
  have hτ1 := M1.2.1
  have F1 := frA_tr (frA_I (σ := σ) (a := 81) (j := 0) (x := 0) (by omega)) f1
  have v1 := hv.2.1
  have v2 := (hv.2.2.2.2.2.1 p hp).2
  have v3 := hv.2.2.1
  have hcb : bC τ (Int32.ofNat p) (Int32.ofNat c) = 1 ∧ bN (Int32.ofNat s) (τ 2) = 1 := ⟨bC_t hp hv hc, bN_on hs (by omega)⟩
  refine ⟨uI (uI (uI (uI σ1 85 (107 + 3 * ρ 11) (Int32.ofNat p)) 85 (107 + 3 * ρ 11 + 1) (Int32.ofNat c)) 85 (107 + 3 * ρ 11 + 2) (Int32.ofNat s)) 85 11 (Int32.ofNat (ρ 11 + 1)), frA_tr F1 (frA_R (lo := 85) (hi := 86) (frR_tr (frR_tr (frR_tr (frR_I (by omega)) (frR_I (by omega))) (frR_I (by omega))) (frR_I (by omega))) (by omega)), mIn_row M1 (frR_tr (frR_tr (frR_tr (frR_I (by omega)) (frR_I (by omega))) (frR_I (by omega))) (frR_I (by omega))) (mR_e (mR_w (mR_w (mR_w (mR_w hρ1)))) (fun j hj => ?_)) (vRow_O1 hv hr hp hc hs hn8), fun hD => cI_of (m := 4) (fun d hd Q hQ => ?_) rfl hD⟩
  · simp only [sO1, rSet_1]
    repeat' split
    all_goals first | rfl | (exfalso; omega)
  · have c1 : (Int32.ofNat (ρ 11) = (8 : Int32)) ↔ False := iff_false_intro (fun q => by have := (of_inj (b := 8) (by omega) (by omega)).mp q; omega)
    have hd2 : 2 ≤ d := by omega
    have x : ∀ i, i < 3 → (((11 : Nat) = 107 + 3 * ρ 11 + i) ↔ False) := fun i hi => iff_false_intro (by omega)
    refine b194_0 ?_
    simp only [↓br_pos, ↓br_neg, ↓rF_I, ↓rF_L, ↓rF_R, ↓rF_N, rO_m, rB_m, ↓rI_m, wI_m, ↓rB2_m, ↓rB3_m, wB2_m, wB3_m, ↓rL_m, wL_m, ↓rQ_m, wQ_m, ↓lI_m, pI_m, pL_m, pR_m, sI_m, sBy_m, sBo_m, sL_m, sQ_m, fst_m, true_and, and_true, tg_some, ln_some, uI_1, uI_2, uL_1, uL_2, uL_3, uQ_1, uQ_2, uQ_3, rv_i, rv_l, rv_n, rv_b0, rv_b1, RMR, ne_eq, reduceCtorEq, not_false_eq_true, Option.getD_some, if_true, if_false, and_self, false_and, and_false, Nat.add_left_cancel_iff, Nat.add_eq_left, Nat.left_eq_add, Nat.one_ne_zero, Nat.reduceAdd, Nat.reduceLT, Nat.reduceLeDiff, Nat.reduceEqDiff, true_implies, false_implies, implies_true, Option.some.injEq, forall_eq', forall_eq, reduceCtorEq, brT, brF, br_s, i_10, i_01, ib_0_2, ib_1_2, tn_0, tn_1, Int32.le_refl, eq_self, rv_bN, rv_iM, RCM 81, RLY, lit_at hw, g_184 hw hτ0 hv hd, iB_t hcb, z10, mr_11l hρ, mr_11l hρ1, c1, k1 hd2, ad_2, ad_4, ad_6, ad_8, ad_10, ad_12, ad_16, ad_24, ad_27, ad_28, ad_31, ad_35, ad_43, ad_51, ad_107, ad_131, ad_311, ml_3, ml_6, ml_7, ml_60, ml_100, ml_2471, mq_12, ar_2, ar_3, ar_4, ar_5, ar_6, of_add, of_mul, on_succ, ix (by omega : 107 + 3 * ρ 11 < 2471) (by omega), ix (by omega : 107 + 3 * ρ 11 + 1 < 2471) (by omega), ix (by omega : 107 + 3 * ρ 11 + 2 < 2471) (by omega), x 1 (by omega), x 2 (by omega), show ((11 : Nat) = 107 + 3 * ρ 11) ↔ False from iff_false_intro (by omega)]
    exact hQ
theorem m_205z {w : mT} {σ : mS} {tp : Nat} {t : Nat → Nat} {τ ρ : Rw} {bk : Nat → Rw} {has : Nat → Bool} {im : Nat → Rw} {D : Nat} {K : Int32 → Hp → Prop} (h : mIn w σ tp t τ ρ 0 bk has im) (hD : 2 ≤ D) : wpI D 205 [.ref 81] (mW w σ) K ↔ K (-1) (mW w (uI σ 81 0 0)) := by
  have M := h
  obtain ⟨hw, hτ, hρ, hv, hr, hp2, htp, htb, htl, hn, hn12, hbk, him⟩ := h
  refine cI_of (m := 1) (fun d hd Q hQ => ?_) rfl hD
  have c : (Int32.ofNat 0 = 0) ↔ True := by decide
  refine b205_0 ?_
  simp only [↓br_pos, ↓br_neg, ↓rF_I, ↓rF_L, ↓rF_R, ↓rF_N, rO_m, rB_m, ↓rI_m, wI_m, ↓rB2_m, ↓rB3_m, wB2_m, wB3_m, ↓rL_m, wL_m, ↓rQ_m, wQ_m, ↓lI_m, pI_m, pL_m, pR_m, sI_m, sBy_m, sBo_m, sL_m, sQ_m, fst_m, true_and, and_true, tg_some, ln_some, uI_1, uI_2, uL_1, uL_2, uL_3, uQ_1, uQ_2, uQ_3, rv_i, rv_l, rv_n, rv_b0, rv_b1, RMR, ne_eq, reduceCtorEq, not_false_eq_true, Option.getD_some, if_true, if_false, and_self, false_and, and_false, Nat.add_left_cancel_iff, Nat.add_eq_left, Nat.left_eq_add, Nat.one_ne_zero, Nat.reduceAdd, Nat.reduceLT, Nat.reduceLeDiff, Nat.reduceEqDiff, true_implies, false_implies, implies_true, Option.some.injEq, forall_eq', forall_eq, reduceCtorEq, brT, brF, br_s, i_10, i_01, ib_0_2, ib_1_2, tn_0, tn_1, Int32.le_refl, eq_self, rv_bN, rv_iM, RCM 81, RLY, lit_at hw, hn, c]
  exact hQ
theorem m_205 {w : mT} {σ : mS} {tp n : Nat} {t : Nat → Nat} {τ ρ : Rw} {bk : Nat → Rw} {has : Nat → Bool} {im : Nat → Rw}  (h : mIn w σ tp t τ ρ n bk has im) (hn1 : 0 < n) : ∃ σ', frA σ σ' ∧ mIn w σ' tp t τ (bk (n - 1)) (n - 1) bk has im ∧ ∀ {D : Nat} {K : Int32 → Hp → Prop}, 2 ≤ D → (wpI D 205 [.ref 81] (mW w σ) K ↔ K (Int32.ofNat (n - 1)) (mW w σ')) := by
  have M := h
  obtain ⟨hw, hτ, hρ, hv, hr, hp2, htp, htb, htl, hn, hn12, hbk, him⟩ := h
  have M0 := mIn_Z M (frZ_0 (j := 0) (x := 0) (by omega))
  obtain ⟨_, hτ0, hρ0, _, _, hp20, _, htb0, _, hn0, _, hbk0, him0⟩ := M0
  have M0 := mIn_Z M (frZ_0 (j := 0) (x := 0) (by omega))
  have e : ∀ c, c ≠ 81 → c ≠ 85 → (cpG (uI (uI σ 81 0 0) 81 18 (Int32.ofNat (n - 1))) 86 (2471 * (n - 1)) 85 0 2471).1 c = σ.1 c := fun c h1 h2 => by
    rw [cpG_o h2, (uI_ne h1).1, (uI_ne h1).1]
  refine ⟨cpG (uI (uI σ 81 0 0) 81 18 (Int32.ofNat (n - 1))) 86 (2471 * (n - 1)) 85 0 2471, frA_tr (frA_I (by omega)) (frA_tr (frA_I (by omega)) (frA_G (by omega))), ⟨hw, mT_c hτ (e 83 (by omega) (by omega)), cpG_r (mR_c (mR_c (hbk (n - 1) (by omega)).1 (uI_ne (by omega)).1) (uI_ne (by omega)).1), hv, (hbk (n - 1) (by omega)).2, ?_, htp, fun i hi => by rw [e 82 (by omega) (by omega)]; exact htb i hi, htl, ?_, by omega, fun i hi => ⟨mR_c (hbk i (by omega)).1 (e 86 (by omega) (by omega)), (hbk i (by omega)).2⟩, fun k hk => ?_⟩, fun hD => cI_of (m := 1) (fun d hd Q hQ => ?_) rfl hD⟩
  · rw [cpG_o (by omega), uI_1, if_neg (by omega), uI_1, if_neg (by omega)]; exact hp2
  · rw [cpG_o (by omega), uI_1, if_pos ⟨rfl, rfl⟩]
  · obtain ⟨a, b⟩ := him k hk
    exact ⟨by rw [e 87 (by omega) (by omega)]; exact a, fun q => ⟨mR_c (b q).1 (e 88 (by omega) (by omega)), (b q).2⟩⟩
  · have c : (Int32.ofNat n = 0) ↔ False := iff_false_intro (fun q => by have := (of_eq0 (by omega)).mp q; omega)
    have g := fun {K : Hp → Prop} => g_149' (K := K) (σ := uI (uI σ 81 0 0) 81 18 (Int32.ofNat (n - 1))) (oa := 2471 * (n - 1)) (ob := 0) (x := Int32.ofNat (2471 * (n - 1))) (y := 0) (a86 hw) (a85 hw) rfl rfl (by omega) hd
    have e18 : (cpG (uI (uI σ 81 0 0) 81 18 (Int32.ofNat (n - 1))) 86 (2471 * (n - 1)) 85 0 2471).1 81 18 = Int32.ofNat (n - 1) := by rw [cpG_o (by omega), uI_1, if_pos ⟨rfl, rfl⟩]
    refine b205_0 ?_
    simp only [↓br_pos, ↓br_neg, ↓rF_I, ↓rF_L, ↓rF_R, ↓rF_N, rO_m, rB_m, ↓rI_m, wI_m, ↓rB2_m, ↓rB3_m, wB2_m, wB3_m, ↓rL_m, wL_m, ↓rQ_m, wQ_m, ↓lI_m, pI_m, pL_m, pR_m, sI_m, sBy_m, sBo_m, sL_m, sQ_m, fst_m, true_and, and_true, tg_some, ln_some, uI_1, uI_2, uL_1, uL_2, uL_3, uQ_1, uQ_2, uQ_3, rv_i, rv_l, rv_n, rv_b0, rv_b1, RMR, ne_eq, reduceCtorEq, not_false_eq_true, Option.getD_some, if_true, if_false, and_self, false_and, and_false, Nat.add_left_cancel_iff, Nat.add_eq_left, Nat.left_eq_add, Nat.one_ne_zero, Nat.reduceAdd, Nat.reduceLT, Nat.reduceLeDiff, Nat.reduceEqDiff, true_implies, false_implies, implies_true, Option.some.injEq, forall_eq', forall_eq, reduceCtorEq, brT, brF, br_s, i_10, i_01, ib_0_2, ib_1_2, tn_0, tn_1, Int32.le_refl, eq_self, rv_bN, rv_iM, RCM 81, RLY, lit_at hw, hn, c, on_pred hn1, ml_2471, g, e18]
    exact hQ
theorem m_206z {w : mT} {σ : mS} {tp n : Nat} {t : Nat → Nat} {τ ρ : Rw} {bk : Nat → Rw} {has : Nat → Bool} {im : Nat → Rw} {a b : Int32} {D : Nat} {K : Int32 → Hp → Prop} (h : mIn w σ tp t τ ρ n bk has im) (ha : ¬ (0 ≤ a.toInt ∧ a.toInt < 2)) (hD : 2 ≤ D) : wpI D 206 [.ref 81, .int a, .int b] (mW w σ) K ↔ K 0 (mW w (uI σ 81 0 0)) := by
  have M := h
  obtain ⟨hw, hτ, hρ, hv, hr, hp2, htp, htb, htl, hn, hn12, hbk, him⟩ := h
  have M0 := mIn_Z M (frZ_0 (j := 0) (x := 0) (by omega))
  obtain ⟨_, hτ0, hρ0, _, _, hp20, _, htb0, _, hn0, _, hbk0, him0⟩ := M0
  have M0 := mIn_Z M (frZ_0 (j := 0) (x := 0) (by omega))
  refine cI_of (m := 1) (fun d hd Q hQ => ?_) rfl hD
  refine b206_0 ?_
  simp only [↓br_pos, ↓br_neg, ↓rF_I, ↓rF_L, ↓rF_R, ↓rF_N, rO_m, rB_m, ↓rI_m, wI_m, ↓rB2_m, ↓rB3_m, wB2_m, wB3_m, ↓rL_m, wL_m, ↓rQ_m, wQ_m, ↓lI_m, pI_m, pL_m, pR_m, sI_m, sBy_m, sBo_m, sL_m, sQ_m, fst_m, true_and, and_true, tg_some, ln_some, uI_1, uI_2, uL_1, uL_2, uL_3, uQ_1, uQ_2, uQ_3, rv_i, rv_l, rv_n, rv_b0, rv_b1, RMR, ne_eq, reduceCtorEq, not_false_eq_true, Option.getD_some, if_true, if_false, and_self, false_and, and_false, Nat.add_left_cancel_iff, Nat.add_eq_left, Nat.left_eq_add, Nat.one_ne_zero, Nat.reduceAdd, Nat.reduceLT, Nat.reduceLeDiff, Nat.reduceEqDiff, true_implies, false_implies, implies_true, Option.some.injEq, forall_eq', forall_eq, reduceCtorEq, brT, brF, br_s, i_10, i_01, ib_0_2, ib_1_2, tn_0, tn_1, Int32.le_refl, eq_self, rv_bN, rv_iM, RCM 81, RLY, lit_at hw, g_129 hd, vin_01, iB_f (fun q : 0 ≤ a.toInt ∧ a.toInt ≤ 1 => ha (by omega)), z00]
  exact hQ
theorem m_206f {w : mT} {σ : mS} {tp n : Nat} {t : Nat → Nat} {τ ρ : Rw} {bk : Nat → Rw} {has : Nat → Bool} {im : Nat → Rw} {k : Nat} {b : Int32} {D : Nat} {K : Int32 → Hp → Prop} (h : mIn w σ tp t τ ρ n bk has im) (hk : k < 2) (hb : b ≠ 0) (hh : has k = false) (hD : 2 ≤ D) : wpI D 206 [.ref 81, .int (Int32.ofNat k), .int b] (mW w σ) K ↔ K 0 (mW w (uI σ 81 0 0)) := by
  have M := h
  obtain ⟨hw, hτ, hρ, hv, hr, hp2, htp, htb, htl, hn, hn12, hbk, him⟩ := h
  have M0 := mIn_Z M (frZ_0 (j := 0) (x := 0) (by omega))
  obtain ⟨_, hτ0, hρ0, _, _, hp20, _, htb0, _, hn0, _, hbk0, him0⟩ := M0
  have M0 := mIn_Z M (frZ_0 (j := 0) (x := 0) (by omega))
  refine cI_of (m := 1) (fun d hd Q hQ => ?_) rfl hD
  have ek : (uI σ 81 0 0).1 87 k = 0 := by rw [(him0 k hk).1, hh]; rfl
  have c1 : 0 ≤ (Int32.ofNat k).toInt ∧ (Int32.ofNat k).toInt ≤ 1 := by rw [on_int (by omega)]; omega
  have ek' := (him k hk).1
  rw [hh, if_neg (by decide)] at ek'
  refine b206_0 ?_
  simp only [↓br_pos, ↓br_neg, ↓rF_I, ↓rF_L, ↓rF_R, ↓rF_N, rO_m, rB_m, ↓rI_m, wI_m, ↓rB2_m, ↓rB3_m, wB2_m, wB3_m, ↓rL_m, wL_m, ↓rQ_m, wQ_m, ↓lI_m, pI_m, pL_m, pR_m, sI_m, sBy_m, sBo_m, sL_m, sQ_m, fst_m, true_and, and_true, tg_some, ln_some, uI_1, uI_2, uL_1, uL_2, uL_3, uQ_1, uQ_2, uQ_3, rv_i, rv_l, rv_n, rv_b0, rv_b1, RMR, ne_eq, reduceCtorEq, not_false_eq_true, Option.getD_some, if_true, if_false, and_self, false_and, and_false, Nat.add_left_cancel_iff, Nat.add_eq_left, Nat.left_eq_add, Nat.one_ne_zero, Nat.reduceAdd, Nat.reduceLT, Nat.reduceLeDiff, Nat.reduceEqDiff, true_implies, false_implies, implies_true, Option.some.injEq, forall_eq', forall_eq, reduceCtorEq, brT, brF, br_s, i_10, i_01, ib_0_2, ib_1_2, tn_0, tn_1, Int32.le_refl, eq_self, rv_bN, rv_iM, RCM 81, RLY, lit_at hw, g_129 hd, vin_01, iB_t c1, z10, z00, hb, ix (by omega : k < 2) (by omega), ek']
  exact hQ
theorem m_206l {w : mT} {σ : mS} {tp n : Nat} {t : Nat → Nat} {τ ρ : Rw} {bk : Nat → Rw} {has : Nat → Bool} {im : Nat → Rw} {k : Nat} (h : mIn w σ tp t τ ρ n bk has im) (hk : k < 2) : ∃ σ', frA σ σ' ∧ mIn w σ' tp t τ ρ n bk (hasS has k) (imS im k ρ) ∧ ∀ {D : Nat} {K : Int32 → Hp → Prop}, 2 ≤ D → (wpI D 206 [.ref 81, .int (Int32.ofNat k), .int 0] (mW w σ) K ↔ K 1 (mW w σ')) := by
  have M := h
  obtain ⟨hw, hτ, hρ, hv, hr, hp2, htp, htb, htl, hn, hn12, hbk, him⟩ := h
  have M0 := mIn_Z M (frZ_0 (j := 0) (x := 0) (by omega))
  obtain ⟨_, hτ0, hρ0, _, _, hp20, _, htb0, _, hn0, _, hbk0, him0⟩ := M0
  have M0 := mIn_Z M (frZ_0 (j := 0) (x := 0) (by omega))
  have e : ∀ c, c ≠ 81 → c ≠ 88 → c ≠ 87 → (uI (cpG (uI σ 81 0 0) 85 0 88 (2471 * k) 2471) 87 k 1).1 c = σ.1 c := fun c h1 h2 h3 => by
    rw [(uI_ne h3).1, cpG_o h2, (uI_ne h1).1]
  refine ⟨uI (cpG (uI σ 81 0 0) 85 0 88 (2471 * k) 2471) 87 k 1, frA_tr (frA_I (by omega)) (frA_tr (frA_G (by omega)) (frA_I (by omega))), ⟨hw, mT_c hτ (e 83 (by omega) (by omega) (by omega)), mR_c hρ (e 85 (by omega) (by omega) (by omega)), hv, hr, ?_, htp, fun i hi => by rw [e 82 (by omega) (by omega) (by omega)]; exact htb i hi, htl, ?_, hn12, fun i hi => ⟨mR_c (hbk i hi).1 (e 86 (by omega) (by omega) (by omega)), (hbk i hi).2⟩, fun q hq => ?_⟩, fun hD => cI_of (m := 1) (fun d hd Q hQ => ?_) rfl hD⟩
  · rw [uI_1, if_neg (by omega), cpG_o (by omega), uI_1, if_neg (by omega)]; exact hp2
  · rw [uI_1, if_neg (by omega), cpG_o (by omega), uI_1, if_neg (by omega)]; exact hn
  · obtain ⟨a, b⟩ := him q hq
    unfold hasS imS
    by_cases y : q = k
    · subst y
      rw [if_pos rfl, if_pos rfl, if_pos rfl, uI_1, if_pos ⟨rfl, rfl⟩]
      exact ⟨rfl, fun _ => ⟨mR_c (cpG_r hρ0) (uI_ne (by omega)).1, hr⟩⟩
    · rw [if_neg y, if_neg y, uI_1, if_neg (fun z => y z.2), cpG_o (by omega), (uI_ne (by omega)).1]
      exact ⟨a, fun r => ⟨mR_c (cpG_k (him0 q hq |>.2 r).1 (by omega)) (uI_ne (by omega)).1, (b r).2⟩⟩
  · have c1 : 0 ≤ (Int32.ofNat k).toInt ∧ (Int32.ofNat k).toInt ≤ 1 := by rw [on_int (by omega)]; omega
    have g := fun {K : Hp → Prop} => g_149' (K := K) (σ := (uI σ 81 0 0)) (oa := 0) (ob := 2471 * k) (x := 0) (y := Int32.ofNat (2471 * k)) (a85 hw) (a88 hw) rfl rfl (by omega) hd
    refine b206_0 ?_
    simp only [↓br_pos, ↓br_neg, ↓rF_I, ↓rF_L, ↓rF_R, ↓rF_N, rO_m, rB_m, ↓rI_m, wI_m, ↓rB2_m, ↓rB3_m, wB2_m, wB3_m, ↓rL_m, wL_m, ↓rQ_m, wQ_m, ↓lI_m, pI_m, pL_m, pR_m, sI_m, sBy_m, sBo_m, sL_m, sQ_m, fst_m, true_and, and_true, tg_some, ln_some, uI_1, uI_2, uL_1, uL_2, uL_3, uQ_1, uQ_2, uQ_3, rv_i, rv_l, rv_n, rv_b0, rv_b1, RMR, ne_eq, reduceCtorEq, not_false_eq_true, Option.getD_some, if_true, if_false, and_self, false_and, and_false, Nat.add_left_cancel_iff, Nat.add_eq_left, Nat.left_eq_add, Nat.one_ne_zero, Nat.reduceAdd, Nat.reduceLT, Nat.reduceLeDiff, Nat.reduceEqDiff, true_implies, false_implies, implies_true, Option.some.injEq, forall_eq', forall_eq, reduceCtorEq, brT, brF, br_s, i_10, i_01, ib_0_2, ib_1_2, tn_0, tn_1, Int32.le_refl, eq_self, rv_bN, rv_iM, RCM 81, RLY, lit_at hw, g_129 hd, vin_01, iB_t c1, z10, z00, ix (by omega : k < 2) (by omega), ml_2471, g, nb1]
    exact hQ
theorem m_206r {w : mT} {σ : mS} {tp n : Nat} {t : Nat → Nat} {τ ρ : Rw} {bk : Nat → Rw} {has : Nat → Bool} {im : Nat → Rw} {k : Nat} {b : Int32} (h : mIn w σ tp t τ ρ n bk has im) (hk : k < 2) (hb : b ≠ 0) (hh : has k = true) : ∃ σ', frA σ σ' ∧ mIn w σ' tp t τ (im k) 0 bk has im ∧ ∀ {D : Nat} {K : Int32 → Hp → Prop}, 2 ≤ D → (wpI D 206 [.ref 81, .int (Int32.ofNat k), .int b] (mW w σ) K ↔ K 1 (mW w σ')) := by
  have M := h
  obtain ⟨hw, hτ, hρ, hv, hr, hp2, htp, htb, htl, hn, hn12, hbk, him⟩ := h
  have M0 := mIn_Z M (frZ_0 (j := 0) (x := 0) (by omega))
  obtain ⟨_, hτ0, hρ0, _, _, hp20, _, htb0, _, hn0, _, hbk0, him0⟩ := M0
  have M0 := mIn_Z M (frZ_0 (j := 0) (x := 0) (by omega))
  have e : ∀ c, c ≠ 81 → c ≠ 85 → (uI (cpG (uI σ 81 0 0) 88 (2471 * k) 85 0 2471) 81 18 0).1 c = σ.1 c := fun c h1 h2 => by
    rw [(uI_ne h1).1, cpG_o h2, (uI_ne h1).1]
  obtain ⟨e87, ik⟩ := him k hk
  obtain ⟨ik, vk⟩ := ik hh
  refine ⟨uI (cpG (uI σ 81 0 0) 88 (2471 * k) 85 0 2471) 81 18 0, frA_tr (frA_I (by omega)) (frA_tr (frA_G (by omega)) (frA_I (by omega))), ⟨hw, mT_c hτ (e 83 (by omega) (by omega)), mR_c (cpG_r ((him0 k hk).2 hh).1) (uI_ne (by omega)).1, hv, vk, ?_, htp, fun i hi => by rw [e 82 (by omega) (by omega)]; exact htb i hi, htl, ?_, by omega, fun i hi => by omega, fun q hq => ?_⟩, fun hD => cI_of (m := 1) (fun d hd Q hQ => ?_) rfl hD⟩
  · rw [uI_1, if_neg (by omega), cpG_o (by omega), uI_1, if_neg (by omega)]; exact hp2
  · rw [uI_1, if_pos ⟨rfl, rfl⟩]; rfl
  · obtain ⟨a, b⟩ := him q hq
    exact ⟨by rw [e 87 (by omega) (by omega)]; exact a, fun q => ⟨mR_c (b q).1 (e 88 (by omega) (by omega)), (b q).2⟩⟩
  · have c1 : 0 ≤ (Int32.ofNat k).toInt ∧ (Int32.ofNat k).toInt ≤ 1 := by rw [on_int (by omega)]; omega
    rw [hh, if_pos rfl] at e87
    have g := fun {K : Hp → Prop} => g_149' (K := K) (σ := (uI σ 81 0 0)) (oa := 2471 * k) (ob := 0) (x := Int32.ofNat (2471 * k)) (y := 0) (a88 hw) (a85 hw) rfl rfl (by omega) hd
    refine b206_0 ?_
    simp only [↓br_pos, ↓br_neg, ↓rF_I, ↓rF_L, ↓rF_R, ↓rF_N, rO_m, rB_m, ↓rI_m, wI_m, ↓rB2_m, ↓rB3_m, wB2_m, wB3_m, ↓rL_m, wL_m, ↓rQ_m, wQ_m, ↓lI_m, pI_m, pL_m, pR_m, sI_m, sBy_m, sBo_m, sL_m, sQ_m, fst_m, true_and, and_true, tg_some, ln_some, uI_1, uI_2, uL_1, uL_2, uL_3, uQ_1, uQ_2, uQ_3, rv_i, rv_l, rv_n, rv_b0, rv_b1, RMR, ne_eq, reduceCtorEq, not_false_eq_true, Option.getD_some, if_true, if_false, and_self, false_and, and_false, Nat.add_left_cancel_iff, Nat.add_eq_left, Nat.left_eq_add, Nat.one_ne_zero, Nat.reduceAdd, Nat.reduceLT, Nat.reduceLeDiff, Nat.reduceEqDiff, true_implies, false_implies, implies_true, Option.some.injEq, forall_eq', forall_eq, reduceCtorEq, brT, brF, br_s, i_10, i_01, ib_0_2, ib_1_2, tn_0, tn_1, Int32.le_refl, eq_self, rv_bN, rv_iM, RCM 81, RLY, lit_at hw, g_129 hd, vin_01, iB_t c1, z10, z00, hb, ix (by omega : k < 2) (by omega), e87, ml_2471, g]
    exact hQ
