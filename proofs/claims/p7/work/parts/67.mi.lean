/-! the model: the stacker's step, minutes, ends -/
theorem tn54 : (54 : Int32).toNatClampNeg = 54 := by decide
theorem inB_2471_54 : inB (54 : Int32) 2471 = true := by decide
theorem tn55 : (55 : Int32).toNatClampNeg = 55 := by decide
theorem inB_2471_55 : inB (55 : Int32) 2471 = true := by decide
theorem tn56 : (56 : Int32).toNatClampNeg = 56 := by decide
theorem inB_2471_56 : inB (56 : Int32) 2471 = true := by decide
theorem tn57 : (57 : Int32).toNatClampNeg = 57 := by decide
theorem inB_2471_57 : inB (57 : Int32) 2471 = true := by decide
theorem t150 {w : mT} {σ : mS} {τ ρ : Rw} {p l g k t : Nat} {a4 a5 : Int32} (hw : lit w) (hτ : mTold σ τ) (hρ : mRow σ 85 0 ρ) (hv : vTold τ) (hp : p < 3) (hl : l < 12) (hg : g < 12) (hk : k < 60) (h57 : ρ 57 = k + 1) (hlo : ρ (lo p k) = l) (ht : t ≤ ρ (12 + l)) (h54 : ρ 54 < 12) (hn : 0 < ρ 10) (hn8 : ρ 10 ≤ 8) (hs : ρ 3 < 1000) (ho : onAtD ρ 0 p = true) (hc : cellAt ρ 0 = g) : ∃ σ', frR 85 86 σ σ' ∧ mRow σ' 85 0 (sAft τ (sPour ρ p k g t) p g) ∧ ∀ {Q : Option (Option Value) → Hp → Prop} {d : Nat}, 3 ≤ d → Q (some (some (.int 0))) (mW w σ') → Wp 201 150 [.ref 81, .int (Int32.ofNat p), .int (Int32.ofNat l), .int (Int32.ofNat g), .int a4, .int a5, .int (Int32.ofNat t), jk] [] (mW w σ) Q d := by
  have hS : ∀ j, (j < 12 ∨ 24 ≤ j ∧ j < 311) → sPour ρ p k g t j = ρ j := fun j hj => by
    rw [sPour_1, hlo, if_neg (by omega), if_neg (by unfold li; omega)]
  have t1 : mRow (uI (uI σ 85 (li p k g) (Int32.ofNat (ρ (li p k g) + t))) 85 (12 + l) (Int32.ofNat (ρ (12 + l) - t))) 85 0 (sPour ρ p k g t) := mR_e (mR_w (mR_w hρ)) (fun j _ => by rw [sPour_1, hlo, rSet_1, rSet_1])
  have T1 : mTold (uI (uI σ 85 (li p k g) (Int32.ofNat (ρ (li p k g) + t))) 85 (12 + l) (Int32.ofNat (ρ (12 + l) - t))) τ := mT_c hτ (by rw [uI_o (by omega), uI_o (by omega)])
  have fr1 : frR 85 86 σ (uI (uI σ 85 (li p k g) (Int32.ofNat (ρ (li p k g) + t))) 85 (12 + l) (Int32.ofNat (ρ (12 + l) - t))) := frR_tr (frR_I (by omega)) (frR_I (by omega))
  have lb : li p k g < 2471 := by unfold li; omega
  have x1 : ((12 + l : Nat) = li p k g) ↔ False := iff_false_intro (by unfold li; omega)
  have x2 : ((54 : Nat) = 12 + l) ↔ False := iff_false_intro (by omega)
  have x3 : ((54 : Nat) = li p k g) ↔ False := iff_false_intro (by unfold li; omega)
  have e57 : Int32.ofNat (k + 1) - 1 = Int32.ofNat k := on_pred (by omega)
  have m57 := mr_57l hρ
  rw [h57] at m57
  have eA : sAft τ (sPour ρ p k g t) p g = if g = ρ 54 then sE0 (sPour ρ p k g t) else sMv τ (rSet (sPour ρ p k g t) 56 (nx g (ρ 54))) 0 p (nx g (ρ 54)) := by
    unfold sAft
    rw [hS 54 (by omega)]
  rw [eA]
  by_cases z : g = ρ 54
  · rw [if_pos z]
    obtain ⟨σ2, f2, t2, e2⟩ := o_196_0 hw t1 (by rw [hS 10 (by omega)]; exact hn) (by rw [hS 10 (by omega)]; exact hn8)
    refine ⟨σ2, frR_tr fr1 f2, t2, fun hd hQ => ?_⟩
    rename_i Q d
    have hd1 : 1 ≤ d := by omega
    have c1 : (Int32.ofNat g = Int32.ofNat (ρ 54)) ↔ True := iff_true_intro (by rw [z])
    refine b201_150 ?_
    simp only [↓br_pos, ↓br_neg, ↓rF_I, ↓rF_L, ↓rF_R, ↓rF_N, rO_m, rB_m, ↓rI_m, wI_m, ↓rB2_m, ↓rB3_m, wB2_m, wB3_m, ↓rL_m, wL_m, ↓rQ_m, wQ_m, ↓lI_m, pI_m, pL_m, pR_m, sI_m, sBy_m, sBo_m, sL_m, sQ_m, fst_m, true_and, and_true, tg_some, ln_some, uI_1, uI_2, uL_1, uL_2, uL_3, uQ_1, uQ_2, uQ_3, rv_i, rv_l, rv_n, rv_b0, rv_b1, RMR, ne_eq, reduceCtorEq, not_false_eq_true, Option.getD_some, if_true, if_false, and_self, false_and, and_false, Nat.add_left_cancel_iff, Nat.add_eq_left, Nat.left_eq_add, Nat.one_ne_zero, Nat.reduceAdd, Nat.reduceLT, Nat.reduceLeDiff, Nat.reduceEqDiff, true_implies, false_implies, implies_true, Option.some.injEq, forall_eq', forall_eq, reduceCtorEq, brT, brF, br_s, i_10, i_01, ib_0_2, ib_1_2, tn_0, tn_1, Int32.le_refl, eq_self, rv_bN, rv_iM, RCM 81, RLY, lit_at hw, ad_2, ad_4, ad_6, ad_8, ad_10, ad_12, ad_16, ad_24, ad_27, ad_28, ad_31, ad_35, ad_43, ad_51, ad_107, ad_131, ad_311, ml_3, ml_6, ml_7, ml_60, ml_100, ml_2471, mq_12, ar_2, ar_3, ar_4, ar_5, ar_6, of_add, of_mul, on_succ, m57, e57, g_156 hd1, mr hρ lb, mr hρ (by omega : 12 + l < 2471), x1, of_sub ht, x2, x3, mr_54l hρ, c1, e2 hd1]
    exact hQ
  · rw [if_neg z]
    have c1 : (Int32.ofNat g = Int32.ofNat (ρ 54)) ↔ False := iff_false_intro (fun q => z ((of_inj (by omega) (by omega)).mp q))
    have nl : nx g (ρ 54) < 12 := nx_lt hg h54
    have t2 := mR_w (j := 56) (x := nx g (ρ 54)) t1
    have T2 : mTold (uI (uI (uI σ 85 (li p k g) (Int32.ofNat (ρ (li p k g) + t))) 85 (12 + l) (Int32.ofNat (ρ (12 + l) - t))) 85 56 (Int32.ofNat (nx g (ρ 54)))) τ := mT_c T1 (uI_o (by omega))
    have e2 : rSet (sPour ρ p k g t) 56 (nx g (ρ 54)) 2 = ρ 2 := by rw [rS_ne (by omega)]; exact hS 2 (by omega)
    have e3 : rSet (sPour ρ p k g t) 56 (nx g (ρ 54)) 3 = ρ 3 := by rw [rS_ne (by omega)]; exact hS 3 (by omega)
    have ho' : onAtD (rSet (sPour ρ p k g t) 56 (nx g (ρ 54))) 0 p = true := by
      have : onAtD (rSet (sPour ρ p k g t) 56 (nx g (ρ 54))) 0 p = decide (rSet (sPour ρ p k g t) 56 (nx g (ρ 54)) 2 ≠ 0 ∧ (rSet (sPour ρ p k g t) 56 (nx g (ρ 54)) 2 - 1) / 100 = p) := rfl
      rw [this, e2]; exact ho
    have hc' : cellAt (rSet (sPour ρ p k g t) 56 (nx g (ρ 54))) 0 = g := by
      have : cellAt (rSet (sPour ρ p k g t) 56 (nx g (ρ 54))) 0 = (rSet (sPour ρ p k g t) 56 (nx g (ρ 54)) 2 - 1) % 100 := rfl
      rw [this, e2]; exact hc
    have dn : dist (cellAt (rSet (sPour ρ p k g t) 56 (nx g (ρ 54))) 0) (nx g (ρ 54)) = 1 := by rw [hc']; unfold nx dist; split <;> omega
    have nx2 : ∃ σ', frR 85 86 (uI (uI (uI σ 85 (li p k g) (Int32.ofNat (ρ (li p k g) + t))) 85 (12 + l) (Int32.ofNat (ρ (12 + l) - t))) 85 56 (Int32.ofNat (nx g (ρ 54)))) σ' ∧ mRow σ' 85 0 (sMv τ (rSet (sPour ρ p k g t) 56 (nx g (ρ 54))) 0 p (nx g (ρ 54))) ∧ ∀ {Q : Option (Option Value) → Hp → Prop} {d : Nat}, 3 ≤ d → Q (some (some (.int 0))) (mW w σ') → wpI d 172 [.ref 81, .int (0 : Int32), .int (Int32.ofNat p), .int (Int32.ofNat (nx g (ρ 54)))] (mW w (uI (uI (uI σ 85 (li p k g) (Int32.ofNat (ρ (li p k g) + t))) 85 (12 + l) (Int32.ofNat (ρ (12 + l) - t))) 85 56 (Int32.ofNat (nx g (ρ 54))))) (fun x16 h15 => br (x16 = 0) (Q (some (some (.int (0 : Int32)))) h15) (hOb h15 81 8 ∧ (wpV d 198 [.ref 81, .int (0 : Int32), .int (Int32.ofNat p), .int (Int32.ofNat (nx g (ρ 54)))] h15 (fun h17 => Q (some (some (.int (0 : Int32)))) h17)))) := by
      unfold sMv
      by_cases hf : frP τ (rSet (sPour ρ p k g t) 56 (nx g (ρ 54))) 0 p (nx g (ρ 54))
      · rw [if_pos hf]
        obtain ⟨σ2, f2, r2, q2⟩ := o_198 (x := 0) (m := 0) (p := p) (c := nx g (ρ 54)) hw t2 rfl (by omega) ho' dn
        refine ⟨σ2, f2, r2, fun hd hQ => ?_⟩
        rename_i Q d
        have hd2 : 2 ≤ d := by omega
        refine (g_172 (m := 0) (p := p) (c := nx g (ρ 54)) hw T2 t2 hv (by omega) (by show rSet (sPour ρ p k g t) 56 (nx g (ρ 54)) 3 < 1000; rw [e3]; exact hs) (by omega) (by omega) hd2).mpr ?_
        simp only [↓br_pos, ↓br_neg, ↓rF_I, ↓rF_L, ↓rF_R, ↓rF_N, rO_m, rB_m, ↓rI_m, wI_m, ↓rB2_m, ↓rB3_m, wB2_m, wB3_m, ↓rL_m, wL_m, ↓rQ_m, wQ_m, ↓lI_m, pI_m, pL_m, pR_m, sI_m, sBy_m, sBo_m, sL_m, sQ_m, fst_m, true_and, and_true, tg_some, ln_some, uI_1, uI_2, uL_1, uL_2, uL_3, uQ_1, uQ_2, uQ_3, rv_i, rv_l, rv_n, rv_b0, rv_b1, RMR, ne_eq, reduceCtorEq, not_false_eq_true, Option.getD_some, if_true, if_false, and_self, false_and, and_false, Nat.add_left_cancel_iff, Nat.add_eq_left, Nat.left_eq_add, Nat.one_ne_zero, Nat.reduceAdd, Nat.reduceLT, Nat.reduceLeDiff, Nat.reduceEqDiff, true_implies, false_implies, implies_true, Option.some.injEq, forall_eq', forall_eq, reduceCtorEq, brT, brF, br_s, i_10, i_01, ib_0_2, ib_1_2, tn_0, tn_1, Int32.le_refl, eq_self, rv_bN, rv_iM, RCM 81, RLY, lit_at hw, iB_t hf, z10, q2 hd2]
        exact hQ
      · rw [if_neg hf]
        refine ⟨_, frR_rf, t2, fun hd hQ => ?_⟩
        rename_i Q d
        have hd2 : 2 ≤ d := by omega
        refine (g_172 (m := 0) (p := p) (c := nx g (ρ 54)) hw T2 t2 hv (by omega) (by show rSet (sPour ρ p k g t) 56 (nx g (ρ 54)) 3 < 1000; rw [e3]; exact hs) (by omega) (by omega) hd2).mpr ?_
        simp only [↓br_pos, ↓br_neg, ↓rF_I, ↓rF_L, ↓rF_R, ↓rF_N, rO_m, rB_m, ↓rI_m, wI_m, ↓rB2_m, ↓rB3_m, wB2_m, wB3_m, ↓rL_m, wL_m, ↓rQ_m, wQ_m, ↓lI_m, pI_m, pL_m, pR_m, sI_m, sBy_m, sBo_m, sL_m, sQ_m, fst_m, true_and, and_true, tg_some, ln_some, uI_1, uI_2, uL_1, uL_2, uL_3, uQ_1, uQ_2, uQ_3, rv_i, rv_l, rv_n, rv_b0, rv_b1, RMR, ne_eq, reduceCtorEq, not_false_eq_true, Option.getD_some, if_true, if_false, and_self, false_and, and_false, Nat.add_left_cancel_iff, Nat.add_eq_left, Nat.left_eq_add, Nat.one_ne_zero, Nat.reduceAdd, Nat.reduceLT, Nat.reduceLeDiff, Nat.reduceEqDiff, true_implies, false_implies, implies_true, Option.some.injEq, forall_eq', forall_eq, reduceCtorEq, brT, brF, br_s, i_10, i_01, ib_0_2, ib_1_2, tn_0, tn_1, Int32.le_refl, eq_self, rv_bN, rv_iM, RCM 81, RLY, lit_at hw, iB_f hf, z00]
        exact hQ
    obtain ⟨σ3, f3, t3, q3⟩ := nx2
    refine ⟨σ3, frR_tr fr1 (frR_tr (frR_I (by omega)) f3), t3, fun hd hQ => ?_⟩
    rename_i Q d
    have hd1 : 1 ≤ d := by omega
    have fin := q3 hd hQ
    refine b201_150 ?_
    by_cases y : g < ρ 54
    · have c2 : (Int32.ofNat (ρ 54) ≤ Int32.ofNat g) ↔ False := iff_false_intro (fun q => absurd ((on_le (by omega) (by omega)).mp q) (by omega))
      have en : nx g (ρ 54) = g + 1 := if_pos y
      rw [en] at fin
      simp only [↓br_pos, ↓br_neg, ↓rF_I, ↓rF_L, ↓rF_R, ↓rF_N, rO_m, rB_m, ↓rI_m, wI_m, ↓rB2_m, ↓rB3_m, wB2_m, wB3_m, ↓rL_m, wL_m, ↓rQ_m, wQ_m, ↓lI_m, pI_m, pL_m, pR_m, sI_m, sBy_m, sBo_m, sL_m, sQ_m, fst_m, true_and, and_true, tg_some, ln_some, uI_1, uI_2, uL_1, uL_2, uL_3, uQ_1, uQ_2, uQ_3, rv_i, rv_l, rv_n, rv_b0, rv_b1, RMR, ne_eq, reduceCtorEq, not_false_eq_true, Option.getD_some, if_true, if_false, and_self, false_and, and_false, Nat.add_left_cancel_iff, Nat.add_eq_left, Nat.left_eq_add, Nat.one_ne_zero, Nat.reduceAdd, Nat.reduceLT, Nat.reduceLeDiff, Nat.reduceEqDiff, true_implies, false_implies, implies_true, Option.some.injEq, forall_eq', forall_eq, reduceCtorEq, brT, brF, br_s, i_10, i_01, ib_0_2, ib_1_2, tn_0, tn_1, Int32.le_refl, eq_self, rv_bN, rv_iM, RCM 81, RLY, lit_at hw, ad_2, ad_4, ad_6, ad_8, ad_10, ad_12, ad_16, ad_24, ad_27, ad_28, ad_31, ad_35, ad_43, ad_51, ad_107, ad_131, ad_311, ml_3, ml_6, ml_7, ml_60, ml_100, ml_2471, mq_12, ar_2, ar_3, ar_4, ar_5, ar_6, of_add, of_mul, on_succ, m57, e57, g_156 hd1, mr hρ lb, mr hρ (by omega : 12 + l < 2471), x1, of_sub ht, x2, x3, mr_54l hρ, c1, c2, tn56, inB_2471_56]
      exact fin
    · have c2 : (Int32.ofNat (ρ 54) ≤ Int32.ofNat g) ↔ True := iff_true_intro ((on_le (by omega) (by omega)).mpr (by omega))
      have en : nx g (ρ 54) = g - 1 := if_neg y
      rw [en] at fin
      simp only [↓br_pos, ↓br_neg, ↓rF_I, ↓rF_L, ↓rF_R, ↓rF_N, rO_m, rB_m, ↓rI_m, wI_m, ↓rB2_m, ↓rB3_m, wB2_m, wB3_m, ↓rL_m, wL_m, ↓rQ_m, wQ_m, ↓lI_m, pI_m, pL_m, pR_m, sI_m, sBy_m, sBo_m, sL_m, sQ_m, fst_m, true_and, and_true, tg_some, ln_some, uI_1, uI_2, uL_1, uL_2, uL_3, uQ_1, uQ_2, uQ_3, rv_i, rv_l, rv_n, rv_b0, rv_b1, RMR, ne_eq, reduceCtorEq, not_false_eq_true, Option.getD_some, if_true, if_false, and_self, false_and, and_false, Nat.add_left_cancel_iff, Nat.add_eq_left, Nat.left_eq_add, Nat.one_ne_zero, Nat.reduceAdd, Nat.reduceLT, Nat.reduceLeDiff, Nat.reduceEqDiff, true_implies, false_implies, implies_true, Option.some.injEq, forall_eq', forall_eq, reduceCtorEq, brT, brF, br_s, i_10, i_01, ib_0_2, ib_1_2, tn_0, tn_1, Int32.le_refl, eq_self, rv_bN, rv_iM, RCM 81, RLY, lit_at hw, ad_2, ad_4, ad_6, ad_8, ad_10, ad_12, ad_16, ad_24, ad_27, ad_28, ad_31, ad_35, ad_43, ad_51, ad_107, ad_131, ad_311, ml_3, ml_6, ml_7, ml_60, ml_100, ml_2471, mq_12, ar_2, ar_3, ar_4, ar_5, ar_6, of_add, of_mul, on_succ, m57, e57, g_156 hd1, mr hρ lb, mr hρ (by omega : 12 + l < 2471), x1, of_sub ht, x2, x3, mr_54l hρ, c1, c2, on_pred (by omega : 0 < g), tn56, inB_2471_56]
      exact fin
theorem k_201 {w : mT} {σ : mS} {τ ρ : Rw} (hw : lit w) (hτ : mTold σ τ) (hρ : mRow σ 85 0 ρ) (hv : vTold τ) (hr : vRow τ ρ) : ∃ σ', frR 85 86 σ σ' ∧ mRow σ' 85 0 (mS1 τ ρ 0) ∧ ∀ {D : Nat} {K : Int32 → Hp → Prop}, 4 ≤ D → (wpI D 201 [.ref 81] (mW w σ) K ↔ K (mV1 τ ρ 0) (mW w σ')) := by
  unfold mS1 mV1
  by_cases hn : 0 < ρ 10
  · rw [if_pos (show 0 < ρ (10 + 0) from hn), if_pos (show 0 < ρ (10 + 0) from hn)]
    obtain ⟨o1, o2, o3, o4, o5, o6⟩ := vR_o0 hr 0 hn
    have o1 : ρ 51 < τ 1 := o1
    have o2 : ρ 52 < τ 0 := o2
    have o3 : ρ 54 < τ (28 + ρ 51) := o3
    have o4 : ρ 56 < τ (28 + ρ 51) := o4
    have o5 : 1 ≤ ρ 55 ∧ ρ 55 ≤ 99 := o5
    have c8 := vR_c0 hr
    have v0 := hv.1
    have v1 := hv.2.1
    have v2 := (hv.2.2.2.2.2.1 (ρ 51) o1).2
    have hs3 : ρ 3 < 1000 := onP_lt hv (vR_on hr (by omega : 1 < 2))
    have la := vR_la hr (ρ 51) (by omega)
    have lf := left_lt hr o2
    have c0 : (Int32.ofNat (ρ 10) = 0) ↔ False := iff_false_intro (fun q => by have := (of_eq0 (by omega)).mp q; omega)
    by_cases R : onAtD ρ 0 (ρ 51) = true ∧ cellAt ρ 0 = ρ 56
    · obtain ⟨kw, ks⟩ := kW_y (τ := τ) (m := 0) R.1 R.2
      rw [kw, ks, if_neg (by decide : ¬ (false = true)), if_neg (by decide : ¬ (false = true)), if_neg (by omega : ¬ ((0 : Nat) = 1))]
      show ∃ σ', frR 85 86 σ σ' ∧ mRow σ' 85 0 (sLay τ ρ (ρ 51) (ρ 56)) ∧ _
      unfold sLay
      have e3 : ((3 : Int32) = 3) ↔ True := by decide
      have m12 := mr hρ (by omega : 12 + ρ 52 < 2471)
      have m24 := mr hρ (by omega : 24 + ρ 51 < 2471)
      by_cases y : ρ (12 + ρ 52) = 0 ∨ (ρ 57 = 0 ∧ 60 ≤ ρ (24 + ρ 51))
      · rw [if_pos y]
        obtain ⟨σ2, f2, t2, e2⟩ := o_196_0 hw hρ hn c8
        refine ⟨σ2, f2, t2, fun hD => cI_of (m := 3) (fun d hd Q hQ => ?_) rfl hD⟩
        have hd1 : 1 ≤ d := by omega
        have hd2 : 2 ≤ d := by omega
        have b57 : ρ 57 ≤ 60 := by
          have o6 : ρ 57 = 0 ∨ (ρ 57 ≤ ρ (24 + ρ 51) ∧ _) := o6
          rcases o6 with q | q
          · omega
          · have := q.1; omega
        refine b201_0 ?_
        simp only [↓br_pos, ↓br_neg, ↓rF_I, ↓rF_L, ↓rF_R, ↓rF_N, rO_m, rB_m, ↓rI_m, wI_m, ↓rB2_m, ↓rB3_m, wB2_m, wB3_m, ↓rL_m, wL_m, ↓rQ_m, wQ_m, ↓lI_m, pI_m, pL_m, pR_m, sI_m, sBy_m, sBo_m, sL_m, sQ_m, fst_m, true_and, and_true, tg_some, ln_some, uI_1, uI_2, uL_1, uL_2, uL_3, uQ_1, uQ_2, uQ_3, rv_i, rv_l, rv_n, rv_b0, rv_b1, RMR, ne_eq, reduceCtorEq, not_false_eq_true, Option.getD_some, if_true, if_false, and_self, false_and, and_false, Nat.add_left_cancel_iff, Nat.add_eq_left, Nat.left_eq_add, Nat.one_ne_zero, Nat.reduceAdd, Nat.reduceLT, Nat.reduceLeDiff, Nat.reduceEqDiff, true_implies, false_implies, implies_true, Option.some.injEq, forall_eq', forall_eq, reduceCtorEq, brT, brF, br_s, i_10, i_01, ib_0_2, ib_1_2, tn_0, tn_1, Int32.le_refl, eq_self, rv_bN, rv_iM, RCM 81, RLY, lit_at hw, mr_10l hρ, c0, mr_51l hρ, mr_52l hρ, mr_56l hρ]
        refine b201_36 ?_
        by_cases z : ρ (12 + ρ 52) = 0
        · have c1 : (Int32.ofNat (ρ (12 + ρ 52)) = 0) ↔ True := iff_true_intro (by rw [z]; rfl)
          by_cases x : ρ 57 = 0
          · have c2 : (Int32.ofNat (ρ 57) = 0) ↔ True := iff_true_intro (by rw [x]; rfl)
            simp only [↓br_pos, ↓br_neg, ↓rF_I, ↓rF_L, ↓rF_R, ↓rF_N, rO_m, rB_m, ↓rI_m, wI_m, ↓rB2_m, ↓rB3_m, wB2_m, wB3_m, ↓rL_m, wL_m, ↓rQ_m, wQ_m, ↓lI_m, pI_m, pL_m, pR_m, sI_m, sBy_m, sBo_m, sL_m, sQ_m, fst_m, true_and, and_true, tg_some, ln_some, uI_1, uI_2, uL_1, uL_2, uL_3, uQ_1, uQ_2, uQ_3, rv_i, rv_l, rv_n, rv_b0, rv_b1, RMR, ne_eq, reduceCtorEq, not_false_eq_true, Option.getD_some, if_true, if_false, and_self, false_and, and_false, Nat.add_left_cancel_iff, Nat.add_eq_left, Nat.left_eq_add, Nat.one_ne_zero, Nat.reduceAdd, Nat.reduceLT, Nat.reduceLeDiff, Nat.reduceEqDiff, true_implies, false_implies, implies_true, Option.some.injEq, forall_eq', forall_eq, reduceCtorEq, brT, brF, br_s, i_10, i_01, ib_0_2, ib_1_2, tn_0, tn_1, Int32.le_refl, eq_self, rv_bN, rv_iM, RCM 81, RLY, lit_at hw, ad_2, ad_4, ad_6, ad_8, ad_10, ad_12, ad_16, ad_24, ad_27, ad_28, ad_31, ad_35, ad_43, ad_51, ad_107, ad_131, ad_311, ml_3, ml_6, ml_7, ml_60, ml_100, ml_2471, mq_12, ar_2, ar_3, ar_4, ar_5, ar_6, of_add, of_mul, on_succ, n_199r (m := 0) (x := 0) hw hρ hv hr rfl (by omega) (by omega : ρ 51 < 1000) R.1 R.2 hd2, e3, mr_57l hρ, c2, m12, c1, e2 hd1]
            exact hQ
          · have c2 : (Int32.ofNat (ρ 57) = 0) ↔ False := iff_false_intro (fun q => x ((of_eq0 (by omega)).mp q))
            simp only [↓br_pos, ↓br_neg, ↓rF_I, ↓rF_L, ↓rF_R, ↓rF_N, rO_m, rB_m, ↓rI_m, wI_m, ↓rB2_m, ↓rB3_m, wB2_m, wB3_m, ↓rL_m, wL_m, ↓rQ_m, wQ_m, ↓lI_m, pI_m, pL_m, pR_m, sI_m, sBy_m, sBo_m, sL_m, sQ_m, fst_m, true_and, and_true, tg_some, ln_some, uI_1, uI_2, uL_1, uL_2, uL_3, uQ_1, uQ_2, uQ_3, rv_i, rv_l, rv_n, rv_b0, rv_b1, RMR, ne_eq, reduceCtorEq, not_false_eq_true, Option.getD_some, if_true, if_false, and_self, false_and, and_false, Nat.add_left_cancel_iff, Nat.add_eq_left, Nat.left_eq_add, Nat.one_ne_zero, Nat.reduceAdd, Nat.reduceLT, Nat.reduceLeDiff, Nat.reduceEqDiff, true_implies, false_implies, implies_true, Option.some.injEq, forall_eq', forall_eq, reduceCtorEq, brT, brF, br_s, i_10, i_01, ib_0_2, ib_1_2, tn_0, tn_1, Int32.le_refl, eq_self, rv_bN, rv_iM, RCM 81, RLY, lit_at hw, ad_2, ad_4, ad_6, ad_8, ad_10, ad_12, ad_16, ad_24, ad_27, ad_28, ad_31, ad_35, ad_43, ad_51, ad_107, ad_131, ad_311, ml_3, ml_6, ml_7, ml_60, ml_100, ml_2471, mq_12, ar_2, ar_3, ar_4, ar_5, ar_6, of_add, of_mul, on_succ, n_199r (m := 0) (x := 0) hw hρ hv hr rfl (by omega) (by omega : ρ 51 < 1000) R.1 R.2 hd2, e3, mr_57l hρ, c2, m12, c1, e2 hd1]
            exact hQ
        · obtain ⟨x, u⟩ := y.resolve_left z
          have c1 : (Int32.ofNat (ρ (12 + ρ 52)) = 0) ↔ False := iff_false_intro (fun q => z ((of_eq0 (by omega)).mp q))
          have c2 : (Int32.ofNat (ρ 57) = 0) ↔ True := iff_true_intro (by rw [x]; rfl)
          have c3 : (Int32.ofNat (ρ (24 + ρ 51)) = (60 : Int32)) ↔ True := iff_true_intro (by rw [show ρ (24 + ρ 51) = 60 by omega]; rfl)
          simp only [↓br_pos, ↓br_neg, ↓rF_I, ↓rF_L, ↓rF_R, ↓rF_N, rO_m, rB_m, ↓rI_m, wI_m, ↓rB2_m, ↓rB3_m, wB2_m, wB3_m, ↓rL_m, wL_m, ↓rQ_m, wQ_m, ↓lI_m, pI_m, pL_m, pR_m, sI_m, sBy_m, sBo_m, sL_m, sQ_m, fst_m, true_and, and_true, tg_some, ln_some, uI_1, uI_2, uL_1, uL_2, uL_3, uQ_1, uQ_2, uQ_3, rv_i, rv_l, rv_n, rv_b0, rv_b1, RMR, ne_eq, reduceCtorEq, not_false_eq_true, Option.getD_some, if_true, if_false, and_self, false_and, and_false, Nat.add_left_cancel_iff, Nat.add_eq_left, Nat.left_eq_add, Nat.one_ne_zero, Nat.reduceAdd, Nat.reduceLT, Nat.reduceLeDiff, Nat.reduceEqDiff, true_implies, false_implies, implies_true, Option.some.injEq, forall_eq', forall_eq, reduceCtorEq, brT, brF, br_s, i_10, i_01, ib_0_2, ib_1_2, tn_0, tn_1, Int32.le_refl, eq_self, rv_bN, rv_iM, RCM 81, RLY, lit_at hw, ad_2, ad_4, ad_6, ad_8, ad_10, ad_12, ad_16, ad_24, ad_27, ad_28, ad_31, ad_35, ad_43, ad_51, ad_107, ad_131, ad_311, ml_3, ml_6, ml_7, ml_60, ml_100, ml_2471, mq_12, ar_2, ar_3, ar_4, ar_5, ar_6, of_add, of_mul, on_succ, n_199r (m := 0) (x := 0) hw hρ hv hr rfl (by omega) (by omega : ρ 51 < 1000) R.1 R.2 hd2, e3, mr_57l hρ, c2, m12, c1, z10, m24, c3, e2 hd1]
          exact hQ
      · rw [if_neg y]
        have z : ¬ ρ (12 + ρ 52) = 0 := fun q => y (Or.inl q)
        have c1 : (Int32.ofNat (ρ (12 + ρ 52)) = 0) ↔ False := iff_false_intro (fun q => z ((of_eq0 (by omega)).mp q))
        by_cases x : ρ 57 = 0
        · rw [if_pos x]
          have h60 : ρ (24 + ρ 51) < 60 := by
            apply Decidable.byContradiction
            intro q
            exact y (Or.inr ⟨x, by omega⟩)
          obtain ⟨σ1, f1, t1, e1⟩ := o_181 (l := ρ 52) hw hρ (by omega : ρ 51 < 3) h60
          have t2 : mRow (uI σ1 85 57 (Int32.ofNat (ρ (24 + ρ 51) + 1))) 85 0 (sNew ρ (ρ 51)) := mR_w t1
          have T2 : mTold (uI σ1 85 57 (Int32.ofNat (ρ (24 + ρ 51) + 1))) τ := mT_c (mT_c hτ (f1.1 83 (by omega))) (uI_o (by omega))
          have sN : ∀ j, j < 12 ∨ 27 ≤ j ∧ j < 57 ∨ j = 12 + ρ 52 → sNew ρ (ρ 51) j = ρ j := fun j hj => by
            rw [sNew_1, if_neg (by omega), if_neg (by omega), if_neg (by unfold lo; omega)]
          have n57 : sNew ρ (ρ 51) 57 = ρ (24 + ρ 51) + 1 := by rw [sNew_1, if_pos rfl]
          have nlo : sNew ρ (ρ 51) (lo (ρ 51) (ρ (24 + ρ 51))) = ρ 52 := by rw [sNew_1, if_neg (by unfold lo; omega), if_neg (by unfold lo; omega), if_pos rfl]
          have n12 := sN (12 + ρ 52) (by omega)
          obtain ⟨σ2, f2, t3, e2⟩ := t150 (p := ρ 51) (l := ρ 52) (g := ρ 56) (k := ρ (24 + ρ 51)) (t := min (ρ 55) (ρ (12 + ρ 52))) (a4 := 3) (a5 := 1) hw T2 t2 hv (by omega) (by omega) (by omega) h60 n57 nlo (by rw [n12]; omega) (by rw [sN 54 (by omega)]; omega) (by rw [sN 10 (by omega)]; exact hn) (by rw [sN 10 (by omega)]; exact c8) (by rw [sN 3 (by omega)]; exact hs3) (by
            have : onAtD (sNew ρ (ρ 51)) 0 (ρ 51) = decide (sNew ρ (ρ 51) 2 ≠ 0 ∧ (sNew ρ (ρ 51) 2 - 1) / 100 = ρ 51) := rfl
            rw [this, sN 2 (by omega)]; exact R.1) (by
            have : cellAt (sNew ρ (ρ 51)) 0 = (sNew ρ (ρ 51) 2 - 1) % 100 := rfl
            rw [this, sN 2 (by omega)]; exact R.2)
          refine ⟨σ2, frR_tr f1 (frR_tr (frR_I (by omega)) f2), t3, fun hD => cI_of (m := 3) (fun d hd Q hQ => ?_) rfl hD⟩
          have hd1 : 1 ≤ d := by omega
          have hd2 : 2 ≤ d := by omega
          have c2 : (Int32.ofNat (ρ 57) = 0) ↔ True := iff_true_intro (by rw [x]; rfl)
          have c3 : (Int32.ofNat (ρ (24 + ρ 51)) = (60 : Int32)) ↔ False := iff_false_intro (fun q => by have := (of_inj (b := 60) (by omega) (by omega)).mp q; omega)
          have q55 := (mr_55l t2).2.2
          rw [sN 55 (by omega)] at q55
          have q12 := mr t2 (by omega : 12 + ρ 52 < 2471)
          rw [n12] at q12
          have mn := min_of (a := ρ (12 + ρ 52)) (b := ρ 55) (by omega) (by omega)
          refine b201_0 ?_
          simp only [↓br_pos, ↓br_neg, ↓rF_I, ↓rF_L, ↓rF_R, ↓rF_N, rO_m, rB_m, ↓rI_m, wI_m, ↓rB2_m, ↓rB3_m, wB2_m, wB3_m, ↓rL_m, wL_m, ↓rQ_m, wQ_m, ↓lI_m, pI_m, pL_m, pR_m, sI_m, sBy_m, sBo_m, sL_m, sQ_m, fst_m, true_and, and_true, tg_some, ln_some, uI_1, uI_2, uL_1, uL_2, uL_3, uQ_1, uQ_2, uQ_3, rv_i, rv_l, rv_n, rv_b0, rv_b1, RMR, ne_eq, reduceCtorEq, not_false_eq_true, Option.getD_some, if_true, if_false, and_self, false_and, and_false, Nat.add_left_cancel_iff, Nat.add_eq_left, Nat.left_eq_add, Nat.one_ne_zero, Nat.reduceAdd, Nat.reduceLT, Nat.reduceLeDiff, Nat.reduceEqDiff, true_implies, false_implies, implies_true, Option.some.injEq, forall_eq', forall_eq, reduceCtorEq, brT, brF, br_s, i_10, i_01, ib_0_2, ib_1_2, tn_0, tn_1, Int32.le_refl, eq_self, rv_bN, rv_iM, RCM 81, RLY, lit_at hw, mr_10l hρ, c0, mr_51l hρ, mr_52l hρ, mr_56l hρ]
          refine b201_36 ?_
          simp only [↓br_pos, ↓br_neg, ↓rF_I, ↓rF_L, ↓rF_R, ↓rF_N, rO_m, rB_m, ↓rI_m, wI_m, ↓rB2_m, ↓rB3_m, wB2_m, wB3_m, ↓rL_m, wL_m, ↓rQ_m, wQ_m, ↓lI_m, pI_m, pL_m, pR_m, sI_m, sBy_m, sBo_m, sL_m, sQ_m, fst_m, true_and, and_true, tg_some, ln_some, uI_1, uI_2, uL_1, uL_2, uL_3, uQ_1, uQ_2, uQ_3, rv_i, rv_l, rv_n, rv_b0, rv_b1, RMR, ne_eq, reduceCtorEq, not_false_eq_true, Option.getD_some, if_true, if_false, and_self, false_and, and_false, Nat.add_left_cancel_iff, Nat.add_eq_left, Nat.left_eq_add, Nat.one_ne_zero, Nat.reduceAdd, Nat.reduceLT, Nat.reduceLeDiff, Nat.reduceEqDiff, true_implies, false_implies, implies_true, Option.some.injEq, forall_eq', forall_eq, reduceCtorEq, brT, brF, br_s, i_10, i_01, ib_0_2, ib_1_2, tn_0, tn_1, Int32.le_refl, eq_self, rv_bN, rv_iM, RCM 81, RLY, lit_at hw, ad_2, ad_4, ad_6, ad_8, ad_10, ad_12, ad_16, ad_24, ad_27, ad_28, ad_31, ad_35, ad_43, ad_51, ad_107, ad_131, ad_311, ml_3, ml_6, ml_7, ml_60, ml_100, ml_2471, mq_12, ar_2, ar_3, ar_4, ar_5, ar_6, of_add, of_mul, on_succ, n_199r (m := 0) (x := 0) hw hρ hv hr rfl (by omega) (by omega : ρ 51 < 1000) R.1 R.2 hd2, e3, mr_57l hρ, c2, m12, c1, z10, m24, c3, e1 hd1, tn57, inB_2471_57]
          refine b201_129 ?_
          have r55 : σ1.1 85 55 = Int32.ofNat (ρ 55) := by rw [uI_1, if_neg (by omega)] at q55; exact q55
          have r12 : σ1.1 85 (12 + ρ 52) = Int32.ofNat (ρ (12 + ρ 52)) := by have := q12.2.2; rw [uI_1, if_neg (by omega)] at this; exact this
          have x57 : ((12 + ρ 52 : Nat) = 57) ↔ False := iff_false_intro (by omega)
          simp only [↓br_pos, ↓br_neg, ↓rF_I, ↓rF_L, ↓rF_R, ↓rF_N, rO_m, rB_m, ↓rI_m, wI_m, ↓rB2_m, ↓rB3_m, wB2_m, wB3_m, ↓rL_m, wL_m, ↓rQ_m, wQ_m, ↓lI_m, pI_m, pL_m, pR_m, sI_m, sBy_m, sBo_m, sL_m, sQ_m, fst_m, true_and, and_true, tg_some, ln_some, uI_1, uI_2, uL_1, uL_2, uL_3, uQ_1, uQ_2, uQ_3, rv_i, rv_l, rv_n, rv_b0, rv_b1, RMR, ne_eq, reduceCtorEq, not_false_eq_true, Option.getD_some, if_true, if_false, and_self, false_and, and_false, Nat.add_left_cancel_iff, Nat.add_eq_left, Nat.left_eq_add, Nat.one_ne_zero, Nat.reduceAdd, Nat.reduceLT, Nat.reduceLeDiff, Nat.reduceEqDiff, true_implies, false_implies, implies_true, Option.some.injEq, forall_eq', forall_eq, reduceCtorEq, brT, brF, br_s, i_10, i_01, ib_0_2, ib_1_2, tn_0, tn_1, Int32.le_refl, eq_self, rv_bN, rv_iM, RCM 81, RLY, lit_at hw, ad_2, ad_4, ad_6, ad_8, ad_10, ad_12, ad_16, ad_24, ad_27, ad_28, ad_31, ad_35, ad_43, ad_51, ad_107, ad_131, ad_311, ml_3, ml_6, ml_7, ml_60, ml_100, ml_2471, mq_12, ar_2, ar_3, ar_4, ar_5, ar_6, of_add, of_mul, on_succ, tn55, inB_2471_55, r55, q12.1, q12.2.1, r12, x57]
          simp only [mn]
          exact e2 hd hQ
        · rw [if_neg x]
          have o6 : ρ 57 = 0 ∨ (ρ 57 ≤ ρ (24 + ρ 51) ∧ ρ (lo (ρ 51) (ρ 57 - 1)) = ρ 52) := o6
          obtain ⟨k1, k2⟩ := o6.resolve_left x
          obtain ⟨σ2, f2, t3, e2⟩ := t150 (p := ρ 51) (l := ρ 52) (g := ρ 56) (k := ρ 57 - 1) (t := min (ρ 55) (ρ (12 + ρ 52))) (a4 := 3) (a5 := 0) hw hτ hρ hv (by omega) (by omega) (by omega) (by omega) (by omega) k2 (by omega) (by omega) hn c8 hs3 R.1 R.2
          refine ⟨σ2, f2, t3, fun hD => cI_of (m := 3) (fun d hd Q hQ => ?_) rfl hD⟩
          have hd1 : 1 ≤ d := by omega
          have hd2 : 2 ≤ d := by omega
          have c2 : (Int32.ofNat (ρ 57) = 0) ↔ False := iff_false_intro (fun q => x ((of_eq0 (by omega)).mp q))
          have mn := min_of (a := ρ (12 + ρ 52)) (b := ρ 55) (by omega) (by omega)
          refine b201_0 ?_
          simp only [↓br_pos, ↓br_neg, ↓rF_I, ↓rF_L, ↓rF_R, ↓rF_N, rO_m, rB_m, ↓rI_m, wI_m, ↓rB2_m, ↓rB3_m, wB2_m, wB3_m, ↓rL_m, wL_m, ↓rQ_m, wQ_m, ↓lI_m, pI_m, pL_m, pR_m, sI_m, sBy_m, sBo_m, sL_m, sQ_m, fst_m, true_and, and_true, tg_some, ln_some, uI_1, uI_2, uL_1, uL_2, uL_3, uQ_1, uQ_2, uQ_3, rv_i, rv_l, rv_n, rv_b0, rv_b1, RMR, ne_eq, reduceCtorEq, not_false_eq_true, Option.getD_some, if_true, if_false, and_self, false_and, and_false, Nat.add_left_cancel_iff, Nat.add_eq_left, Nat.left_eq_add, Nat.one_ne_zero, Nat.reduceAdd, Nat.reduceLT, Nat.reduceLeDiff, Nat.reduceEqDiff, true_implies, false_implies, implies_true, Option.some.injEq, forall_eq', forall_eq, reduceCtorEq, brT, brF, br_s, i_10, i_01, ib_0_2, ib_1_2, tn_0, tn_1, Int32.le_refl, eq_self, rv_bN, rv_iM, RCM 81, RLY, lit_at hw, mr_10l hρ, c0, mr_51l hρ, mr_52l hρ, mr_56l hρ]
          refine b201_36 ?_
          simp only [↓br_pos, ↓br_neg, ↓rF_I, ↓rF_L, ↓rF_R, ↓rF_N, rO_m, rB_m, ↓rI_m, wI_m, ↓rB2_m, ↓rB3_m, wB2_m, wB3_m, ↓rL_m, wL_m, ↓rQ_m, wQ_m, ↓lI_m, pI_m, pL_m, pR_m, sI_m, sBy_m, sBo_m, sL_m, sQ_m, fst_m, true_and, and_true, tg_some, ln_some, uI_1, uI_2, uL_1, uL_2, uL_3, uQ_1, uQ_2, uQ_3, rv_i, rv_l, rv_n, rv_b0, rv_b1, RMR, ne_eq, reduceCtorEq, not_false_eq_true, Option.getD_some, if_true, if_false, and_self, false_and, and_false, Nat.add_left_cancel_iff, Nat.add_eq_left, Nat.left_eq_add, Nat.one_ne_zero, Nat.reduceAdd, Nat.reduceLT, Nat.reduceLeDiff, Nat.reduceEqDiff, true_implies, false_implies, implies_true, Option.some.injEq, forall_eq', forall_eq, reduceCtorEq, brT, brF, br_s, i_10, i_01, ib_0_2, ib_1_2, tn_0, tn_1, Int32.le_refl, eq_self, rv_bN, rv_iM, RCM 81, RLY, lit_at hw, ad_2, ad_4, ad_6, ad_8, ad_10, ad_12, ad_16, ad_24, ad_27, ad_28, ad_31, ad_35, ad_43, ad_51, ad_107, ad_131, ad_311, ml_3, ml_6, ml_7, ml_60, ml_100, ml_2471, mq_12, ar_2, ar_3, ar_4, ar_5, ar_6, of_add, of_mul, on_succ, n_199r (m := 0) (x := 0) hw hρ hv hr rfl (by omega) (by omega : ρ 51 < 1000) R.1 R.2 hd2, e3, mr_57l hρ, c2, m12, c1, z00]
          refine b201_129 ?_
          simp only [↓br_pos, ↓br_neg, ↓rF_I, ↓rF_L, ↓rF_R, ↓rF_N, rO_m, rB_m, ↓rI_m, wI_m, ↓rB2_m, ↓rB3_m, wB2_m, wB3_m, ↓rL_m, wL_m, ↓rQ_m, wQ_m, ↓lI_m, pI_m, pL_m, pR_m, sI_m, sBy_m, sBo_m, sL_m, sQ_m, fst_m, true_and, and_true, tg_some, ln_some, uI_1, uI_2, uL_1, uL_2, uL_3, uQ_1, uQ_2, uQ_3, rv_i, rv_l, rv_n, rv_b0, rv_b1, RMR, ne_eq, reduceCtorEq, not_false_eq_true, Option.getD_some, if_true, if_false, and_self, false_and, and_false, Nat.add_left_cancel_iff, Nat.add_eq_left, Nat.left_eq_add, Nat.one_ne_zero, Nat.reduceAdd, Nat.reduceLT, Nat.reduceLeDiff, Nat.reduceEqDiff, true_implies, false_implies, implies_true, Option.some.injEq, forall_eq', forall_eq, reduceCtorEq, brT, brF, br_s, i_10, i_01, ib_0_2, ib_1_2, tn_0, tn_1, Int32.le_refl, eq_self, rv_bN, rv_iM, RCM 81, RLY, lit_at hw, ad_2, ad_4, ad_6, ad_8, ad_10, ad_12, ad_16, ad_24, ad_27, ad_28, ad_31, ad_35, ad_43, ad_51, ad_107, ad_131, ad_311, ml_3, ml_6, ml_7, ml_60, ml_100, ml_2471, mq_12, ar_2, ar_3, ar_4, ar_5, ar_6, of_add, of_mul, on_succ, mr_55l hρ, m12]
          simp only [mn]
          exact e2 hd hQ
    · obtain ⟨kw, ks⟩ := kW_n (τ := τ) (m := 0) R
      obtain ⟨σ1, W, f1, eW, t1, e1⟩ := n_199 (x := 0) (p := ρ 51) (g := ρ 56) hw hτ hρ hv hr rfl (by omega : 0 < 2) o1 o4 R
      rw [kw, ks]
      show ∃ σ', frR 85 86 σ σ' ∧ mRow σ' 85 0 (if (if onAtD ρ 0 (ρ 51) = true then decide (¬ frP τ ρ 0 (ρ 51) (nx (cellAt ρ 0) (ρ 56))) else decide (¬ ρ (6 + 0) < 10 ∧ ¬ frP τ ρ 0 (ρ 51) (ρ 56))) = true then rSet ρ (8 + 0) (ρ (8 + 0) + 1) else if onAtD ρ 0 (ρ 51) = true then sMv τ ρ 0 (ρ 51) (nx (cellAt ρ 0) (ρ 56)) else sTr τ ρ 0 (ρ 51) (ρ 56)) ∧ ∀ {D : Nat} {K : Int32 → Hp → Prop}, 4 ≤ D → (wpI D 201 [.ref 81] (mW w σ) K ↔ K (if (if onAtD ρ 0 (ρ 51) = true then decide (¬ frP τ ρ 0 (ρ 51) (nx (cellAt ρ 0) (ρ 56))) else decide (¬ ρ (6 + 0) < 10 ∧ ¬ frP τ ρ 0 (ρ 51) (ρ 56))) = true then 1 else 0) (mW w σ'))
      rw [← eW]
      refine ⟨σ1, f1, t1, fun hD => cI_of (m := 3) (fun d hd Q hQ => ?_) rfl hD⟩
      refine b201_0 ?_
      simp only [↓br_pos, ↓br_neg, ↓rF_I, ↓rF_L, ↓rF_R, ↓rF_N, rO_m, rB_m, ↓rI_m, wI_m, ↓rB2_m, ↓rB3_m, wB2_m, wB3_m, ↓rL_m, wL_m, ↓rQ_m, wQ_m, ↓lI_m, pI_m, pL_m, pR_m, sI_m, sBy_m, sBo_m, sL_m, sQ_m, fst_m, true_and, and_true, tg_some, ln_some, uI_1, uI_2, uL_1, uL_2, uL_3, uQ_1, uQ_2, uQ_3, rv_i, rv_l, rv_n, rv_b0, rv_b1, RMR, ne_eq, reduceCtorEq, not_false_eq_true, Option.getD_some, if_true, if_false, and_self, false_and, and_false, Nat.add_left_cancel_iff, Nat.add_eq_left, Nat.left_eq_add, Nat.one_ne_zero, Nat.reduceAdd, Nat.reduceLT, Nat.reduceLeDiff, Nat.reduceEqDiff, true_implies, false_implies, implies_true, Option.some.injEq, forall_eq', forall_eq, reduceCtorEq, brT, brF, br_s, i_10, i_01, ib_0_2, ib_1_2, tn_0, tn_1, Int32.le_refl, eq_self, rv_bN, rv_iM, RCM 81, RLY, lit_at hw, mr_10l hρ, c0, mr_51l hρ, mr_52l hρ, mr_56l hρ]
      refine b201_36 ?_
      simp only [↓br_pos, ↓br_neg, ↓rF_I, ↓rF_L, ↓rF_R, ↓rF_N, rO_m, rB_m, ↓rI_m, wI_m, ↓rB2_m, ↓rB3_m, wB2_m, wB3_m, ↓rL_m, wL_m, ↓rQ_m, wQ_m, ↓lI_m, pI_m, pL_m, pR_m, sI_m, sBy_m, sBo_m, sL_m, sQ_m, fst_m, true_and, and_true, tg_some, ln_some, uI_1, uI_2, uL_1, uL_2, uL_3, uQ_1, uQ_2, uQ_3, rv_i, rv_l, rv_n, rv_b0, rv_b1, RMR, ne_eq, reduceCtorEq, not_false_eq_true, Option.getD_some, if_true, if_false, and_self, false_and, and_false, Nat.add_left_cancel_iff, Nat.add_eq_left, Nat.left_eq_add, Nat.one_ne_zero, Nat.reduceAdd, Nat.reduceLT, Nat.reduceLeDiff, Nat.reduceEqDiff, true_implies, false_implies, implies_true, Option.some.injEq, forall_eq', forall_eq, reduceCtorEq, brT, brF, br_s, i_10, i_01, ib_0_2, ib_1_2, tn_0, tn_1, Int32.le_refl, eq_self, rv_bN, rv_iM, RCM 81, RLY, lit_at hw, e1 hd, W3]
      exact hQ
  · rw [if_neg (show ¬ 0 < ρ (10 + 0) from hn), if_neg (show ¬ 0 < ρ (10 + 0) from hn)]
    refine ⟨σ, frR_rf, hρ, fun hD => cI_of (m := 3) (fun d hd Q hQ => ?_) rfl hD⟩
    have c0 : (Int32.ofNat (ρ 10) = 0) ↔ True := iff_true_intro (by rw [show ρ 10 = 0 by omega]; rfl)
    refine b201_0 ?_
    simp only [↓br_pos, ↓br_neg, ↓rF_I, ↓rF_L, ↓rF_R, ↓rF_N, rO_m, rB_m, ↓rI_m, wI_m, ↓rB2_m, ↓rB3_m, wB2_m, wB3_m, ↓rL_m, wL_m, ↓rQ_m, wQ_m, ↓lI_m, pI_m, pL_m, pR_m, sI_m, sBy_m, sBo_m, sL_m, sQ_m, fst_m, true_and, and_true, tg_some, ln_some, uI_1, uI_2, uL_1, uL_2, uL_3, uQ_1, uQ_2, uQ_3, rv_i, rv_l, rv_n, rv_b0, rv_b1, RMR, ne_eq, reduceCtorEq, not_false_eq_true, Option.getD_some, if_true, if_false, and_self, false_and, and_false, Nat.add_left_cancel_iff, Nat.add_eq_left, Nat.left_eq_add, Nat.one_ne_zero, Nat.reduceAdd, Nat.reduceLT, Nat.reduceLeDiff, Nat.reduceEqDiff, true_implies, false_implies, implies_true, Option.some.injEq, forall_eq', forall_eq, reduceCtorEq, brT, brF, br_s, i_10, i_01, ib_0_2, ib_1_2, tn_0, tn_1, Int32.le_refl, eq_self, rv_bN, rv_iM, RCM 81, RLY, lit_at hw, mr_10l hρ, c0]
    exact hQ
