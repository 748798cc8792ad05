theorem use_V {D k : Nat} {as : List Value} {hp : Hp} {P : mT → mS → Prop} {K : Hp → Prop} (h : ∃ w' σ', P w' σ' ∧ ∀ K, wpV D k as hp K ↔ K (mW w' σ')) (hK : ∀ w' σ', P w' σ' → K (mW w' σ')) : wpV D k as hp K := by
  obtain ⟨w', σ', h1, h2⟩ := h
  exact (h2 K).mpr (hK w' σ' h1)
theorem kT_len {n : Nat} : (kT n).length = 10 := rfl
theorem kS_len {n : Nat} : (kS n).length = 14 := rfl
set_option maxHeartbeats 4000000 in
theorem ex_26 {w : mT} {σ : mS} {D : Nat} (hn : w.2.2.2.length = 2) (hD : 2 ≤ D) : ∃ w' σ', (w' = mAs w (cG 2 :: (0, 0, []) :: (kT 4 ++ [(0, 23, [])])) ∧ blw 2 σ σ' ∧ σ'.1 2 1 = 0) ∧ ∀ K, wpV D 26 [.ref 2] (mW (mA w cG0) (zp σ 2)) K ↔ K (mW w' σ') := by
  refine cV_ex (m := 1) (fun d hd Q hQ => ?_) rfl hD
  have hd1 : 1 ≤ d := by omega
  refine b26_0 ?_
  simp only [↓rF_I, ↓rF_L, ↓rF_R, ↓rF_N, rO_m, rB_m, ↓rI_m, wI_m, ↓rB2_m, ↓rB3_m, wB2_m, wB3_m, ↓rL_m, wL_m, ↓rQ_m, wQ_m, ↓lI_m, pI_m, pL_m, pR_m, sI_m, sBy_m, sBo_m, sL_m, sQ_m, fst_m, true_and, and_true, tg_some, ln_some, uI_1, uI_2, uL_1, uL_2, uL_3, uQ_1, uQ_2, uQ_3, rv_i, rv_l, rv_n, rv_b0, rv_b1, RMR, ne_eq, reduceCtorEq, not_false_eq_true, Option.getD_some, if_true, if_false, and_self, false_and, and_false, Nat.add_left_cancel_iff, Nat.add_eq_left, Nat.left_eq_add, Nat.one_ne_zero, Nat.reduceAdd, Nat.reduceLT, Nat.reduceLeDiff, Nat.reduceEqDiff, ic_0, ic_1, ic_3, not_false_eq_true, ↓nw_all, nO_5, nO_6, nO_3, nO_1, nO_2, nO_0, nO_4, nO_7, nO_8, nA_0, nA_1, nA_2, nA_3, nA_4, mA_len, mA_L, mAs_len, mAs_L, RZS, RZT, RZG, RZH, RZP, RZB, RZR, RZX, RZM, sz_0, sz_1, sz_2, sz_3, sz_6, sz_8, sz_12, sz_23, sz_64, sz_96, sz_102, sz_180, sz_600, sz_2160, sz_2471, sz_4942, sz_29652, tn_0, tn_1, tn_2, tn_3, tn_6, tn_8, tn_12, tn_23, tn_64, tn_96, tn_102, tn_180, tn_600, tn_2160, tn_2471, tn_4942, tn_29652, hn, s_68, hd1, mAs_len, mAs_L, kT_len, Nat.reduceSub, List.getElem?_cons_zero, List.getElem?_cons_succ]
  simp only [mA_mA, mAs_mAs, mA_mAs, List.cons_append, List.nil_append]
  refine Eq.mpr (congrArg (Q (some none)) (sealO (c' := cG 2) hn rfl ?_)) (hQ _ _ ⟨rfl, ?_⟩)
  · simp [mE, mFs, mFv, va_rf, cG0, cG, uI_1, uI_21, uI_22, uL_1, uL_2, uL_3, uQ_1, uQ_2, uQ_3, zp_1, zp_2, zp_3, zR_1, zR_2, zR_3, if_true, if_false, false_and, true_and, and_false, and_true, and_self, zT_lt, zT_2, zT_3]
  · refine ⟨fun a ha => ?_, ?_⟩
    · have q4 : a < 4 := by omega
      refine ⟨funext fun j => ?_, funext fun j => ?_, funext fun j => ?_⟩
      all_goals
        have g0 : ¬ a = 2 := by omega
        have g1 : ¬ a = 3 := by omega
        have g2 : ¬ a = 14 := by omega
        simp only [uI_1, uI_21, uI_22, uL_1, uL_2, uL_3, uQ_1, uQ_2, uQ_3, zp_1, zp_2, zp_3, zR_1, zR_2, zR_3, if_true, if_false, false_and, true_and, and_false, and_true, and_self, zT_lt, zT_2, zT_3, q4, g0, g1, g2]
    · simp [uI_1, uI_21, uI_22, uL_1, uL_2, uL_3, uQ_1, uQ_2, uQ_3, zp_1, zp_2, zp_3, zR_1, zR_2, zR_3, if_true, if_false, false_and, true_and, and_false, and_true, and_self, zT_lt, zT_2, zT_3]
set_option maxHeartbeats 16000000 in
theorem ex_75 {w : mT} {σ : mS} {D : Nat} (hn : w.2.2.2.length = 0) (hD : 3 ≤ D) : ∃ w' σ', (w' = mAs w (cX 0 :: (0, 600, []) :: ((cG 2 :: (0, 0, []) :: (kT 4 ++ [(0, 23, [])])) ++ (kT 15 ++ (kT 25 ++ (kS 35 ++ (kS 49 ++ ([cH 63, (4, 12, []), (4, 2, []), (3, 2, [])] ++ ([cP 67, (0, 8, []), (0, 8, []), (0, 8, []), (3, 8, [])] ++ ([cB 72, (0, 6, []), (0, 6, []), (1, 64, []), (1, 64, [])] ++ [cR 77, (0, 12, []), (0, 12, []), (0, 12, [])]))))))))) ∧ frC σ') ∧ ∀ K, wpV D 75 [.ref 0] (mW (mA w cX0) (zp σ 0)) K ↔ K (mW w' σ') := by
  refine cV_ex (m := 2) (fun d hd Q hQ => ?_) rfl hD
  have hd1 : 1 ≤ d := by omega
  have hd2 : 2 ≤ d := hd
  refine b75_0 ?_
  simp only [↓rF_I, ↓rF_L, ↓rF_R, ↓rF_N, rO_m, rB_m, ↓rI_m, wI_m, ↓rB2_m, ↓rB3_m, wB2_m, wB3_m, ↓rL_m, wL_m, ↓rQ_m, wQ_m, ↓lI_m, pI_m, pL_m, pR_m, sI_m, sBy_m, sBo_m, sL_m, sQ_m, fst_m, true_and, and_true, tg_some, ln_some, uI_1, uI_2, uL_1, uL_2, uL_3, uQ_1, uQ_2, uQ_3, rv_i, rv_l, rv_n, rv_b0, rv_b1, RMR, ne_eq, reduceCtorEq, not_false_eq_true, Option.getD_some, if_true, if_false, and_self, false_and, and_false, Nat.add_left_cancel_iff, Nat.add_eq_left, Nat.left_eq_add, Nat.one_ne_zero, Nat.reduceAdd, Nat.reduceLT, Nat.reduceLeDiff, Nat.reduceEqDiff, ic_0, ic_1, ic_3, not_false_eq_true, ↓nw_all, nO_5, nO_6, nO_3, nO_1, nO_2, nO_0, nO_4, nO_7, nO_8, nA_0, nA_1, nA_2, nA_3, nA_4, mA_len, mA_L, mAs_len, mAs_L, RZS, RZT, RZG, RZH, RZP, RZB, RZR, RZX, RZM, sz_0, sz_1, sz_2, sz_3, sz_6, sz_8, sz_12, sz_23, sz_64, sz_96, sz_102, sz_180, sz_600, sz_2160, sz_2471, sz_4942, sz_29652, tn_0, tn_1, tn_2, tn_3, tn_6, tn_8, tn_12, tn_23, tn_64, tn_96, tn_102, tn_180, tn_600, tn_2160, tn_2471, tn_4942, tn_29652, hn, mAs_len, mAs_L, kT_len, kS_len, List.length_append, List.length_cons, List.length_nil, Nat.reduceSub, List.getElem?_cons_zero, List.getElem?_cons_succ, hd1, hd2]
  refine use_V (ex_26 (by simp only [mAs_len, mA_len, hn, kT_len, kS_len, List.length_append, List.length_cons, List.length_nil, Nat.reduceAdd]) (by omega)) (fun w0 σ0 h0 => ?_)
  obtain ⟨hw0, f0⟩ := h0
  subst hw0
  have e0 := fun a h => (f0.1 a h).1
  have e0L := fun a h => (f0.1 a h).2.1
  have e0R := fun a h => (f0.1 a h).2.2
  simp only [↓rF_I, ↓rF_L, ↓rF_R, ↓rF_N, rO_m, rB_m, ↓rI_m, wI_m, ↓rB2_m, ↓rB3_m, wB2_m, wB3_m, ↓rL_m, wL_m, ↓rQ_m, wQ_m, ↓lI_m, pI_m, pL_m, pR_m, sI_m, sBy_m, sBo_m, sL_m, sQ_m, fst_m, true_and, and_true, tg_some, ln_some, uI_1, uI_2, uL_1, uL_2, uL_3, uQ_1, uQ_2, uQ_3, rv_i, rv_l, rv_n, rv_b0, rv_b1, RMR, ne_eq, reduceCtorEq, not_false_eq_true, Option.getD_some, if_true, if_false, and_self, false_and, and_false, Nat.add_left_cancel_iff, Nat.add_eq_left, Nat.left_eq_add, Nat.one_ne_zero, Nat.reduceAdd, Nat.reduceLT, Nat.reduceLeDiff, Nat.reduceEqDiff, ic_0, ic_1, ic_3, not_false_eq_true, ↓nw_all, nO_5, nO_6, nO_3, nO_1, nO_2, nO_0, nO_4, nO_7, nO_8, nA_0, nA_1, nA_2, nA_3, nA_4, mA_len, mA_L, mAs_len, mAs_L, RZS, RZT, RZG, RZH, RZP, RZB, RZR, RZX, RZM, sz_0, sz_1, sz_2, sz_3, sz_6, sz_8, sz_12, sz_23, sz_64, sz_96, sz_102, sz_180, sz_600, sz_2160, sz_2471, sz_4942, sz_29652, tn_0, tn_1, tn_2, tn_3, tn_6, tn_8, tn_12, tn_23, tn_64, tn_96, tn_102, tn_180, tn_600, tn_2160, tn_2471, tn_4942, tn_29652, hn, mAs_len, mAs_L, kT_len, kS_len, List.length_append, List.length_cons, List.length_nil, Nat.reduceSub, List.getElem?_cons_zero, List.getElem?_cons_succ, hd1, hd2, s_68, s_47]
  refine use_V (ex_8 (by simp only [mAs_len, mA_len, hn, kT_len, kS_len, List.length_append, List.length_cons, List.length_nil, Nat.reduceAdd]) (by omega)) (fun w1 σ1 h1 => ?_)
  obtain ⟨hw1, f1⟩ := h1
  subst hw1
  have e1 := fun a h => (f1.1 a h).1
  have e1L := fun a h => (f1.1 a h).2.1
  have e1R := fun a h => (f1.1 a h).2.2
  simp only [↓rF_I, ↓rF_L, ↓rF_R, ↓rF_N, rO_m, rB_m, ↓rI_m, wI_m, ↓rB2_m, ↓rB3_m, wB2_m, wB3_m, ↓rL_m, wL_m, ↓rQ_m, wQ_m, ↓lI_m, pI_m, pL_m, pR_m, sI_m, sBy_m, sBo_m, sL_m, sQ_m, fst_m, true_and, and_true, tg_some, ln_some, uI_1, uI_2, uL_1, uL_2, uL_3, uQ_1, uQ_2, uQ_3, rv_i, rv_l, rv_n, rv_b0, rv_b1, RMR, ne_eq, reduceCtorEq, not_false_eq_true, Option.getD_some, if_true, if_false, and_self, false_and, and_false, Nat.add_left_cancel_iff, Nat.add_eq_left, Nat.left_eq_add, Nat.one_ne_zero, Nat.reduceAdd, Nat.reduceLT, Nat.reduceLeDiff, Nat.reduceEqDiff, ic_0, ic_1, ic_3, not_false_eq_true, ↓nw_all, nO_5, nO_6, nO_3, nO_1, nO_2, nO_0, nO_4, nO_7, nO_8, nA_0, nA_1, nA_2, nA_3, nA_4, mA_len, mA_L, mAs_len, mAs_L, RZS, RZT, RZG, RZH, RZP, RZB, RZR, RZX, RZM, sz_0, sz_1, sz_2, sz_3, sz_6, sz_8, sz_12, sz_23, sz_64, sz_96, sz_102, sz_180, sz_600, sz_2160, sz_2471, sz_4942, sz_29652, tn_0, tn_1, tn_2, tn_3, tn_6, tn_8, tn_12, tn_23, tn_64, tn_96, tn_102, tn_180, tn_600, tn_2160, tn_2471, tn_4942, tn_29652, hn, mAs_len, mAs_L, kT_len, kS_len, List.length_append, List.length_cons, List.length_nil, Nat.reduceSub, List.getElem?_cons_zero, List.getElem?_cons_succ, hd1, hd2, s_68, s_47]
  refine use_V (ex_15 (by simp only [mAs_len, mA_len, hn, kT_len, kS_len, List.length_append, List.length_cons, List.length_nil, Nat.reduceAdd]) (by omega)) (fun w2 σ2 h2 => ?_)
  obtain ⟨hw2, f2⟩ := h2
  subst hw2
  have e2 := fun a h => (f2.1 a h).1
  have e2L := fun a h => (f2.1 a h).2.1
  have e2R := fun a h => (f2.1 a h).2.2
  simp only [↓rF_I, ↓rF_L, ↓rF_R, ↓rF_N, rO_m, rB_m, ↓rI_m, wI_m, ↓rB2_m, ↓rB3_m, wB2_m, wB3_m, ↓rL_m, wL_m, ↓rQ_m, wQ_m, ↓lI_m, pI_m, pL_m, pR_m, sI_m, sBy_m, sBo_m, sL_m, sQ_m, fst_m, true_and, and_true, tg_some, ln_some, uI_1, uI_2, uL_1, uL_2, uL_3, uQ_1, uQ_2, uQ_3, rv_i, rv_l, rv_n, rv_b0, rv_b1, RMR, ne_eq, reduceCtorEq, not_false_eq_true, Option.getD_some, if_true, if_false, and_self, false_and, and_false, Nat.add_left_cancel_iff, Nat.add_eq_left, Nat.left_eq_add, Nat.one_ne_zero, Nat.reduceAdd, Nat.reduceLT, Nat.reduceLeDiff, Nat.reduceEqDiff, ic_0, ic_1, ic_3, not_false_eq_true, ↓nw_all, nO_5, nO_6, nO_3, nO_1, nO_2, nO_0, nO_4, nO_7, nO_8, nA_0, nA_1, nA_2, nA_3, nA_4, mA_len, mA_L, mAs_len, mAs_L, RZS, RZT, RZG, RZH, RZP, RZB, RZR, RZX, RZM, sz_0, sz_1, sz_2, sz_3, sz_6, sz_8, sz_12, sz_23, sz_64, sz_96, sz_102, sz_180, sz_600, sz_2160, sz_2471, sz_4942, sz_29652, tn_0, tn_1, tn_2, tn_3, tn_6, tn_8, tn_12, tn_23, tn_64, tn_96, tn_102, tn_180, tn_600, tn_2160, tn_2471, tn_4942, tn_29652, hn, mAs_len, mAs_L, kT_len, kS_len, List.length_append, List.length_cons, List.length_nil, Nat.reduceSub, List.getElem?_cons_zero, List.getElem?_cons_succ, hd1, hd2, s_68, s_47]
  refine use_V (ex_0 (by simp only [mAs_len, mA_len, hn, kT_len, kS_len, List.length_append, List.length_cons, List.length_nil, Nat.reduceAdd]) (by omega)) (fun w3 σ3 h3 => ?_)
  obtain ⟨hw3, f3⟩ := h3
  subst hw3
  have e3 := fun a h => (f3.1 a h).1
  have e3L := fun a h => (f3.1 a h).2.1
  have e3R := fun a h => (f3.1 a h).2.2
  simp only [↓rF_I, ↓rF_L, ↓rF_R, ↓rF_N, rO_m, rB_m, ↓rI_m, wI_m, ↓rB2_m, ↓rB3_m, wB2_m, wB3_m, ↓rL_m, wL_m, ↓rQ_m, wQ_m, ↓lI_m, pI_m, pL_m, pR_m, sI_m, sBy_m, sBo_m, sL_m, sQ_m, fst_m, true_and, and_true, tg_some, ln_some, uI_1, uI_2, uL_1, uL_2, uL_3, uQ_1, uQ_2, uQ_3, rv_i, rv_l, rv_n, rv_b0, rv_b1, RMR, ne_eq, reduceCtorEq, not_false_eq_true, Option.getD_some, if_true, if_false, and_self, false_and, and_false, Nat.add_left_cancel_iff, Nat.add_eq_left, Nat.left_eq_add, Nat.one_ne_zero, Nat.reduceAdd, Nat.reduceLT, Nat.reduceLeDiff, Nat.reduceEqDiff, ic_0, ic_1, ic_3, not_false_eq_true, ↓nw_all, nO_5, nO_6, nO_3, nO_1, nO_2, nO_0, nO_4, nO_7, nO_8, nA_0, nA_1, nA_2, nA_3, nA_4, mA_len, mA_L, mAs_len, mAs_L, RZS, RZT, RZG, RZH, RZP, RZB, RZR, RZX, RZM, sz_0, sz_1, sz_2, sz_3, sz_6, sz_8, sz_12, sz_23, sz_64, sz_96, sz_102, sz_180, sz_600, sz_2160, sz_2471, sz_4942, sz_29652, tn_0, tn_1, tn_2, tn_3, tn_6, tn_8, tn_12, tn_23, tn_64, tn_96, tn_102, tn_180, tn_600, tn_2160, tn_2471, tn_4942, tn_29652, hn, mAs_len, mAs_L, kT_len, kS_len, List.length_append, List.length_cons, List.length_nil, Nat.reduceSub, List.getElem?_cons_zero, List.getElem?_cons_succ, hd1, hd2, s_68, s_47]
  refine use_V (ex_42 (by simp only [mAs_len, mA_len, hn, kT_len, kS_len, List.length_append, List.length_cons, List.length_nil, Nat.reduceAdd]) (by omega)) (fun w4 σ4 h4 => ?_)
  obtain ⟨hw4, f4⟩ := h4
  subst hw4
  have e4 := fun a h => (f4.1 a h).1
  have e4L := fun a h => (f4.1 a h).2.1
  have e4R := fun a h => (f4.1 a h).2.2
  simp only [↓rF_I, ↓rF_L, ↓rF_R, ↓rF_N, rO_m, rB_m, ↓rI_m, wI_m, ↓rB2_m, ↓rB3_m, wB2_m, wB3_m, ↓rL_m, wL_m, ↓rQ_m, wQ_m, ↓lI_m, pI_m, pL_m, pR_m, sI_m, sBy_m, sBo_m, sL_m, sQ_m, fst_m, true_and, and_true, tg_some, ln_some, uI_1, uI_2, uL_1, uL_2, uL_3, uQ_1, uQ_2, uQ_3, rv_i, rv_l, rv_n, rv_b0, rv_b1, RMR, ne_eq, reduceCtorEq, not_false_eq_true, Option.getD_some, if_true, if_false, and_self, false_and, and_false, Nat.add_left_cancel_iff, Nat.add_eq_left, Nat.left_eq_add, Nat.one_ne_zero, Nat.reduceAdd, Nat.reduceLT, Nat.reduceLeDiff, Nat.reduceEqDiff, ic_0, ic_1, ic_3, not_false_eq_true, ↓nw_all, nO_5, nO_6, nO_3, nO_1, nO_2, nO_0, nO_4, nO_7, nO_8, nA_0, nA_1, nA_2, nA_3, nA_4, mA_len, mA_L, mAs_len, mAs_L, RZS, RZT, RZG, RZH, RZP, RZB, RZR, RZX, RZM, sz_0, sz_1, sz_2, sz_3, sz_6, sz_8, sz_12, sz_23, sz_64, sz_96, sz_102, sz_180, sz_600, sz_2160, sz_2471, sz_4942, sz_29652, tn_0, tn_1, tn_2, tn_3, tn_6, tn_8, tn_12, tn_23, tn_64, tn_96, tn_102, tn_180, tn_600, tn_2160, tn_2471, tn_4942, tn_29652, hn, mAs_len, mAs_L, kT_len, kS_len, List.length_append, List.length_cons, List.length_nil, Nat.reduceSub, List.getElem?_cons_zero, List.getElem?_cons_succ, hd1, hd2, s_68, s_47]
  simp only [mA_mA, mAs_mAs, mA_mAs, List.cons_append, List.nil_append, List.append_assoc]
  refine Eq.mpr (congrArg (Q (some none)) (sealO (c' := cX 0) hn rfl ?_)) (hQ _ _ ⟨rfl, ?_⟩)
  · simp [mE, mFs, mFv, va_rf, cX0, cX, uI_1, uI_21, uI_22, uL_1, uL_2, uL_3, uQ_1, uQ_2, uQ_3, zp_1, zp_2, zp_3, zR_1, zR_2, zR_3, if_true, if_false, false_and, true_and, and_false, and_true, and_self, e0, e0L, e0R, f0.2, e1, e1L, e1R, f1.2, e2, e2L, e2R, f2.2, e3, e3L, e3R, f3.2, e4, e4L, e4R, f4.2, zT_lt, zT_2, zT_3, zS_lt, zS_2, zS_3, zS, zT]
  · unfold frC
    repeat' apply And.intro
    all_goals first
      | (intro j; simp [uI_1, uI_21, uI_22, uL_1, uL_2, uL_3, uQ_1, uQ_2, uQ_3, zp_1, zp_2, zp_3, zR_1, zR_2, zR_3, if_true, if_false, false_and, true_and, and_false, and_true, and_self, e0, e0L, e0R, f0.2, e1, e1L, e1R, f1.2, e2, e2L, e2R, f2.2, e3, e3L, e3R, f3.2, e4, e4L, e4R, f4.2, zT_lt, zT_2, zT_3, zS_lt, zS_2, zS_3, zS, zT]; done)
      | (funext j; simp [uI_1, uI_21, uI_22, uL_1, uL_2, uL_3, uQ_1, uQ_2, uQ_3, zp_1, zp_2, zp_3, zR_1, zR_2, zR_3, if_true, if_false, false_and, true_and, and_false, and_true, and_self, e0, e0L, e0R, f0.2, e1, e1L, e1R, f1.2, e2, e2L, e2R, f2.2, e3, e3L, e3R, f3.2, e4, e4L, e4R, f4.2, zT_lt, zT_2, zT_3, zS_lt, zS_2, zS_3, zS, zT]; done)
      | (simp [uI_1, uI_21, uI_22, uL_1, uL_2, uL_3, uQ_1, uQ_2, uQ_3, zp_1, zp_2, zp_3, zR_1, zR_2, zR_3, if_true, if_false, false_and, true_and, and_false, and_true, and_self, e0, e0L, e0R, f0.2, e1, e1L, e1R, f1.2, e2, e2L, e2R, f2.2, e3, e3L, e3R, f3.2, e4, e4L, e4R, f4.2, zT_lt, zT_2, zT_3, zS_lt, zS_2, zS_3, zS, zT]; done)
theorem lp_150z {w : mT} {σ : mS} {d : Nat} {Q : Option (Option Value) → Hp → Prop} (g1 : mL w 81 = some (cM 81)) (g2 : mL w 83 = some (0, 102, [])) (g3 : mL w 85 = some (0, 2471, [])) (z1 : ∀ j, σ.1 85 j = 0) (z2 : ∀ j, j ≠ 3 → σ.1 83 j = 0) (hQ : Q (some none) (mW w σ)) : Wp 150 0 [.ref 81, jk] [] (mW w σ) Q d := by
  have hb : ∀ n i : Nat, i + n = 12 → Wp 150 24 [.ref 81, .int (Int32.ofNat i)] [] (mW w σ) Q d := by
    intro n
    induction n with
    | zero =>
      intro i hi
      refine b150_24 ?_
      simp only [↓rF_I, ↓rF_L, ↓rF_R, ↓rF_N, rO_m, rB_m, ↓rI_m, wI_m, ↓rB2_m, ↓rB3_m, wB2_m, wB3_m, ↓rL_m, wL_m, ↓rQ_m, wQ_m, ↓lI_m, pI_m, pL_m, pR_m, sI_m, sBy_m, sBo_m, sL_m, sQ_m, fst_m, true_and, and_true, tg_some, ln_some, uI_1, uI_2, uL_1, uL_2, uL_3, uQ_1, uQ_2, uQ_3, rv_i, rv_l, rv_n, rv_b0, rv_b1, RMR, ne_eq, reduceCtorEq, not_false_eq_true, Option.getD_some, if_true, if_false, and_self, false_and, and_false, Nat.add_left_cancel_iff, Nat.add_eq_left, Nat.left_eq_add, Nat.one_ne_zero, Nat.reduceAdd, Nat.reduceLT, Nat.reduceLeDiff, Nat.reduceEqDiff, true_implies, false_implies, implies_true, Option.some.injEq, forall_eq', forall_eq, reduceCtorEq, brT, brF, br_s, i_10, i_01, ib_0_2, ib_1_2, tn_0, tn_1, Int32.le_refl, eq_self, yle (x := 12) (c := 12) (i := i) rfl (by omega) (by omega)]
      exact hQ
    | succ n ih =>
      intro i hi
      have t4 : ((4 : Int32) + Int32.ofNat i).toNatClampNeg = 4 + i := by
        have h1 := on_int (i := i) (by omega)
        have h2 := i_add (a := 4) (b := Int32.ofNat i) (by rw [show (4 : Int32).toInt = 4 by decide]; omega) (by rw [show (4 : Int32).toInt = 4 by decide]; omega)
        rw [show (4 : Int32).toInt = 4 by decide] at h2
        have h3 := i_cl (x := 4 + Int32.ofNat i) (by omega)
        omega
      have e : ∀ j, uI σ 85 j 0 = σ := fun j => uI_same (z1 j)
      have e4 : σ.1 83 (4 + i) = 0 := z2 _ (by omega)
      refine b150_24 ?_
      simp only [↓rF_I, ↓rF_L, ↓rF_R, ↓rF_N, rO_m, rB_m, ↓rI_m, wI_m, ↓rB2_m, ↓rB3_m, wB2_m, wB3_m, ↓rL_m, wL_m, ↓rQ_m, wQ_m, ↓lI_m, pI_m, pL_m, pR_m, sI_m, sBy_m, sBo_m, sL_m, sQ_m, fst_m, true_and, and_true, tg_some, ln_some, uI_1, uI_2, uL_1, uL_2, uL_3, uQ_1, uQ_2, uQ_3, rv_i, rv_l, rv_n, rv_b0, rv_b1, RMR, ne_eq, reduceCtorEq, not_false_eq_true, Option.getD_some, if_true, if_false, and_self, false_and, and_false, Nat.add_left_cancel_iff, Nat.add_eq_left, Nat.left_eq_add, Nat.one_ne_zero, Nat.reduceAdd, Nat.reduceLT, Nat.reduceLeDiff, Nat.reduceEqDiff, true_implies, false_implies, implies_true, Option.some.injEq, forall_eq', forall_eq, reduceCtorEq, brT, brF, br_s, i_10, i_01, ib_0_2, ib_1_2, tn_0, tn_1, Int32.le_refl, eq_self, RCM 81, g1, g2, g3, nle (x := 12) (c := 12) (i := i) rfl (by omega) (by omega), ib_ad (a := 4) (i := i) (n := 102) (by decide) (by rw [show (4 : Int32).toInt = 4 by decide]; omega) (by decide), ib_ad (a := 12) (i := i) (n := 2471) (by decide) (by rw [show (12 : Int32).toInt = 12 by decide]; omega) (by decide), on_succ, t4, e4, e]
      exact ih (i + 1) (by omega)
  have ha : ∀ n i : Nat, i + n = 2471 → Wp 150 2 [.ref 81, .int (Int32.ofNat i)] [] (mW w σ) Q d := by
    intro n
    induction n with
    | zero =>
      intro i hi
      refine b150_2 ?_
      simp only [↓rF_I, ↓rF_L, ↓rF_R, ↓rF_N, rO_m, rB_m, ↓rI_m, wI_m, ↓rB2_m, ↓rB3_m, wB2_m, wB3_m, ↓rL_m, wL_m, ↓rQ_m, wQ_m, ↓lI_m, pI_m, pL_m, pR_m, sI_m, sBy_m, sBo_m, sL_m, sQ_m, fst_m, true_and, and_true, tg_some, ln_some, uI_1, uI_2, uL_1, uL_2, uL_3, uQ_1, uQ_2, uQ_3, rv_i, rv_l, rv_n, rv_b0, rv_b1, RMR, ne_eq, reduceCtorEq, not_false_eq_true, Option.getD_some, if_true, if_false, and_self, false_and, and_false, Nat.add_left_cancel_iff, Nat.add_eq_left, Nat.left_eq_add, Nat.one_ne_zero, Nat.reduceAdd, Nat.reduceLT, Nat.reduceLeDiff, Nat.reduceEqDiff, true_implies, false_implies, implies_true, Option.some.injEq, forall_eq', forall_eq, reduceCtorEq, brT, brF, br_s, i_10, i_01, ib_0_2, ib_1_2, tn_0, tn_1, Int32.le_refl, eq_self, yle (x := 2471) (c := 2471) (i := i) rfl (by omega) (by omega)]
      exact hb 12 0 rfl
    | succ n ih =>
      intro i hi
      have e : ∀ j, uI σ 85 j 0 = σ := fun j => uI_same (z1 j)
      refine b150_2 ?_
      simp only [↓rF_I, ↓rF_L, ↓rF_R, ↓rF_N, rO_m, rB_m, ↓rI_m, wI_m, ↓rB2_m, ↓rB3_m, wB2_m, wB3_m, ↓rL_m, wL_m, ↓rQ_m, wQ_m, ↓lI_m, pI_m, pL_m, pR_m, sI_m, sBy_m, sBo_m, sL_m, sQ_m, fst_m, true_and, and_true, tg_some, ln_some, uI_1, uI_2, uL_1, uL_2, uL_3, uQ_1, uQ_2, uQ_3, rv_i, rv_l, rv_n, rv_b0, rv_b1, RMR, ne_eq, reduceCtorEq, not_false_eq_true, Option.getD_some, if_true, if_false, and_self, false_and, and_false, Nat.add_left_cancel_iff, Nat.add_eq_left, Nat.left_eq_add, Nat.one_ne_zero, Nat.reduceAdd, Nat.reduceLT, Nat.reduceLeDiff, Nat.reduceEqDiff, true_implies, false_implies, implies_true, Option.some.injEq, forall_eq', forall_eq, reduceCtorEq, brT, brF, br_s, i_10, i_01, ib_0_2, ib_1_2, tn_0, tn_1, Int32.le_refl, eq_self, RCM 81, g1, g2, g3, nle (x := 2471) (c := 2471) (i := i) rfl (by omega) (by omega), on_inB (i := i) (n := 2471) (by omega) (by omega), on_nat (i := i) (by omega), on_succ, e]
      exact ih (i + 1) (by omega)
  exact b150_0 (ha 2471 0 rfl)
theorem fr_150z {w : mT} {σ : mS} {D : Nat} {K : Hp → Prop} (g1 : mL w 81 = some (cM 81)) (g2 : mL w 83 = some (0, 102, [])) (g3 : mL w 85 = some (0, 2471, [])) (z1 : ∀ j, σ.1 85 j = 0) (z2 : ∀ j, j ≠ 3 → σ.1 83 j = 0) (hD : 1 ≤ D) : wpV D 150 [.ref 81] (mW w σ) K ↔ K (mW w σ) :=
  cV_of (m := 0) (fun d hd Q hQ => lp_150z g1 g2 g3 z1 z2 hQ) rfl hD
set_option maxHeartbeats 16000000 in
theorem ex_147 {w : mT} {σ : mS} {D : Nat} (hn : w.2.2.2.length = 81) (hD : 2 ≤ D) : ∃ w' σ', (w' = mAs w ([cM 81, (2, 600, []), (0, 102, []), (0, 102, []), (0, 2471, []), (0, 29652, []), (3, 2, []), (0, 4942, []), (0, 2471, []), (0, 6, []), (0, 6, []), (0, 6, []), (0, 12, []), (0, 12, []), (3, 8, []), (3, 8, []), (0, 8, [])]) ∧ blw 81 σ σ' ∧ frO σ') ∧ ∀ K, wpV D 147 [.ref 81] (mW (mA w cM0) (zp σ 81)) K ↔ K (mW w' σ') := by
  refine cV_ex (m := 1) (fun d hd Q hQ => ?_) rfl hD
  have hd1 : 1 ≤ d := hd
  refine b147_0 ?_
  simp only [↓rF_I, ↓rF_L, ↓rF_R, ↓rF_N, rO_m, rB_m, ↓rI_m, wI_m, ↓rB2_m, ↓rB3_m, wB2_m, wB3_m, ↓rL_m, wL_m, ↓rQ_m, wQ_m, ↓lI_m, pI_m, pL_m, pR_m, sI_m, sBy_m, sBo_m, sL_m, sQ_m, fst_m, true_and, and_true, tg_some, ln_some, uI_1, uI_2, uL_1, uL_2, uL_3, uQ_1, uQ_2, uQ_3, rv_i, rv_l, rv_n, rv_b0, rv_b1, RMR, ne_eq, reduceCtorEq, not_false_eq_true, Option.getD_some, if_true, if_false, and_self, false_and, and_false, Nat.add_left_cancel_iff, Nat.add_eq_left, Nat.left_eq_add, Nat.one_ne_zero, Nat.reduceAdd, Nat.reduceLT, Nat.reduceLeDiff, Nat.reduceEqDiff, ic_0, ic_1, ic_3, not_false_eq_true, ↓nw_all, nO_5, nO_6, nO_3, nO_1, nO_2, nO_0, nO_4, nO_7, nO_8, nA_0, nA_1, nA_2, nA_3, nA_4, mA_len, mA_L, mAs_len, mAs_L, RZS, RZT, RZG, RZH, RZP, RZB, RZR, RZX, RZM, sz_0, sz_1, sz_2, sz_3, sz_6, sz_8, sz_12, sz_23, sz_64, sz_96, sz_102, sz_180, sz_600, sz_2160, sz_2471, sz_4942, sz_29652, tn_0, tn_1, tn_2, tn_3, tn_6, tn_8, tn_12, tn_23, tn_64, tn_96, tn_102, tn_180, tn_600, tn_2160, tn_2471, tn_4942, tn_29652, hn, zp_1, zp_2, zp_3]
  simp only [mA_mA, mAs_mAs, mA_mAs, List.cons_append, List.nil_append]
  rw [sealO (c := cM0) (c' := cM 81) hn rfl (by simp [mE, mFs, mFv, va_rf, cM0, cM, uI_1, uI_21, uI_22, uL_1, uL_2, uL_3, uQ_1, uQ_2, uQ_3, zp_1, zp_2, zp_3, zR_1, zR_2, zR_3, if_true, if_false, false_and, true_and, and_false, and_true, and_self])]
  rw [fr_150z (by rw [mAs_L, hn]; rfl) (by rw [mAs_L, hn]; rfl) (by rw [mAs_L, hn]; rfl) (by intro j; simp [uI_1, uI_21, uI_22, uL_1, uL_2, uL_3, uQ_1, uQ_2, uQ_3, zp_1, zp_2, zp_3, zR_1, zR_2, zR_3, if_true, if_false, false_and, true_and, and_false, and_true, and_self]) (by intro j hj; simp [uI_1, uI_21, uI_22, uL_1, uL_2, uL_3, uQ_1, uQ_2, uQ_3, zp_1, zp_2, zp_3, zR_1, zR_2, zR_3, if_true, if_false, false_and, true_and, and_false, and_true, and_self, hj]) hd1]
  refine hQ _ _ ⟨rfl, fun a ha => ?_, ?_⟩
  · refine ⟨funext fun j => ?_, funext fun j => ?_, funext fun j => ?_⟩
    all_goals
      have g0 : ¬ a = 81 := by omega
      have g1 : ¬ a = 82 := by omega
      have g2 : ¬ a = 83 := by omega
      have g3 : ¬ a = 84 := by omega
      have g4 : ¬ a = 85 := by omega
      have g5 : ¬ a = 86 := by omega
      have g6 : ¬ a = 87 := by omega
      have g7 : ¬ a = 88 := by omega
      have g8 : ¬ a = 89 := by omega
      have g9 : ¬ a = 90 := by omega
      have g10 : ¬ a = 91 := by omega
      have g11 : ¬ a = 92 := by omega
      have g12 : ¬ a = 93 := by omega
      have g13 : ¬ a = 94 := by omega
      have g14 : ¬ a = 95 := by omega
      have g15 : ¬ a = 96 := by omega
      have g16 : ¬ a = 97 := by omega
      simp only [uI_1, uI_21, uI_22, uL_1, uL_2, uL_3, uQ_1, uQ_2, uQ_3, zp_1, zp_2, zp_3, zR_1, zR_2, zR_3, if_true, if_false, false_and, true_and, and_false, and_true, and_self, g0, g1, g2, g3, g4, g5, g6, g7, g8, g9, g10, g11, g12, g13, g14, g15, g16]
  · unfold frO
    repeat' apply And.intro
    all_goals first
      | (intro j; simp [uI_1, uI_21, uI_22, uL_1, uL_2, uL_3, uQ_1, uQ_2, uQ_3, zp_1, zp_2, zp_3, zR_1, zR_2, zR_3, if_true, if_false, false_and, true_and, and_false, and_true, and_self]; done)
      | (simp [uI_1, uI_21, uI_22, uL_1, uL_2, uL_3, uQ_1, uQ_2, uQ_3, zp_1, zp_2, zp_3, zR_1, zR_2, zR_3, if_true, if_false, false_and, true_and, and_false, and_true, and_self]; done)
