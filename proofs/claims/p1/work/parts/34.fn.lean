theorem mA_mAs {w : mT} {c : mC} {l : List mC} : mA (mAs w l) c = mAs w (l ++ [c]) := by simp [mA, mAs]
theorem mAs_mAs {w : mT} {l l' : List mC} : mAs (mAs w l) l' = mAs w (l ++ l') := by simp [mAs]
theorem mA_mA {w : mT} {c : mC} : mA w c = mAs w [c] := rfl
theorem sealO {w : mT} {σ : mS} {n : Nat} {c c' : mC} {l : List mC} (hn : w.2.2.2.length = n) (hs : c.2.1 = c'.2.1) (he : mE σ n c = mE σ n c') : mW (mAs w (c :: l)) σ = mW (mAs w (c' :: l)) σ := by
  refine mW_ext rfl rfl rfl ?_ ?_ (fun q hq => ?_)
  · simp [mAs]
  · simp only [mAs, mSz_app, mSz, hs]
  · rw [mAs_L, mAs_L, hn]
    by_cases h : q < n
    · rw [if_pos h, if_pos h]
    · rw [if_neg h, if_neg h]
      by_cases h2 : q = n
      · subst h2
        simp only [Nat.sub_self, List.getElem?_cons_zero, Option.map_some, he]
      · obtain ⟨m, hm⟩ : ∃ m, q - n = m + 1 := ⟨q - n - 1, by omega⟩
        rw [hm, List.getElem?_cons_succ, List.getElem?_cons_succ]
def blw (n : Nat) (σ σ' : mS) : Prop := ∀ a, a < n → σ'.1 a = σ.1 a ∧ σ'.2.1 a = σ.2.1 a ∧ σ'.2.2 a = σ.2.2 a
theorem zT_lt {σ : mS} {n a : Nat} (h : a < n) : (zT σ n).1 a = σ.1 a := by
  have g1 : ¬ a = n := by omega
  have g2 : ¬ n ≤ a := by omega
  funext j
  simp only [zT, uI_1, zR_1, g1, g2, false_and, if_false]
theorem zT_2 {σ : mS} {n a : Nat} (h : a < n) : (zT σ n).2.1 a = σ.2.1 a := by
  have g2 : ¬ n ≤ a := by omega
  funext j
  simp only [zT, uI_21, zR_2, g2, false_and, if_false]
theorem zT_3 {σ : mS} {n a : Nat} (h : a < n) : (zT σ n).2.2 a = σ.2.2 a := by
  have g2 : ¬ n ≤ a := by omega
  funext j
  simp only [zT, uI_22, zR_3, g2, false_and, if_false]
set_option maxHeartbeats 4000000 in
theorem ex_8 {w : mT} {σ : mS} {D : Nat} (hn : w.2.2.2.length = 63) (hD : 1 ≤ D) : ∃ w' σ', (w' = mAs w ([cH 63, (4, 12, []), (4, 2, []), (3, 2, [])]) ∧ blw 63 σ σ' ∧ σ'.1 63 1 = 0 ∧ σ'.1 63 2 = 0 ∧ (∀ j, σ'.2.2 64 j = none) ∧ (∀ j, σ'.2.2 65 j = none) ∧ (∀ j, σ'.1 66 j = 0)) ∧ ∀ K, wpV D 8 [.ref 63] (mW (mA w cH0) (zp σ 63)) K ↔ K (mW w' σ') := by
  refine cV_ex (m := 0) (fun d hd Q hQ => ?_) rfl hD
  refine b8_0 ?_
  simp only [↓rF_I, ↓rF_L, ↓rF_R, ↓rF_N, rO_m, rB_m, ↓rI_m, wI_m, ↓rB2_m, ↓rB3_m, wB2_m, wB3_m, ↓rL_m, wL_m, ↓rQ_m, wQ_m, ↓lI_m, pI_m, pL_m, pR_m, sI_m, sBy_m, sBo_m, sL_m, sQ_m, fst_m, true_and, and_true, tg_some, ln_some, uI_1, uI_2, uL_1, uL_2, uL_3, uQ_1, uQ_2, uQ_3, rv_i, rv_l, rv_n, rv_b0, rv_b1, RMR, ne_eq, reduceCtorEq, not_false_eq_true, Option.getD_some, if_true, if_false, and_self, false_and, and_false, Nat.add_left_cancel_iff, Nat.add_eq_left, Nat.left_eq_add, Nat.one_ne_zero, Nat.reduceAdd, Nat.reduceLT, Nat.reduceLeDiff, Nat.reduceEqDiff, ic_0, ic_1, ic_3, not_false_eq_true, ↓nw_all, nO_5, nO_6, nO_3, nO_1, nO_2, nO_0, nO_4, nO_7, nO_8, nA_0, nA_1, nA_2, nA_3, nA_4, mA_len, mA_L, mAs_len, mAs_L, RZS, RZT, RZG, RZH, RZP, RZB, RZR, RZX, RZM, sz_0, sz_1, sz_2, sz_3, sz_6, sz_8, sz_12, sz_23, sz_64, sz_96, sz_102, sz_180, sz_600, sz_2160, sz_2471, sz_4942, sz_29652, tn_0, tn_1, tn_2, tn_3, tn_6, tn_8, tn_12, tn_23, tn_64, tn_96, tn_102, tn_180, tn_600, tn_2160, tn_2471, tn_4942, tn_29652, hn]
  simp only [mA_mA, mAs_mAs, mA_mAs, List.cons_append, List.nil_append]
  refine Eq.mpr (congrArg (Q (some none)) (sealO (c' := cH 63) hn rfl ?_)) (hQ _ _ ⟨rfl, ?_⟩)
  · simp [mE, mFs, mFv, va_rf, cH0, cH, uI_1, uI_21, uI_22, uL_1, uL_2, uL_3, uQ_1, uQ_2, uQ_3, zp_1, zp_2, zp_3, zR_1, zR_2, zR_3, if_true, if_false, false_and, true_and, and_false, and_true, and_self]
  · refine ⟨fun a ha => ?_, ?_, ?_, ?_, ?_, ?_⟩
    · refine ⟨funext fun j => ?_, funext fun j => ?_, funext fun j => ?_⟩
      all_goals
        have g0 : ¬ a = 63 := by omega
        have g1 : ¬ a = 64 := by omega
        have g2 : ¬ a = 65 := by omega
        have g3 : ¬ a = 66 := by omega
        simp only [uI_1, uI_21, uI_22, uL_1, uL_2, uL_3, uQ_1, uQ_2, uQ_3, zp_1, zp_2, zp_3, zR_1, zR_2, zR_3, if_true, if_false, false_and, true_and, and_false, and_true, and_self, g0, g1, g2, g3]
    · simp [uI_1, uI_21, uI_22, uL_1, uL_2, uL_3, uQ_1, uQ_2, uQ_3, zp_1, zp_2, zp_3, zR_1, zR_2, zR_3, if_true, if_false, false_and, true_and, and_false, and_true, and_self]
    · simp [uI_1, uI_21, uI_22, uL_1, uL_2, uL_3, uQ_1, uQ_2, uQ_3, zp_1, zp_2, zp_3, zR_1, zR_2, zR_3, if_true, if_false, false_and, true_and, and_false, and_true, and_self]
    · simp [uI_1, uI_21, uI_22, uL_1, uL_2, uL_3, uQ_1, uQ_2, uQ_3, zp_1, zp_2, zp_3, zR_1, zR_2, zR_3, if_true, if_false, false_and, true_and, and_false, and_true, and_self]
    · simp [uI_1, uI_21, uI_22, uL_1, uL_2, uL_3, uQ_1, uQ_2, uQ_3, zp_1, zp_2, zp_3, zR_1, zR_2, zR_3, if_true, if_false, false_and, true_and, and_false, and_true, and_self]
    · simp [uI_1, uI_21, uI_22, uL_1, uL_2, uL_3, uQ_1, uQ_2, uQ_3, zp_1, zp_2, zp_3, zR_1, zR_2, zR_3, if_true, if_false, false_and, true_and, and_false, and_true, and_self]
set_option maxHeartbeats 4000000 in
theorem ex_15 {w : mT} {σ : mS} {D : Nat} (hn : w.2.2.2.length = 67) (hD : 1 ≤ D) : ∃ w' σ', (w' = mAs w ([cP 67, (0, 8, []), (0, 8, []), (0, 8, []), (3, 8, [])]) ∧ blw 67 σ σ' ∧ σ'.1 67 0 = 0 ∧ σ'.1 67 1 = 0) ∧ ∀ K, wpV D 15 [.ref 67] (mW (mA w cP0) (zp σ 67)) K ↔ K (mW w' σ') := by
  refine cV_ex (m := 0) (fun d hd Q hQ => ?_) rfl hD
  refine b15_0 ?_
  simp only [↓rF_I, ↓rF_L, ↓rF_R, ↓rF_N, rO_m, rB_m, ↓rI_m, wI_m, ↓rB2_m, ↓rB3_m, wB2_m, wB3_m, ↓rL_m, wL_m, ↓rQ_m, wQ_m, ↓lI_m, pI_m, pL_m, pR_m, sI_m, sBy_m, sBo_m, sL_m, sQ_m, fst_m, true_and, and_true, tg_some, ln_some, uI_1, uI_2, uL_1, uL_2, uL_3, uQ_1, uQ_2, uQ_3, rv_i, rv_l, rv_n, rv_b0, rv_b1, RMR, ne_eq, reduceCtorEq, not_false_eq_true, Option.getD_some, if_true, if_false, and_self, false_and, and_false, Nat.add_left_cancel_iff, Nat.add_eq_left, Nat.left_eq_add, Nat.one_ne_zero, Nat.reduceAdd, Nat.reduceLT, Nat.reduceLeDiff, Nat.reduceEqDiff, ic_0, ic_1, ic_3, not_false_eq_true, ↓nw_all, nO_5, nO_6, nO_3, nO_1, nO_2, nO_0, nO_4, nO_7, nO_8, nA_0, nA_1, nA_2, nA_3, nA_4, mA_len, mA_L, mAs_len, mAs_L, RZS, RZT, RZG, RZH, RZP, RZB, RZR, RZX, RZM, sz_0, sz_1, sz_2, sz_3, sz_6, sz_8, sz_12, sz_23, sz_64, sz_96, sz_102, sz_180, sz_600, sz_2160, sz_2471, sz_4942, sz_29652, tn_0, tn_1, tn_2, tn_3, tn_6, tn_8, tn_12, tn_23, tn_64, tn_96, tn_102, tn_180, tn_600, tn_2160, tn_2471, tn_4942, tn_29652, hn]
  simp only [mA_mA, mAs_mAs, mA_mAs, List.cons_append, List.nil_append]
  refine Eq.mpr (congrArg (Q (some none)) (sealO (c' := cP 67) hn rfl ?_)) (hQ _ _ ⟨rfl, ?_⟩)
  · simp [mE, mFs, mFv, va_rf, cP0, cP, uI_1, uI_21, uI_22, uL_1, uL_2, uL_3, uQ_1, uQ_2, uQ_3, zp_1, zp_2, zp_3, zR_1, zR_2, zR_3, if_true, if_false, false_and, true_and, and_false, and_true, and_self]
  · refine ⟨fun a ha => ?_, ?_, ?_⟩
    · refine ⟨funext fun j => ?_, funext fun j => ?_, funext fun j => ?_⟩
      all_goals
        have g0 : ¬ a = 67 := by omega
        have g1 : ¬ a = 68 := by omega
        have g2 : ¬ a = 69 := by omega
        have g3 : ¬ a = 70 := by omega
        have g4 : ¬ a = 71 := by omega
        simp only [uI_1, uI_21, uI_22, uL_1, uL_2, uL_3, uQ_1, uQ_2, uQ_3, zp_1, zp_2, zp_3, zR_1, zR_2, zR_3, if_true, if_false, false_and, true_and, and_false, and_true, and_self, g0, g1, g2, g3, g4]
    · simp [uI_1, uI_21, uI_22, uL_1, uL_2, uL_3, uQ_1, uQ_2, uQ_3, zp_1, zp_2, zp_3, zR_1, zR_2, zR_3, if_true, if_false, false_and, true_and, and_false, and_true, and_self]
    · simp [uI_1, uI_21, uI_22, uL_1, uL_2, uL_3, uQ_1, uQ_2, uQ_3, zp_1, zp_2, zp_3, zR_1, zR_2, zR_3, if_true, if_false, false_and, true_and, and_false, and_true, and_self]
set_option maxHeartbeats 4000000 in
theorem ex_0 {w : mT} {σ : mS} {D : Nat} (hn : w.2.2.2.length = 72) (hD : 1 ≤ D) : ∃ w' σ', (w' = mAs w ([cB 72, (0, 6, []), (0, 6, []), (1, 64, []), (1, 64, [])]) ∧ blw 72 σ σ' ∧ σ'.1 72 0 = 0) ∧ ∀ K, wpV D 0 [.ref 72] (mW (mA w cB0) (zp σ 72)) K ↔ K (mW w' σ') := by
  refine cV_ex (m := 0) (fun d hd Q hQ => ?_) rfl hD
  refine b0_0 ?_
  simp only [↓rF_I, ↓rF_L, ↓rF_R, ↓rF_N, rO_m, rB_m, ↓rI_m, wI_m, ↓rB2_m, ↓rB3_m, wB2_m, wB3_m, ↓rL_m, wL_m, ↓rQ_m, wQ_m, ↓lI_m, pI_m, pL_m, pR_m, sI_m, sBy_m, sBo_m, sL_m, sQ_m, fst_m, true_and, and_true, tg_some, ln_some, uI_1, uI_2, uL_1, uL_2, uL_3, uQ_1, uQ_2, uQ_3, rv_i, rv_l, rv_n, rv_b0, rv_b1, RMR, ne_eq, reduceCtorEq, not_false_eq_true, Option.getD_some, if_true, if_false, and_self, false_and, and_false, Nat.add_left_cancel_iff, Nat.add_eq_left, Nat.left_eq_add, Nat.one_ne_zero, Nat.reduceAdd, Nat.reduceLT, Nat.reduceLeDiff, Nat.reduceEqDiff, ic_0, ic_1, ic_3, not_false_eq_true, ↓nw_all, nO_5, nO_6, nO_3, nO_1, nO_2, nO_0, nO_4, nO_7, nO_8, nA_0, nA_1, nA_2, nA_3, nA_4, mA_len, mA_L, mAs_len, mAs_L, RZS, RZT, RZG, RZH, RZP, RZB, RZR, RZX, RZM, sz_0, sz_1, sz_2, sz_3, sz_6, sz_8, sz_12, sz_23, sz_64, sz_96, sz_102, sz_180, sz_600, sz_2160, sz_2471, sz_4942, sz_29652, tn_0, tn_1, tn_2, tn_3, tn_6, tn_8, tn_12, tn_23, tn_64, tn_96, tn_102, tn_180, tn_600, tn_2160, tn_2471, tn_4942, tn_29652, hn]
  simp only [mA_mA, mAs_mAs, mA_mAs, List.cons_append, List.nil_append]
  refine Eq.mpr (congrArg (Q (some none)) (sealO (c' := cB 72) hn rfl ?_)) (hQ _ _ ⟨rfl, ?_⟩)
  · simp [mE, mFs, mFv, va_rf, cB0, cB, uI_1, uI_21, uI_22, uL_1, uL_2, uL_3, uQ_1, uQ_2, uQ_3, zp_1, zp_2, zp_3, zR_1, zR_2, zR_3, if_true, if_false, false_and, true_and, and_false, and_true, and_self]
  · refine ⟨fun a ha => ?_, ?_⟩
    · refine ⟨funext fun j => ?_, funext fun j => ?_, funext fun j => ?_⟩
      all_goals
        have g0 : ¬ a = 72 := by omega
        have g1 : ¬ a = 73 := by omega
        have g2 : ¬ a = 74 := by omega
        have g3 : ¬ a = 75 := by omega
        have g4 : ¬ a = 76 := by omega
        simp only [uI_1, uI_21, uI_22, uL_1, uL_2, uL_3, uQ_1, uQ_2, uQ_3, zp_1, zp_2, zp_3, zR_1, zR_2, zR_3, if_true, if_false, false_and, true_and, and_false, and_true, and_self, g0, g1, g2, g3, g4]
    · simp [uI_1, uI_21, uI_22, uL_1, uL_2, uL_3, uQ_1, uQ_2, uQ_3, zp_1, zp_2, zp_3, zR_1, zR_2, zR_3, if_true, if_false, false_and, true_and, and_false, and_true, and_self]
set_option maxHeartbeats 4000000 in
theorem ex_42 {w : mT} {σ : mS} {D : Nat} (hn : w.2.2.2.length = 77) (hD : 1 ≤ D) : ∃ w' σ', (w' = mAs w ([cR 77, (0, 12, []), (0, 12, []), (0, 12, [])]) ∧ blw 77 σ σ' ∧ σ'.1 77 0 = 0) ∧ ∀ K, wpV D 42 [.ref 77] (mW (mA w cR0) (zp σ 77)) K ↔ K (mW w' σ') := by
  refine cV_ex (m := 0) (fun d hd Q hQ => ?_) rfl hD
  refine b42_0 ?_
  simp only [↓rF_I, ↓rF_L, ↓rF_R, ↓rF_N, rO_m, rB_m, ↓rI_m, wI_m, ↓rB2_m, ↓rB3_m, wB2_m, wB3_m, ↓rL_m, wL_m, ↓rQ_m, wQ_m, ↓lI_m, pI_m, pL_m, pR_m, sI_m, sBy_m, sBo_m, sL_m, sQ_m, fst_m, true_and, and_true, tg_some, ln_some, uI_1, uI_2, uL_1, uL_2, uL_3, uQ_1, uQ_2, uQ_3, rv_i, rv_l, rv_n, rv_b0, rv_b1, RMR, ne_eq, reduceCtorEq, not_false_eq_true, Option.getD_some, if_true, if_false, and_self, false_and, and_false, Nat.add_left_cancel_iff, Nat.add_eq_left, Nat.left_eq_add, Nat.one_ne_zero, Nat.reduceAdd, Nat.reduceLT, Nat.reduceLeDiff, Nat.reduceEqDiff, ic_0, ic_1, ic_3, not_false_eq_true, ↓nw_all, nO_5, nO_6, nO_3, nO_1, nO_2, nO_0, nO_4, nO_7, nO_8, nA_0, nA_1, nA_2, nA_3, nA_4, mA_len, mA_L, mAs_len, mAs_L, RZS, RZT, RZG, RZH, RZP, RZB, RZR, RZX, RZM, sz_0, sz_1, sz_2, sz_3, sz_6, sz_8, sz_12, sz_23, sz_64, sz_96, sz_102, sz_180, sz_600, sz_2160, sz_2471, sz_4942, sz_29652, tn_0, tn_1, tn_2, tn_3, tn_6, tn_8, tn_12, tn_23, tn_64, tn_96, tn_102, tn_180, tn_600, tn_2160, tn_2471, tn_4942, tn_29652, hn]
  simp only [mA_mA, mAs_mAs, mA_mAs, List.cons_append, List.nil_append]
  refine Eq.mpr (congrArg (Q (some none)) (sealO (c' := cR 77) hn rfl ?_)) (hQ _ _ ⟨rfl, ?_⟩)
  · simp [mE, mFs, mFv, va_rf, cR0, cR, uI_1, uI_21, uI_22, uL_1, uL_2, uL_3, uQ_1, uQ_2, uQ_3, zp_1, zp_2, zp_3, zR_1, zR_2, zR_3, if_true, if_false, false_and, true_and, and_false, and_true, and_self]
  · refine ⟨fun a ha => ?_, ?_⟩
    · refine ⟨funext fun j => ?_, funext fun j => ?_, funext fun j => ?_⟩
      all_goals
        have g0 : ¬ a = 77 := by omega
        have g1 : ¬ a = 78 := by omega
        have g2 : ¬ a = 79 := by omega
        have g3 : ¬ a = 80 := by omega
        simp only [uI_1, uI_21, uI_22, uL_1, uL_2, uL_3, uQ_1, uQ_2, uQ_3, zp_1, zp_2, zp_3, zR_1, zR_2, zR_3, if_true, if_false, false_and, true_and, and_false, and_true, and_self, g0, g1, g2, g3]
    · simp [uI_1, uI_21, uI_22, uL_1, uL_2, uL_3, uQ_1, uQ_2, uQ_3, zp_1, zp_2, zp_3, zR_1, zR_2, zR_3, if_true, if_false, false_and, true_and, and_false, and_true, and_self]
