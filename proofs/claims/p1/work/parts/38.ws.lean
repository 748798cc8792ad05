def s00 : mS := (fun _ _ => 0, fun _ _ => 0, fun _ _ => none)
theorem hp_0 {L : Nat} {xs : Nat → Int32} : hp0 L xs = mW (L, xs, 0, []) s00 := rfl
theorem frC_b {σ σ' : mS} (h : blw 81 σ σ') (hC : frC σ) : frC σ' := by
  have e := fun a h1 => (h a h1).1
  have eL := fun a h1 => (h a h1).2.1
  have eR := fun a h1 => (h a h1).2.2
  unfold frC at hC ⊢
  simp only [e _ (show 0 < 81 by omega), e _ (show 15 < 81 by omega), e _ (show 35 < 81 by omega), e _ (show 36 < 81 by omega), e _ (show 37 < 81 by omega), e _ (show 38 < 81 by omega), e _ (show 39 < 81 by omega), e _ (show 40 < 81 by omega), e _ (show 41 < 81 by omega), e _ (show 42 < 81 by omega), e _ (show 43 < 81 by omega), e _ (show 44 < 81 by omega), e _ (show 45 < 81 by omega), e _ (show 46 < 81 by omega), e _ (show 47 < 81 by omega), e _ (show 48 < 81 by omega), e _ (show 49 < 81 by omega), e _ (show 50 < 81 by omega), e _ (show 51 < 81 by omega), e _ (show 52 < 81 by omega), e _ (show 53 < 81 by omega), e _ (show 54 < 81 by omega), e _ (show 55 < 81 by omega), e _ (show 56 < 81 by omega), e _ (show 57 < 81 by omega), e _ (show 58 < 81 by omega), e _ (show 59 < 81 by omega), e _ (show 60 < 81 by omega), e _ (show 61 < 81 by omega), e _ (show 62 < 81 by omega), e _ (show 63 < 81 by omega), e _ (show 66 < 81 by omega), e _ (show 67 < 81 by omega), eL _ (show 0 < 81 by omega), eR _ (show 0 < 81 by omega), eR _ (show 64 < 81 by omega), eR _ (show 65 < 81 by omega)]
  exact hC
theorem blw_z {σ σ' : mS} (h : blw 81 σ σ') : blw 81 σ (zp σ' 98) := fun a ha => by
  obtain ⟨h1, h2, h3⟩ := h a ha
  have g : ¬ a = 98 := by omega
  refine ⟨?_, ?_, ?_⟩
  · rw [← h1]; funext j; simp only [zp, g, if_false]
  · rw [← h2]; funext j; simp only [zp, g, if_false]
  · rw [← h3]; funext j; simp only [zp, g, if_false]
theorem frO_z {σ : mS} (h : frO σ) : frO (zp σ 98) := by
  unfold frO at h ⊢
  simp only [zp_1, zp_2, Nat.reduceEqDiff, if_false]
  exact h
theorem law_1 {L : Nat} {xs : Nat → Int32} (hL : L ≤ 7) : Wp 240 0 (enL [.ref SCR] 7) [] (hp0 L xs) Qf 50 := by
  rw [hp_0]
  show Wp 240 0 [.ref SCR, jk, jk, jk, jk, jk, jk] [] _ _ _
  refine b240_0 ?_
  simp only [↓rF_I, ↓rF_L, ↓rF_R, ↓rF_N, rO_m, rB_m, ↓rI_m, wI_m, ↓rB2_m, ↓rB3_m, wB2_m, wB3_m, ↓rL_m, wL_m, ↓rQ_m, wQ_m, ↓lI_m, pI_m, pL_m, pR_m, sI_m, sBy_m, sBo_m, sL_m, sQ_m, fst_m, true_and, and_true, tg_some, ln_some, uI_1, uI_2, uL_1, uL_2, uL_3, uQ_1, uQ_2, uQ_3, rv_i, rv_l, rv_n, rv_b0, rv_b1, RMR, ne_eq, reduceCtorEq, not_false_eq_true, Option.getD_some, if_true, if_false, and_self, false_and, and_false, Nat.add_left_cancel_iff, Nat.add_eq_left, Nat.left_eq_add, Nat.one_ne_zero, Nat.reduceAdd, Nat.reduceLT, Nat.reduceLeDiff, Nat.reduceEqDiff, ↓nw_all, nO_7, List.length_nil]
  refine use_V (ex_75 (w := (L, xs, 0, [])) rfl (by omega)) (fun w1 σ1 h1 => ?_)
  obtain ⟨hw1, f1⟩ := h1
  have hl1 : w1.2.2.2.length = 81 := by rw [hw1]; rfl
  simp only [↓rF_I, ↓rF_L, ↓rF_R, ↓rF_N, rO_m, rB_m, ↓rI_m, wI_m, ↓rB2_m, ↓rB3_m, wB2_m, wB3_m, ↓rL_m, wL_m, ↓rQ_m, wQ_m, ↓lI_m, pI_m, pL_m, pR_m, sI_m, sBy_m, sBo_m, sL_m, sQ_m, fst_m, true_and, and_true, tg_some, ln_some, uI_1, uI_2, uL_1, uL_2, uL_3, uQ_1, uQ_2, uQ_3, rv_i, rv_l, rv_n, rv_b0, rv_b1, RMR, ne_eq, reduceCtorEq, not_false_eq_true, Option.getD_some, if_true, if_false, and_self, false_and, and_false, Nat.add_left_cancel_iff, Nat.add_eq_left, Nat.left_eq_add, Nat.one_ne_zero, Nat.reduceAdd, Nat.reduceLT, Nat.reduceLeDiff, Nat.reduceEqDiff, ↓nw_all, nO_8, hl1]
  refine use_V (ex_147 hl1 (by omega)) (fun w2 σ2 h2 => ?_)
  obtain ⟨hw2, b2, f2⟩ := h2
  have hl2 : w2.2.2.2.length = 98 := by rw [hw2, mAs_len, hl1]; rfl
  simp only [↓rF_I, ↓rF_L, ↓rF_R, ↓rF_N, rO_m, rB_m, ↓rI_m, wI_m, ↓rB2_m, ↓rB3_m, wB2_m, wB3_m, ↓rL_m, wL_m, ↓rQ_m, wQ_m, ↓lI_m, pI_m, pL_m, pR_m, sI_m, sBy_m, sBo_m, sL_m, sQ_m, fst_m, true_and, and_true, tg_some, ln_some, uI_1, uI_2, uL_1, uL_2, uL_3, uQ_1, uQ_2, uQ_3, rv_i, rv_l, rv_n, rv_b0, rv_b1, RMR, ne_eq, reduceCtorEq, not_false_eq_true, Option.getD_some, if_true, if_false, and_self, false_and, and_false, Nat.add_left_cancel_iff, Nat.add_eq_left, Nat.left_eq_add, Nat.one_ne_zero, Nat.reduceAdd, Nat.reduceLT, Nat.reduceLeDiff, Nat.reduceEqDiff, ↓nw_all, nA_1, hl2, sz_1, tn_1, not_false_eq_true, Nat.reduceLeDiff]
  have hw : lit (mA w2 (1, 1, [])) := by
    intro a ha
    unfold mL layf
    rw [hw2, hw1]
    rfl
  have hC : frC (zp σ2 98) := frC_b (blw_z b2) f1
  have hO : frO (zp σ2 98) := frO_z f2
  have hl : (mA w2 (1, 1, [])).2.2.2.length = 99 := by rw [mA_len, hl2]
  have hs : (mA w2 (1, 1, [])).2.2.2.length ≤ SCR := by rw [hl]; show 99 ≤ 1000000; omega
  have hd : 49 ≤ 50 := by omega
  have ho1 : (mA w2 (1, 1, [])).1 = L ∧ (mA w2 (1, 1, [])).2.1 = xs ∧ (mA w2 (1, 1, [])).2.2.1 ≤ 1 ∧ (mA w2 (1, 1, [])).2.2.2.length ≤ 100 + 0 ∧ mSz (mA w2 (1, 1, [])).2.2.2 ≤ 60000 + 0 := by
    rw [hw2, hw1]
    refine ⟨rfl, rfl, Nat.le_of_ble_eq_true rfl, Nat.le_of_ble_eq_true rfl, Nat.le_of_ble_eq_true rfl⟩
  generalize mA w2 (1, 1, []) = w at *
  generalize zp σ2 98 = σ at *
  refine b240_20 (b240_23 ?_)
  rw [lI_scr hs, ho1.1]
  by_cases h6 : L = 7
  · subst h6
    have h7 := ho1.1
    have ho := ho1
    have e : ¬ (Int32.ofNat 7 - 7 < 0) := by decide
    have ib : inB (0 : Int32) 7 = true := by decide
    simp only [↓rF_I, ↓rF_L, ↓rF_R, ↓rF_N, rO_m, rB_m, ↓rI_m, wI_m, ↓rB2_m, ↓rB3_m, wB2_m, wB3_m, ↓rL_m, wL_m, ↓rQ_m, wQ_m, ↓lI_m, pI_m, pL_m, pR_m, sI_m, sBy_m, sBo_m, sL_m, sQ_m, fst_m, true_and, and_true, tg_some, ln_some, uI_1, uI_2, uL_1, uL_2, uL_3, uQ_1, uQ_2, uQ_3, rv_i, rv_l, rv_n, rv_b0, rv_b1, RMR, ne_eq, reduceCtorEq, not_false_eq_true, Option.getD_some, if_true, if_false, and_self, false_and, and_false, Nat.add_left_cancel_iff, Nat.add_eq_left, Nat.left_eq_add, Nat.one_ne_zero, Nat.reduceAdd, Nat.reduceLT, Nat.reduceLeDiff, Nat.reduceEqDiff, brT, brF, e, ↓rI_scr hs, h7, ib, tn_0]
    exact sw240 (fun _ => cs_0 hd hw hC hO hl h7 hs ho) (fun _ => cs_1 hd hw hC hO hl h7 hs ho) (fun _ => cs_2 hd hw hC hO hl h7 hs ho) (fun _ => cs_3 hd hw hC hO hl h7 hs ho) (fun _ => cs_4 hd hw hC hO hl h7 hs ho) (fun _ => cs_5 hd hw hC hO hl h7 hs ho) (fun _ => cs_6 hd hw hC hO hl h7 hs ho) (fun _ => cs_7 hd hw hC hO hl h7 hs ho) (fun _ => cs_8 hd hw hC hO hl h7 hs ho) (fun _ => cs_9 hd hw hC hO hl h7 hs ho) (fun _ => cs_10 hd hw hC hO hl h7 hs ho) (fun _ => cs_11 hd hw hC hO hl h7 hs ho) (fun _ => cs_12 hd hw hC hO hl h7 hs ho) (fun _ => cs_13 hd hw hC hO hl h7 hs ho) (fun _ => cs_14 hd hw hC hO hl h7 hs ho) (fun _ => cs_15 hd hw hC hO hl h7 hs ho) (fun _ => cs_16 hd hw hC hO hl h7 hs ho) (fun _ => cs_17 hd hw hC hO hl h7 hs ho) (fun _ => cs_18 hd hw hC hO hl h7 hs ho) (fun _ => cs_19 hd hw hC hO hl h7 hs ho) (fun _ => cs_20 hd hw hC hO hl h7 hs ho) (fun _ => cs_21 hd hw hC hO hl h7 hs ho) (fun _ => cs_22 hd hw hC hO hl h7 hs ho) (fun _ => cs_23 hd hw hC hO hl h7 hs ho) (fun _ => cs_24 hd hw hC hO hl h7 hs ho) (fun _ => cs_25 hd hw hC hO hl h7 hs ho) (fun _ => cs_26 hd hw hC hO hl h7 hs ho) (fun _ => cs_27 hd hw hC hO hl h7 hs ho) (fun _ => cs_28 hd hw hC hO hl h7 hs ho) (fun _ => cs_29 hd hw hC hO hl h7 hs ho) (fun _ => cs_30 hd hw hC hO hl h7 hs ho) (fun _ => cs_31 hd hw hC hO hl h7 hs ho) (fun _ => cs_32 hd hw hC hO hl h7 hs ho) (fun _ => cs_33 hd hw hC hO hl h7 hs ho) (fun _ => cs_34 hd hw hC hO hl h7 hs ho) (fun _ => cs_35 hd hw hC hO hl h7 hs ho) (fun _ => cs_36 hd hw hC hO hl h7 hs ho) (fun _ => cs_37 hd hw hC hO hl h7 hs ho) (fun _ => cs_38 hd hw hC hO hl h7 hs ho) (fun _ => cs_39 hd hw hC hO hl h7 hs ho) (fun _ => cs_40 hd hw hC hO hl h7 hs ho) (fun _ => end_a (by omega) (okw_x ho (by omega) (by omega) (xt_rf hw)))
  · have e : Int32.ofNat L - 7 < 0 := by
      have h1 := on_int (i := L) (by omega)
      rw [i_lt, Int32.toInt_sub, h1, show (7 : Int32).toInt = 7 by decide, show (0 : Int32).toInt = 0 by decide]
      rw [Int.bmod_eq_of_le (by omega) (by omega)]; omega
    simp only [↓rF_I, ↓rF_L, ↓rF_R, ↓rF_N, rO_m, rB_m, ↓rI_m, wI_m, ↓rB2_m, ↓rB3_m, wB2_m, wB3_m, ↓rL_m, wL_m, ↓rQ_m, wQ_m, ↓lI_m, pI_m, pL_m, pR_m, sI_m, sBy_m, sBo_m, sL_m, sQ_m, fst_m, true_and, and_true, tg_some, ln_some, uI_1, uI_2, uL_1, uL_2, uL_3, uQ_1, uQ_2, uQ_3, rv_i, rv_l, rv_n, rv_b0, rv_b1, RMR, ne_eq, reduceCtorEq, not_false_eq_true, Option.getD_some, if_true, if_false, and_self, false_and, and_false, Nat.add_left_cancel_iff, Nat.add_eq_left, Nat.left_eq_add, Nat.one_ne_zero, Nat.reduceAdd, Nat.reduceLT, Nat.reduceLeDiff, Nat.reduceEqDiff, brT, brF, e]
    exact Qf_ok (L := L) (xs := xs) ⟨ho1.1, ho1.2.1, by have := ho1.2.2.1; omega, by have := ho1.2.2.2.1; omega, by have := ho1.2.2.2.2; omega⟩
theorem whole_start {p : Program} {e : Env} {s : State} {m : MethodId} {below : List Frame} {meth : Method} {c : Code} (l : Launch) (hflags : l.flags = flags0) {b L : Nat} {xs : Nat → Int32} (hL : L ≤ 7) (C0 : lw_At p s m meth c b L xs) : W p l e room_1 s m #[Value.ref b] below meth c s.heap [] 0 0 (lw_Z below #[Value.ref b] s) (entryFrame m ([Value.ref b] : List Value).toArray 7) := by
  obtain ⟨n, r, hp', h1, h2, h3, h4⟩ := law_1 (xs := xs) hL
  subst h2
  exact start_of l hflags C0 (d := 50) (by omega) h1 h3 h4
