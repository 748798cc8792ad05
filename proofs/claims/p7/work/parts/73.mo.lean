/-! the model's calls: layOrder, worst, way: they are safe -/
theorem sm_o {n : Nat} {f : Nat → Nat} (h : ∀ i, i < n → f i = 1) : sm n f = n := by
  induction n with
  | zero => rfl
  | succ n ih => rw [sm_s, ih (fun i hi => h i (by omega)), h n (by omega)]
theorem lp_219 {w : mT} {τ ρ : Rw} {aim d : Nat} {lots : Int32} {σ0 : mS} {Q : Option (Option Value) → Hp → Prop} (hw : lit w) (hτ0 : mTold σ0 τ) (hρ0 : mRow σ0 85 0 ρ) (hv : vTold τ) (hr : vRow τ ρ) (ha : aim ≤ 999) (hd : 7 ≤ d) (hz : ∀ σ', frZ σ0 σ' → Q (some (some (.int 0))) (mW w σ')) (hy : ∀ σ' m, frZ σ0 σ' → oI σ' τ ρ m → oP σ' → Q (some (some (.int 1))) (mW w σ')) : ∀ (r l m : Nat) (σ : mS) (a3 : Int32), l + r = τ 0 → frZ σ0 σ → oI σ τ ρ m → Wp 219 39 [.ref 81, .int lots, .int (Int32.ofNat aim), .int a3, .int (Int32.ofNat l)] [] (mW w σ) Q d := by
  have hd1 : 1 ≤ d := by omega
  have v0 := hv.1
  intro r
  induction r with
  | zero =>
    intro l m σ a3 hl hf hI
    have hτ := mT_c hτ0 (hf.1 83 (by omega) (by omega))
    have hρ := mR_c hρ0 (hf.1 85 (by omega) (by omega))
    have hl' : l = τ 0 := by omega
    subst hl'
    have m6 := hI.2.1
    refine b219_39 ?_
    by_cases z : m = 0
    · have c : (Int32.ofNat m = 0) ↔ True := iff_true_intro (by rw [z]; rfl)
      simp only [↓rF_I, ↓rF_L, ↓rF_R, ↓rF_N, rO_m, rB_m, ↓rI_m, wI_m, ↓rB2_m, ↓rB3_m, wB2_m, wB3_m, ↓rL_m, wL_m, ↓rQ_m, wQ_m, ↓lI_m, pI_m, pL_m, pR_m, sI_m, sBy_m, sBo_m, sL_m, sQ_m, fst_m, true_and, and_true, tg_some, ln_some, uI_1, uI_2, uL_1, uL_2, uL_3, uQ_1, uQ_2, uQ_3, rv_i, rv_l, rv_n, rv_b0, rv_b1, RMR, ne_eq, reduceCtorEq, not_false_eq_true, Option.getD_some, if_true, if_false, and_self, false_and, and_false, Nat.add_left_cancel_iff, Nat.add_eq_left, Nat.left_eq_add, Nat.one_ne_zero, Nat.reduceAdd, Nat.reduceLT, Nat.reduceLeDiff, Nat.reduceEqDiff, true_implies, false_implies, implies_true, Option.some.injEq, forall_eq', forall_eq, reduceCtorEq, brT, brF, br_s, i_10, i_01, ib_0_2, ib_1_2, tn_0, tn_1, Int32.le_refl, eq_self, rv_bN, rv_iM, RCM 81, RLY, lit_at hw, mt_0 hτ, Int32.le_refl, g_129 hd1, hI.1, c]
      repeat' (first | exact hz σ hf | refine br2 ?_ ?_)
    · have c : (Int32.ofNat m = 0) ↔ False := iff_false_intro (fun q => z ((of_eq0 (by omega)).mp q))
      simp only [↓rF_I, ↓rF_L, ↓rF_R, ↓rF_N, rO_m, rB_m, ↓rI_m, wI_m, ↓rB2_m, ↓rB3_m, wB2_m, wB3_m, ↓rL_m, wL_m, ↓rQ_m, wQ_m, ↓lI_m, pI_m, pL_m, pR_m, sI_m, sBy_m, sBo_m, sL_m, sQ_m, fst_m, true_and, and_true, tg_some, ln_some, uI_1, uI_2, uL_1, uL_2, uL_3, uQ_1, uQ_2, uQ_3, rv_i, rv_l, rv_n, rv_b0, rv_b1, RMR, ne_eq, reduceCtorEq, not_false_eq_true, Option.getD_some, if_true, if_false, and_self, false_and, and_false, Nat.add_left_cancel_iff, Nat.add_eq_left, Nat.left_eq_add, Nat.one_ne_zero, Nat.reduceAdd, Nat.reduceLT, Nat.reduceLeDiff, Nat.reduceEqDiff, true_implies, false_implies, implies_true, Option.some.injEq, forall_eq', forall_eq, reduceCtorEq, brT, brF, br_s, i_10, i_01, ib_0_2, ib_1_2, tn_0, tn_1, Int32.le_refl, eq_self, rv_bN, rv_iM, RCM 81, RLY, lit_at hw, mt_0 hτ, Int32.le_refl, g_129 hd1, hI.1, c]
      refine br2 (hz σ hf) ?_
      have f1 : frZ σ (uL (uI σ 81 26 (Int32.ofNat aim)) 81 32 0) := frZ_tr (frZ_0 (by omega)) (frZ_L (by omega))
      have I1 : oI (uL (uI σ 81 26 (Int32.ofNat aim)) 81 32 0) τ ρ m := ⟨by rw [uL_1, uI_1, if_neg (by omega)]; exact hI.1, hI.2.1, fun i hi => by rw [uL_1, uI_1, if_neg (by omega)]; exact hI.2.2 i hi⟩
      refine s_218 (aim := aim) (m := m) hw hv hr ha m 0 0 0 0 0 1 _ (by omega) (sm_o (fun i hi => by unfold unB; rw [Nat.zero_testBit]; rfl)) (by omega) (by omega) (by omega) (by omega) (by omega) (by omega) (mT_c hτ (f1.1 83 (by omega) (by omega))) (mR_c hρ (f1.1 85 (by omega) (by omega))) (by rw [uL_1, uI_1, if_pos ⟨rfl, rfl⟩]) I1 (Or.inl (by simp only [uL_2, and_self, if_true])) (fun σ' f P => ?_) (by omega)
      exact hy σ' m (frZ_tr hf (frZ_tr f1 (frO_Z f))) (oI_c I1 f) P
  | succ r ih =>
    intro l m σ a3 hl hf hI
    have hτ := mT_c hτ0 (hf.1 83 (by omega) (by omega))
    have hρ := mR_c hρ0 (hf.1 85 (by omega) (by omega))
    have m6 := hI.2.1
    have lf := left_lt hr (by omega : l < τ 0)
    have l1 : (Int32.ofNat (τ 0) ≤ Int32.ofNat l) ↔ False := iff_false_intro (fun q => absurd ((on_le (by omega) (by omega)).mp q) (by omega))
    have nx := fun a3 => ih (l + 1) m σ a3 (by omega) hf hI
    refine b219_39 ?_
    by_cases z : ρ (12 + l) = 0
    · have c : (Int32.ofNat (ρ (12 + l)) ≤ 0) ↔ True := iff_true_intro ((of_le0 (by omega)).mpr z)
      simp only [↓rF_I, ↓rF_L, ↓rF_R, ↓rF_N, rO_m, rB_m, ↓rI_m, wI_m, ↓rB2_m, ↓rB3_m, wB2_m, wB3_m, ↓rL_m, wL_m, ↓rQ_m, wQ_m, ↓lI_m, pI_m, pL_m, pR_m, sI_m, sBy_m, sBo_m, sL_m, sQ_m, fst_m, true_and, and_true, tg_some, ln_some, uI_1, uI_2, uL_1, uL_2, uL_3, uQ_1, uQ_2, uQ_3, rv_i, rv_l, rv_n, rv_b0, rv_b1, RMR, ne_eq, reduceCtorEq, not_false_eq_true, Option.getD_some, if_true, if_false, and_self, false_and, and_false, Nat.add_left_cancel_iff, Nat.add_eq_left, Nat.left_eq_add, Nat.one_ne_zero, Nat.reduceAdd, Nat.reduceLT, Nat.reduceLeDiff, Nat.reduceEqDiff, true_implies, false_implies, implies_true, Option.some.injEq, forall_eq', forall_eq, reduceCtorEq, brT, brF, br_s, i_10, i_01, ib_0_2, ib_1_2, tn_0, tn_1, Int32.le_refl, eq_self, rv_bN, rv_iM, RCM 81, RLY, lit_at hw, ad_2, ad_4, ad_6, ad_8, ad_10, ad_12, ad_16, ad_24, ad_27, ad_28, ad_31, ad_35, ad_43, ad_51, ad_107, ad_131, ad_311, ml_3, ml_6, ml_7, ml_60, ml_100, ml_2471, mq_12, ar_2, ar_3, ar_4, ar_5, ar_6, of_add, of_mul, on_succ, mt_0 hτ, l1, mr hρ (by omega : 12 + l < 2471), c]
      exact br2 (nx _) (nx _)
    · have c : (Int32.ofNat (ρ (12 + l)) ≤ 0) ↔ False := iff_false_intro (fun q => z ((of_le0 (by omega)).mp q))
      by_cases y : m < 6
      · have c6 : ((6 : Int32) ≤ Int32.ofNat m) ↔ False := iff_false_intro (fun q => absurd ((on_le (i := 6) (by omega) (by omega)).mp q) (by omega))
        simp only [↓rF_I, ↓rF_L, ↓rF_R, ↓rF_N, rO_m, rB_m, ↓rI_m, wI_m, ↓rB2_m, ↓rB3_m, wB2_m, wB3_m, ↓rL_m, wL_m, ↓rQ_m, wQ_m, ↓lI_m, pI_m, pL_m, pR_m, sI_m, sBy_m, sBo_m, sL_m, sQ_m, fst_m, true_and, and_true, tg_some, ln_some, uI_1, uI_2, uL_1, uL_2, uL_3, uQ_1, uQ_2, uQ_3, rv_i, rv_l, rv_n, rv_b0, rv_b1, RMR, ne_eq, reduceCtorEq, not_false_eq_true, Option.getD_some, if_true, if_false, and_self, false_and, and_false, Nat.add_left_cancel_iff, Nat.add_eq_left, Nat.left_eq_add, Nat.one_ne_zero, Nat.reduceAdd, Nat.reduceLT, Nat.reduceLeDiff, Nat.reduceEqDiff, true_implies, false_implies, implies_true, Option.some.injEq, forall_eq', forall_eq, reduceCtorEq, brT, brF, br_s, i_10, i_01, ib_0_2, ib_1_2, tn_0, tn_1, Int32.le_refl, eq_self, rv_bN, rv_iM, RCM 81, RLY, lit_at hw, ad_2, ad_4, ad_6, ad_8, ad_10, ad_12, ad_16, ad_24, ad_27, ad_28, ad_31, ad_35, ad_43, ad_51, ad_107, ad_131, ad_311, ml_3, ml_6, ml_7, ml_60, ml_100, ml_2471, mq_12, ar_2, ar_3, ar_4, ar_5, ar_6, of_add, of_mul, on_succ, mt_0 hτ, l1, mr hρ (by omega : 12 + l < 2471), c, hI.1, c6, ix (by omega : m < 6) (by omega)]
        refine br2 (nx _) (ih (l + 1) (m + 1) _ _ (by omega) (frZ_tr hf (frZ_tr (frZ_I (by omega)) (frZ_0 (by omega)))) ⟨by rw [uI_1, if_pos ⟨rfl, rfl⟩], by omega, fun i hi => ?_⟩)
        rw [uI_1, if_neg (by omega), uI_1]
        by_cases x : i = m
        · rw [if_pos ⟨rfl, x⟩]; exact ⟨l, by omega, by omega, rfl⟩
        · rw [if_neg (fun q => x q.2)]; exact hI.2.2 i (by omega)
      · have c6 : ((6 : Int32) ≤ Int32.ofNat m) ↔ True := iff_true_intro ((on_le (i := 6) (by omega) (by omega)).mpr (by omega))
        simp only [↓rF_I, ↓rF_L, ↓rF_R, ↓rF_N, rO_m, rB_m, ↓rI_m, wI_m, ↓rB2_m, ↓rB3_m, wB2_m, wB3_m, ↓rL_m, wL_m, ↓rQ_m, wQ_m, ↓lI_m, pI_m, pL_m, pR_m, sI_m, sBy_m, sBo_m, sL_m, sQ_m, fst_m, true_and, and_true, tg_some, ln_some, uI_1, uI_2, uL_1, uL_2, uL_3, uQ_1, uQ_2, uQ_3, rv_i, rv_l, rv_n, rv_b0, rv_b1, RMR, ne_eq, reduceCtorEq, not_false_eq_true, Option.getD_some, if_true, if_false, and_self, false_and, and_false, Nat.add_left_cancel_iff, Nat.add_eq_left, Nat.left_eq_add, Nat.one_ne_zero, Nat.reduceAdd, Nat.reduceLT, Nat.reduceLeDiff, Nat.reduceEqDiff, true_implies, false_implies, implies_true, Option.some.injEq, forall_eq', forall_eq, reduceCtorEq, brT, brF, br_s, i_10, i_01, ib_0_2, ib_1_2, tn_0, tn_1, Int32.le_refl, eq_self, rv_bN, rv_iM, RCM 81, RLY, lit_at hw, ad_2, ad_4, ad_6, ad_8, ad_10, ad_12, ad_16, ad_24, ad_27, ad_28, ad_31, ad_35, ad_43, ad_51, ad_107, ad_131, ad_311, ml_3, ml_6, ml_7, ml_60, ml_100, ml_2471, mq_12, ar_2, ar_3, ar_4, ar_5, ar_6, of_add, of_mul, on_succ, mt_0 hτ, l1, mr hρ (by omega : 12 + l < 2471), c, hI.1, c6]
        exact br2 (nx _) (nx _)
theorem s_219 {w : mT} {σ : mS} {τ ρ : Rw} {lots aim : Int32} {D : Nat} {K : Int32 → Hp → Prop} (hw : lit w) (hτ : mTold σ τ) (hρ : mRow σ 85 0 ρ) (hv : vTold τ) (hr : vRow τ ρ) (hz : ∀ σ', frZ σ σ' → K 0 (mW w σ')) (hy : ∀ σ' m, frZ σ σ' → oI σ' τ ρ m → oP σ' → K 1 (mW w σ')) (hD : 8 ≤ D) : wpI D 219 [.ref 81, .int lots, .int aim] (mW w σ) K := by
  refine sI_of (m := 7) (fun d hd Q hQ => ?_) rfl hD
  have hd1 : 1 ≤ d := by omega
  have fin0 := hQ _ _ (hz σ frZ_rf)
  refine b219_0 ?_
  by_cases y : 0 ≤ aim.toInt ∧ aim.toInt ≤ 999
  · obtain ⟨a, rfl, ha⟩ := ex_on (a := aim) (n := 1000) ⟨y.1, by omega⟩
    simp only [↓rF_I, ↓rF_L, ↓rF_R, ↓rF_N, rO_m, rB_m, ↓rI_m, wI_m, ↓rB2_m, ↓rB3_m, wB2_m, wB3_m, ↓rL_m, wL_m, ↓rQ_m, wQ_m, ↓lI_m, pI_m, pL_m, pR_m, sI_m, sBy_m, sBo_m, sL_m, sQ_m, fst_m, true_and, and_true, tg_some, ln_some, uI_1, uI_2, uL_1, uL_2, uL_3, uQ_1, uQ_2, uQ_3, rv_i, rv_l, rv_n, rv_b0, rv_b1, RMR, ne_eq, reduceCtorEq, not_false_eq_true, Option.getD_some, if_true, if_false, and_self, false_and, and_false, Nat.add_left_cancel_iff, Nat.add_eq_left, Nat.left_eq_add, Nat.one_ne_zero, Nat.reduceAdd, Nat.reduceLT, Nat.reduceLeDiff, Nat.reduceEqDiff, true_implies, false_implies, implies_true, Option.some.injEq, forall_eq', forall_eq, reduceCtorEq, brT, brF, br_s, i_10, i_01, ib_0_2, ib_1_2, tn_0, tn_1, Int32.le_refl, eq_self, rv_bN, rv_iM, RCM 81, RLY, lit_at hw, mt_0 hτ, g_129 hd1, vin_999, iB_t y, z10]
    have f1 : frZ σ (uI σ 81 27 0) := frZ_0 (by omega)
    refine br2 fin0 (br2 ?_ fin0)
    exact lp_219 hw (mT_c hτ (f1.1 83 (by omega) (by omega))) (mR_c hρ (f1.1 85 (by omega) (by omega))) hv hr (by omega) hd (fun σ' f => hQ _ _ (hz σ' (frZ_tr f1 f))) (fun σ' m f I P => hQ _ _ (hy σ' m (frZ_tr f1 f) I P)) (τ 0) 0 0 (uI σ 81 27 0) 0 (by omega) frZ_rf ⟨by rw [uI_1, if_pos ⟨rfl, rfl⟩]; rfl, by omega, fun i hi => by omega⟩
  · simp only [↓rF_I, ↓rF_L, ↓rF_R, ↓rF_N, rO_m, rB_m, ↓rI_m, wI_m, ↓rB2_m, ↓rB3_m, wB2_m, wB3_m, ↓rL_m, wL_m, ↓rQ_m, wQ_m, ↓lI_m, pI_m, pL_m, pR_m, sI_m, sBy_m, sBo_m, sL_m, sQ_m, fst_m, true_and, and_true, tg_some, ln_some, uI_1, uI_2, uL_1, uL_2, uL_3, uQ_1, uQ_2, uQ_3, rv_i, rv_l, rv_n, rv_b0, rv_b1, RMR, ne_eq, reduceCtorEq, not_false_eq_true, Option.getD_some, if_true, if_false, and_self, false_and, and_false, Nat.add_left_cancel_iff, Nat.add_eq_left, Nat.left_eq_add, Nat.one_ne_zero, Nat.reduceAdd, Nat.reduceLT, Nat.reduceLeDiff, Nat.reduceEqDiff, true_implies, false_implies, implies_true, Option.some.injEq, forall_eq', forall_eq, reduceCtorEq, brT, brF, br_s, i_10, i_01, ib_0_2, ib_1_2, tn_0, tn_1, Int32.le_refl, eq_self, rv_bN, rv_iM, RCM 81, RLY, lit_at hw, mt_0 hτ, g_129 hd1, vin_999, iB_f y, z00]
    repeat' (first | exact fin0 | refine br2 ?_ ?_)
theorem m_220 {w : mT} {σ : mS} {tp n : Nat} {t : Nat → Nat} {τ ρ : Rw} {bk : Nat → Rw} {has : Nat → Bool} {im : Nat → Rw} {a b c : Int32} {D : Nat} {K : Int32 → Hp → Prop} (h : mIn w σ tp t τ ρ n bk has im) (hK : ∀ v σ', frA σ σ' → mIn w σ' tp t τ ρ n bk has im → K v (mW w σ')) (hD : 9 ≤ D) : wpI D 220 [.ref 81, .int a, .int b, .int c] (mW w σ) K := by
  have M := h
  obtain ⟨hw, hτ, hρ, hv, hr, hp2, htp, htb, htl, hn, hn12, hbk, him⟩ := h
  have M0 := mIn_Z M (frZ_0 (j := 0) (x := 0) (by omega))
  obtain ⟨_, hτ0, hρ0, _, _, hp20, _, htb0, _, hn0, _, hbk0, him0⟩ := M0
  have M0 := mIn_Z M (frZ_0 (j := 0) (x := 0) (by omega))
  refine sI_of (m := 8) (fun d hd Q hQ => ?_) rfl hD
  have hd1 : 1 ≤ d := by omega
  have fin := fun (v : Int32) σ' (f : frZ (uI σ 81 0 0) σ') => hQ _ _ (hK v σ' (frZ_A (frZ_tr (frZ_0 (by omega)) f)) (mIn_Z M (frZ_tr (frZ_0 (by omega)) f)))
  refine b220_0 ?_
  have q : ∀ K2 : Int32 → Hp → Prop, (∀ σ', frZ (uI σ 81 0 0) σ' → K2 0 (mW w σ')) → (∀ σ' m, frZ (uI σ 81 0 0) σ' → oI σ' τ ρ m → oP σ' → K2 1 (mW w σ')) → wpI d 219 [.ref 81, .int a, .int b] (mW w (uI σ 81 0 0)) K2 := fun K2 z y => s_219 hw hτ0 hρ0 hv hr z y hd
  simp only [↓br_pos, ↓br_neg, ↓rF_I, ↓rF_L, ↓rF_R, ↓rF_N, rO_m, rB_m, ↓rI_m, wI_m, ↓rB2_m, ↓rB3_m, wB2_m, wB3_m, ↓rL_m, wL_m, ↓rQ_m, wQ_m, ↓lI_m, pI_m, pL_m, pR_m, sI_m, sBy_m, sBo_m, sL_m, sQ_m, fst_m, true_and, and_true, tg_some, ln_some, uI_1, uI_2, uL_1, uL_2, uL_3, uQ_1, uQ_2, uQ_3, rv_i, rv_l, rv_n, rv_b0, rv_b1, RMR, ne_eq, reduceCtorEq, not_false_eq_true, Option.getD_some, if_true, if_false, and_self, false_and, and_false, Nat.add_left_cancel_iff, Nat.add_eq_left, Nat.left_eq_add, Nat.one_ne_zero, Nat.reduceAdd, Nat.reduceLT, Nat.reduceLeDiff, Nat.reduceEqDiff, true_implies, false_implies, implies_true, Option.some.injEq, forall_eq', forall_eq, reduceCtorEq, brT, brF, br_s, i_10, i_01, ib_0_2, ib_1_2, tn_0, tn_1, Int32.le_refl, eq_self, rv_bN, rv_iM, RCM 81, RLY, lit_at hw]
  refine q _ (fun σ' f => ?_) (fun σ' m f I P => ?_)
  · simp only [↓br_pos, ↓br_neg, ↓rF_I, ↓rF_L, ↓rF_R, ↓rF_N, rO_m, rB_m, ↓rI_m, wI_m, ↓rB2_m, ↓rB3_m, wB2_m, wB3_m, ↓rL_m, wL_m, ↓rQ_m, wQ_m, ↓lI_m, pI_m, pL_m, pR_m, sI_m, sBy_m, sBo_m, sL_m, sQ_m, fst_m, true_and, and_true, tg_some, ln_some, uI_1, uI_2, uL_1, uL_2, uL_3, uQ_1, uQ_2, uQ_3, rv_i, rv_l, rv_n, rv_b0, rv_b1, RMR, ne_eq, reduceCtorEq, not_false_eq_true, Option.getD_some, if_true, if_false, and_self, false_and, and_false, Nat.add_left_cancel_iff, Nat.add_eq_left, Nat.left_eq_add, Nat.one_ne_zero, Nat.reduceAdd, Nat.reduceLT, Nat.reduceLeDiff, Nat.reduceEqDiff, true_implies, false_implies, implies_true, Option.some.injEq, forall_eq', forall_eq, reduceCtorEq, brT, brF, br_s, i_10, i_01, ib_0_2, ib_1_2, tn_0, tn_1, Int32.le_refl, eq_self, rv_bN, rv_iM, z00]
    exact fin _ σ' f
  · have m6 := I.2.1
    have vb := vin_n (a := c) (n := m) (by omega)
    rcases bN_01 (a := c) (n := m) with z | z
    · rw [z] at vb
      simp only [↓br_pos, ↓br_neg, ↓rF_I, ↓rF_L, ↓rF_R, ↓rF_N, rO_m, rB_m, ↓rI_m, wI_m, ↓rB2_m, ↓rB3_m, wB2_m, wB3_m, ↓rL_m, wL_m, ↓rQ_m, wQ_m, ↓lI_m, pI_m, pL_m, pR_m, sI_m, sBy_m, sBo_m, sL_m, sQ_m, fst_m, true_and, and_true, tg_some, ln_some, uI_1, uI_2, uL_1, uL_2, uL_3, uQ_1, uQ_2, uQ_3, rv_i, rv_l, rv_n, rv_b0, rv_b1, RMR, ne_eq, reduceCtorEq, not_false_eq_true, Option.getD_some, if_true, if_false, and_self, false_and, and_false, Nat.add_left_cancel_iff, Nat.add_eq_left, Nat.left_eq_add, Nat.one_ne_zero, Nat.reduceAdd, Nat.reduceLT, Nat.reduceLeDiff, Nat.reduceEqDiff, true_implies, false_implies, implies_true, Option.some.injEq, forall_eq', forall_eq, reduceCtorEq, brT, brF, br_s, i_10, i_01, ib_0_2, ib_1_2, tn_0, tn_1, Int32.le_refl, eq_self, rv_bN, rv_iM, RCM 81, RLY, lit_at hw, z10, z00, I.1, g_129 hd1, vb]
      exact fin _ σ' f
    · rw [z] at vb
      obtain ⟨i, rfl, hi⟩ := bN_ex z
      simp only [↓br_pos, ↓br_neg, ↓rF_I, ↓rF_L, ↓rF_R, ↓rF_N, rO_m, rB_m, ↓rI_m, wI_m, ↓rB2_m, ↓rB3_m, wB2_m, wB3_m, ↓rL_m, wL_m, ↓rQ_m, wQ_m, ↓lI_m, pI_m, pL_m, pR_m, sI_m, sBy_m, sBo_m, sL_m, sQ_m, fst_m, true_and, and_true, tg_some, ln_some, uI_1, uI_2, uL_1, uL_2, uL_3, uQ_1, uQ_2, uQ_3, rv_i, rv_l, rv_n, rv_b0, rv_b1, RMR, ne_eq, reduceCtorEq, not_false_eq_true, Option.getD_some, if_true, if_false, and_self, false_and, and_false, Nat.add_left_cancel_iff, Nat.add_eq_left, Nat.left_eq_add, Nat.one_ne_zero, Nat.reduceAdd, Nat.reduceLT, Nat.reduceLeDiff, Nat.reduceEqDiff, true_implies, false_implies, implies_true, Option.some.injEq, forall_eq', forall_eq, reduceCtorEq, brT, brF, br_s, i_10, i_01, ib_0_2, ib_1_2, tn_0, tn_1, Int32.le_refl, eq_self, rv_bN, rv_iM, RCM 81, RLY, lit_at hw, z10, I.1, g_129 hd1, vb, ix (by omega : i < 6) (by omega)]
      exact fin _ σ' f
theorem m_221 {w : mT} {σ : mS} {tp n : Nat} {t : Nat → Nat} {τ ρ : Rw} {bk : Nat → Rw} {has : Nat → Bool} {im : Nat → Rw} {a b : Int32} {D : Nat} {K : Int64 → Hp → Prop} (h : mIn w σ tp t τ ρ n bk has im) (hK : ∀ v σ', frA σ σ' → mIn w σ' tp t τ ρ n bk has im → K v (mW w σ')) (hD : 9 ≤ D) : wpL D 221 [.ref 81, .int a, .int b] (mW w σ) K := by
  have M := h
  obtain ⟨hw, hτ, hρ, hv, hr, hp2, htp, htb, htl, hn, hn12, hbk, him⟩ := h
  have M0 := mIn_Z M (frZ_0 (j := 0) (x := 0) (by omega))
  obtain ⟨_, hτ0, hρ0, _, _, hp20, _, htb0, _, hn0, _, hbk0, him0⟩ := M0
  have M0 := mIn_Z M (frZ_0 (j := 0) (x := 0) (by omega))
  refine sL_of (m := 8) (fun d hd Q hQ => ?_) rfl hD
  have hd1 : 1 ≤ d := by omega
  have fin := fun (v : Int64) σ' (f : frZ (uI σ 81 0 0) σ') => hQ _ _ (hK v σ' (frZ_A (frZ_tr (frZ_0 (by omega)) f)) (mIn_Z M (frZ_tr (frZ_0 (by omega)) f)))
  refine b221_0 ?_
  have q : ∀ K2 : Int32 → Hp → Prop, (∀ σ', frZ (uI σ 81 0 0) σ' → K2 0 (mW w σ')) → (∀ σ' m, frZ (uI σ 81 0 0) σ' → oI σ' τ ρ m → oP σ' → K2 1 (mW w σ')) → wpI d 219 [.ref 81, .int a, .int b] (mW w (uI σ 81 0 0)) K2 := fun K2 z y => s_219 hw hτ0 hρ0 hv hr z y hd
  simp only [↓br_pos, ↓br_neg, ↓rF_I, ↓rF_L, ↓rF_R, ↓rF_N, rO_m, rB_m, ↓rI_m, wI_m, ↓rB2_m, ↓rB3_m, wB2_m, wB3_m, ↓rL_m, wL_m, ↓rQ_m, wQ_m, ↓lI_m, pI_m, pL_m, pR_m, sI_m, sBy_m, sBo_m, sL_m, sQ_m, fst_m, true_and, and_true, tg_some, ln_some, uI_1, uI_2, uL_1, uL_2, uL_3, uQ_1, uQ_2, uQ_3, rv_i, rv_l, rv_n, rv_b0, rv_b1, RMR, ne_eq, reduceCtorEq, not_false_eq_true, Option.getD_some, if_true, if_false, and_self, false_and, and_false, Nat.add_left_cancel_iff, Nat.add_eq_left, Nat.left_eq_add, Nat.one_ne_zero, Nat.reduceAdd, Nat.reduceLT, Nat.reduceLeDiff, Nat.reduceEqDiff, true_implies, false_implies, implies_true, Option.some.injEq, forall_eq', forall_eq, reduceCtorEq, brT, brF, br_s, i_10, i_01, ib_0_2, ib_1_2, tn_0, tn_1, Int32.le_refl, eq_self, rv_bN, rv_iM, RCM 81, RLY, lit_at hw]
  refine q _ (fun σ' f => ?_) (fun σ' m f I P => ?_)
  · simp only [↓br_pos, ↓br_neg, ↓rF_I, ↓rF_L, ↓rF_R, ↓rF_N, rO_m, rB_m, ↓rI_m, wI_m, ↓rB2_m, ↓rB3_m, wB2_m, wB3_m, ↓rL_m, wL_m, ↓rQ_m, wQ_m, ↓lI_m, pI_m, pL_m, pR_m, sI_m, sBy_m, sBo_m, sL_m, sQ_m, fst_m, true_and, and_true, tg_some, ln_some, uI_1, uI_2, uL_1, uL_2, uL_3, uQ_1, uQ_2, uQ_3, rv_i, rv_l, rv_n, rv_b0, rv_b1, RMR, ne_eq, reduceCtorEq, not_false_eq_true, Option.getD_some, if_true, if_false, and_self, false_and, and_false, Nat.add_left_cancel_iff, Nat.add_eq_left, Nat.left_eq_add, Nat.one_ne_zero, Nat.reduceAdd, Nat.reduceLT, Nat.reduceLeDiff, Nat.reduceEqDiff, true_implies, false_implies, implies_true, Option.some.injEq, forall_eq', forall_eq, reduceCtorEq, brT, brF, br_s, i_10, i_01, ib_0_2, ib_1_2, tn_0, tn_1, Int32.le_refl, eq_self, rv_bN, rv_iM, z00]
    exact fin _ σ' f
  · obtain ⟨x, y, ex, ey, hy0, hx1, hy1⟩ := P
    have gp := Nat.gcd_pos_of_pos_right x hy0
    have gl : Nat.gcd x y ≤ y := Nat.gcd_le_right x hy0
    have cg : (Int64.ofNat (Nat.gcd x y) = 0) ↔ False := iff_false_intro (fun q => absurd ((ol_inj (b := 0) (by omega) (by omega)).mp q) (by omega))
    simp only [↓br_pos, ↓br_neg, ↓rF_I, ↓rF_L, ↓rF_R, ↓rF_N, rO_m, rB_m, ↓rI_m, wI_m, ↓rB2_m, ↓rB3_m, wB2_m, wB3_m, ↓rL_m, wL_m, ↓rQ_m, wQ_m, ↓lI_m, pI_m, pL_m, pR_m, sI_m, sBy_m, sBo_m, sL_m, sQ_m, fst_m, true_and, and_true, tg_some, ln_some, uI_1, uI_2, uL_1, uL_2, uL_3, uQ_1, uQ_2, uQ_3, rv_i, rv_l, rv_n, rv_b0, rv_b1, RMR, ne_eq, reduceCtorEq, not_false_eq_true, Option.getD_some, if_true, if_false, and_self, false_and, and_false, Nat.add_left_cancel_iff, Nat.add_eq_left, Nat.left_eq_add, Nat.one_ne_zero, Nat.reduceAdd, Nat.reduceLT, Nat.reduceLeDiff, Nat.reduceEqDiff, true_implies, false_implies, implies_true, Option.some.injEq, forall_eq', forall_eq, reduceCtorEq, brT, brF, br_s, i_10, i_01, ib_0_2, ib_1_2, tn_0, tn_1, Int32.le_refl, eq_self, rv_bN, rv_iM, RCM 81, RLY, lit_at hw, z10, ex, ey, g_207 (by omega : x < 9223372036854775808) (by omega : y < 9223372036854775808) hd1, cg]
    exact fin _ _ (frZ_tr f (frZ_L (by omega)))
def ckV (s : Nat) : Bool := decide ((Int32.ofNat s >>> (Int32.ofNat (ctz 12 s) &&& 31)) &&& (1 : Int32) = 1)
set_option maxRecDepth 100000 in
theorem ckV_all : ckA ckV 4095 = true := by decide +kernel
theorem ctz_b {s : Nat} (h1 : 1 ≤ s) (h2 : s < 4096) : (Int32.ofNat s >>> (Int32.ofNat (ctz 12 s) &&& 31)) &&& (1 : Int32) = 1 := of_decide_eq_true (ckA_t ckV_all s h1 (by omega))
theorem ctz_l {s L : Nat} (h1 : 1 ≤ s) (h2 : s < 4096) (h3 : s < 2 ^ L) : ctz 12 s < L := by
  obtain ⟨_, _, ka, _, _⟩ := nz_all h1 h2
  have pk : 0 < 2 ^ ctz 12 s := Nat.pow_pos (by omega)
  have k1 : 2 ^ ctz 12 s ≤ s := Decidable.byContradiction (fun q => by rw [Nat.mod_eq_of_lt (by omega)] at ka; omega)
  apply Decidable.byContradiction
  intro q
  have := Nat.pow_le_pow_right (n := 2) (by omega) (by omega : L ≤ ctz 12 s)
  omega
theorem s_190 {w : mT} {σ : mS} {τ : Rw} {s D : Nat} {a b : Int32} {K : Int32 → Hp → Prop} (hw : lit w) (hτ : mTold σ τ) (hs : s < 8) (hK : ∀ x, K x (mW w σ)) (hD : 2 ≤ D) : wpI D 190 [.ref 81, .int (Int32.ofNat s), .int a, .int b] (mW w σ) K := by
  refine sI_of (m := 1) (fun d hd Q hQ => ?_) rfl hD
  have fin := fun x : Int32 => hQ _ _ (hK x)
  have g1 := fun {K : Int32 → Hp → Prop} => g_155 (K := K) (s := s) (x := 1) (a := 1) hw hτ rfl (by omega) hd
  have g2 := fun {K : Int32 → Hp → Prop} => g_155 (K := K) (s := s) (x := 2) (a := 2) hw hτ rfl (by omega) hd
  refine b190_0 ?_
  simp only [↓rF_I, ↓rF_L, ↓rF_R, ↓rF_N, rO_m, rB_m, ↓rI_m, wI_m, ↓rB2_m, ↓rB3_m, wB2_m, wB3_m, ↓rL_m, wL_m, ↓rQ_m, wQ_m, ↓lI_m, pI_m, pL_m, pR_m, sI_m, sBy_m, sBo_m, sL_m, sQ_m, fst_m, true_and, and_true, tg_some, ln_some, uI_1, uI_2, uL_1, uL_2, uL_3, uQ_1, uQ_2, uQ_3, rv_i, rv_l, rv_n, rv_b0, rv_b1, RMR, ne_eq, reduceCtorEq, not_false_eq_true, Option.getD_some, if_true, if_false, and_self, false_and, and_false, Nat.add_left_cancel_iff, Nat.add_eq_left, Nat.left_eq_add, Nat.one_ne_zero, Nat.reduceAdd, Nat.reduceLT, Nat.reduceLeDiff, Nat.reduceEqDiff, true_implies, false_implies, implies_true, Option.some.injEq, forall_eq', forall_eq, reduceCtorEq, brT, brF, br_s, i_10, i_01, ib_0_2, ib_1_2, tn_0, tn_1, Int32.le_refl, eq_self, rv_bN, rv_iM, RCM 81, RLY, lit_at hw, g1, g2]
  repeat' (first | exact fin _ | refine br2 ?_ ?_)
theorem lp_225 {hp : Hp} {d : Nat} {a : Int32} {Q : Option (Option Value) → Hp → Prop} (hQ : ∀ x : Int32, Q (some (some (.int x))) hp) : ∀ (r i : Nat) (x : Int32), i + r = 12 → Wp 225 4 [.int a, .int x, .int (Int32.ofNat i)] [] hp Q d := by
  intro r
  induction r with
  | zero =>
    intro i x hi
    have hi' : i = 12 := by omega
    subst hi'
    have c : ((12 : Int32) ≤ Int32.ofNat 12) ↔ True := by decide
    refine b225_4 ?_
    simp only [↓br_pos, ↓br_neg, ↓rF_I, ↓rF_L, ↓rF_R, ↓rF_N, rO_m, rB_m, ↓rI_m, wI_m, ↓rB2_m, ↓rB3_m, wB2_m, wB3_m, ↓rL_m, wL_m, ↓rQ_m, wQ_m, ↓lI_m, pI_m, pL_m, pR_m, sI_m, sBy_m, sBo_m, sL_m, sQ_m, fst_m, true_and, and_true, tg_some, ln_some, uI_1, uI_2, uL_1, uL_2, uL_3, uQ_1, uQ_2, uQ_3, rv_i, rv_l, rv_n, rv_b0, rv_b1, RMR, ne_eq, reduceCtorEq, not_false_eq_true, Option.getD_some, if_true, if_false, and_self, false_and, and_false, Nat.add_left_cancel_iff, Nat.add_eq_left, Nat.left_eq_add, Nat.one_ne_zero, Nat.reduceAdd, Nat.reduceLT, Nat.reduceLeDiff, Nat.reduceEqDiff, true_implies, false_implies, implies_true, Option.some.injEq, forall_eq', forall_eq, reduceCtorEq, brT, brF, br_s, i_10, i_01, ib_0_2, ib_1_2, tn_0, tn_1, Int32.le_refl, eq_self, rv_bN, rv_iM, c]
    exact hQ x
  | succ r ih =>
    intro i x hi
    have c : ((12 : Int32) ≤ Int32.ofNat i) ↔ False := iff_false_intro (fun q => absurd ((on_le (i := 12) (by omega) (by omega)).mp q) (by omega))
    refine b225_4 ?_
    simp only [↓br_pos, ↓br_neg, ↓rF_I, ↓rF_L, ↓rF_R, ↓rF_N, rO_m, rB_m, ↓rI_m, wI_m, ↓rB2_m, ↓rB3_m, wB2_m, wB3_m, ↓rL_m, wL_m, ↓rQ_m, wQ_m, ↓lI_m, pI_m, pL_m, pR_m, sI_m, sBy_m, sBo_m, sL_m, sQ_m, fst_m, true_and, and_true, tg_some, ln_some, uI_1, uI_2, uL_1, uL_2, uL_3, uQ_1, uQ_2, uQ_3, rv_i, rv_l, rv_n, rv_b0, rv_b1, RMR, ne_eq, reduceCtorEq, not_false_eq_true, Option.getD_some, if_true, if_false, and_self, false_and, and_false, Nat.add_left_cancel_iff, Nat.add_eq_left, Nat.left_eq_add, Nat.one_ne_zero, Nat.reduceAdd, Nat.reduceLT, Nat.reduceLeDiff, Nat.reduceEqDiff, true_implies, false_implies, implies_true, Option.some.injEq, forall_eq', forall_eq, reduceCtorEq, brT, brF, br_s, i_10, i_01, ib_0_2, ib_1_2, tn_0, tn_1, Int32.le_refl, eq_self, rv_bN, rv_iM, c, on_succ]
    exact ih (i + 1) _ (by omega)
theorem s_225 {hp : Hp} {D : Nat} {a : Int32} {K : Int32 → Hp → Prop} (hK : ∀ x, K x hp) (hD : 1 ≤ D) : wpI D 225 [.int a] hp K := by
  refine sI_of (m := 0) (fun d hd Q hQ => ?_) rfl hD
  exact b225_0 (lp_225 (fun x => hQ _ _ (hK x)) 12 0 0 (by omega))
theorem s_224 {w : mT} {σ : mS} {τ ρ : Rw} {p a b D : Nat} {K : Hp → Prop} (hw : lit w) (hρ : mRow σ 85 0 ρ) (hv : vTold τ) (hr : vRow τ ρ) (hp : p < 1000) (ha : a < 12) (hb : b < 12) (hK : ∀ σ' q, frZ σ σ' → q < 12 → σ'.1 81 36 = Int32.ofNat q → K (mW w σ')) (hD : 2 ≤ D) : wpV D 224 [.ref 81, .int (Int32.ofNat p), .int (Int32.ofNat a), .int (Int32.ofNat b)] (mW w σ) K := by
  refine sV_of (m := 1) (fun d hd Q hQ => ?_) rfl hD
  have hs : ρ 3 < 1000 := onP_lt hv (vR_on hr (by omega : 1 < 2))
  have fin : ∀ (x : Int32) q, q < 12 → Q (some none) (mW w (uI (uI σ 81 35 x) 81 36 (Int32.ofNat q))) := fun x q hq => hQ _ (hK _ q (frZ_tr (frZ_0 (by omega)) (frZ_0 (by omega))) hq (by rw [uI_1, if_pos ⟨rfl, rfl⟩]))
  have g0 : ∀ {K : Int32 → Hp → Prop}, wpI d 170 [.ref 81, .int (1 : Int32), .int (Int32.ofNat p)] (mW w σ) K ↔ K (iB (onAtD ρ 1 p = true)) (mW w σ) := fun {K} => g_170 (m := 1) hw hρ (by omega) hs hp hd
  refine b224_0 ?_
  by_cases ho : onAtD ρ 1 p = true
  · have y0 := (of_decide_eq_true ho).1
    have g1 : ∀ {K : Int32 → Hp → Prop}, wpI d 171 [.ref 81, .int (1 : Int32)] (mW w σ) K ↔ K (Int32.ofNat (cellAt ρ 1)) (mW w σ) := fun {K} => g_171 (m := 1) hw hρ (by omega) y0 hs hd
    simp only [↓rF_I, ↓rF_L, ↓rF_R, ↓rF_N, rO_m, rB_m, ↓rI_m, wI_m, ↓rB2_m, ↓rB3_m, wB2_m, wB3_m, ↓rL_m, wL_m, ↓rQ_m, wQ_m, ↓lI_m, pI_m, pL_m, pR_m, sI_m, sBy_m, sBo_m, sL_m, sQ_m, fst_m, true_and, and_true, tg_some, ln_some, uI_1, uI_2, uL_1, uL_2, uL_3, uQ_1, uQ_2, uQ_3, rv_i, rv_l, rv_n, rv_b0, rv_b1, RMR, ne_eq, reduceCtorEq, not_false_eq_true, Option.getD_some, if_true, if_false, and_self, false_and, and_false, Nat.add_left_cancel_iff, Nat.add_eq_left, Nat.left_eq_add, Nat.one_ne_zero, Nat.reduceAdd, Nat.reduceLT, Nat.reduceLeDiff, Nat.reduceEqDiff, true_implies, false_implies, implies_true, Option.some.injEq, forall_eq', forall_eq, reduceCtorEq, brT, brF, br_s, i_10, i_01, ib_0_2, ib_1_2, tn_0, tn_1, Int32.le_refl, eq_self, rv_bN, rv_iM, RCM 81, RLY, lit_at hw, g0, iB_t ho, z10, g1]
    exact br2 (fin _ a ha) (fin _ b hb)
  · simp only [↓rF_I, ↓rF_L, ↓rF_R, ↓rF_N, rO_m, rB_m, ↓rI_m, wI_m, ↓rB2_m, ↓rB3_m, wB2_m, wB3_m, ↓rL_m, wL_m, ↓rQ_m, wQ_m, ↓lI_m, pI_m, pL_m, pR_m, sI_m, sBy_m, sBo_m, sL_m, sQ_m, fst_m, true_and, and_true, tg_some, ln_some, uI_1, uI_2, uL_1, uL_2, uL_3, uQ_1, uQ_2, uQ_3, rv_i, rv_l, rv_n, rv_b0, rv_b1, RMR, ne_eq, reduceCtorEq, not_false_eq_true, Option.getD_some, if_true, if_false, and_self, false_and, and_false, Nat.add_left_cancel_iff, Nat.add_eq_left, Nat.left_eq_add, Nat.one_ne_zero, Nat.reduceAdd, Nat.reduceLT, Nat.reduceLeDiff, Nat.reduceEqDiff, true_implies, false_implies, implies_true, Option.some.injEq, forall_eq', forall_eq, reduceCtorEq, brT, brF, br_s, i_10, i_01, ib_0_2, ib_1_2, tn_0, tn_1, Int32.le_refl, eq_self, rv_bN, rv_iM, RCM 81, RLY, lit_at hw, g0, iB_f ho, z00]
    exact fin _ b hb
theorem lp_226 {w : mT} {τ ρ : Rw} {s p S d : Nat} {σ0 : mS} {Q : Option (Option Value) → Hp → Prop} (hw : lit w) (hτ0 : mTold σ0 τ) (hρ0 : mRow σ0 85 0 ρ) (hv : vTold τ) (hr : vRow τ ρ) (hs : s < τ 2) (hp : p < τ 1) (hS : 1 ≤ S) (hS2 : S < 2 ^ τ (28 + p)) (hd : 2 ≤ d) (hQ : ∀ (x : Int32) σ', frZ σ0 σ' → Q (some (some (.int x))) (mW w σ')) : ∀ (r c : Nat) (σ : mS) (a4 a5 a6 : Int32), c + r = τ (28 + p) → frZ σ0 σ → ((a4 = -1 ∧ c ≤ ctz 12 S) ∨ ∃ a b, a < 12 ∧ b < 12 ∧ a4 = Int32.ofNat a ∧ a5 = Int32.ofNat b) → Wp 226 33 [.ref 81, .int (Int32.ofNat s), .int (Int32.ofNat p), .int (Int32.ofNat S), .int a4, .int a5, .int a6, .int (Int32.ofNat c)] [] (mW w σ) Q d := by
  have hd1 : 1 ≤ d := by omega
  have v1 := hv.2.1
  have v2 := hv.2.2.1
  have v3 := (hv.2.2.2.2.2.1 p hp).2
  have p12 : 2 ^ τ (28 + p) ≤ 2 ^ 12 := Nat.pow_le_pow_right (by omega) v3
  have cl := ctz_l hS (by omega) hS2
  have cb := ctz_b hS (by omega)
  intro r
  induction r with
  | zero =>
    intro c σ a4 a5 a6 hc hf hx
    have hτ := mT_c hτ0 (hf.1 83 (by omega) (by omega))
    have hρ := mR_c hρ0 (hf.1 85 (by omega) (by omega))
    have hc' : c = τ (28 + p) := by omega
    subst hc'
    obtain ⟨a, b, ha, hb, rfl, rfl⟩ := hx.resolve_left (fun q => by omega)
    have fin := fun x => hQ x σ hf
    refine b226_33 ?_
    simp only [↓rF_I, ↓rF_L, ↓rF_R, ↓rF_N, rO_m, rB_m, ↓rI_m, wI_m, ↓rB2_m, ↓rB3_m, wB2_m, wB3_m, ↓rL_m, wL_m, ↓rQ_m, wQ_m, ↓lI_m, pI_m, pL_m, pR_m, sI_m, sBy_m, sBo_m, sL_m, sQ_m, fst_m, true_and, and_true, tg_some, ln_some, uI_1, uI_2, uL_1, uL_2, uL_3, uQ_1, uQ_2, uQ_3, rv_i, rv_l, rv_n, rv_b0, rv_b1, RMR, ne_eq, reduceCtorEq, not_false_eq_true, Option.getD_some, if_true, if_false, and_self, false_and, and_false, Nat.add_left_cancel_iff, Nat.add_eq_left, Nat.left_eq_add, Nat.one_ne_zero, Nat.reduceAdd, Nat.reduceLT, Nat.reduceLeDiff, Nat.reduceEqDiff, true_implies, false_implies, implies_true, Option.some.injEq, forall_eq', forall_eq, reduceCtorEq, brT, brF, br_s, i_10, i_01, ib_0_2, ib_1_2, tn_0, tn_1, Int32.le_refl, eq_self, rv_bN, rv_iM, RCM 81, RLY, lit_at hw, ad_2, ad_4, ad_6, ad_8, ad_10, ad_12, ad_16, ad_24, ad_27, ad_28, ad_31, ad_35, ad_43, ad_51, ad_107, ad_131, ad_311, ml_3, ml_6, ml_7, ml_60, ml_100, ml_2471, mq_12, ar_2, ar_3, ar_4, ar_5, ar_6, of_add, of_mul, on_succ, mt hτ (by omega : 28 + p < 79), Int32.le_refl]
    refine s_224 hw hρ hv hr (by omega) ha hb (fun σ' q f hq e => ?_) hd
    have hτ' := mT_c hτ (f.1 83 (by omega) (by omega))
    have fin := fun x => hQ x σ' (frZ_tr hf f)
    have g1 := fun {K : Int32 → Hp → Prop} => g_155 (K := K) (s := s) (x := 0) (a := 0) hw hτ' rfl (by omega) hd1
    simp only [↓rF_I, ↓rF_L, ↓rF_R, ↓rF_N, rO_m, rB_m, ↓rI_m, wI_m, ↓rB2_m, ↓rB3_m, wB2_m, wB3_m, ↓rL_m, wL_m, ↓rQ_m, wQ_m, ↓lI_m, pI_m, pL_m, pR_m, sI_m, sBy_m, sBo_m, sL_m, sQ_m, fst_m, true_and, and_true, tg_some, ln_some, uI_1, uI_2, uL_1, uL_2, uL_3, uQ_1, uQ_2, uQ_3, rv_i, rv_l, rv_n, rv_b0, rv_b1, RMR, ne_eq, reduceCtorEq, not_false_eq_true, Option.getD_some, if_true, if_false, and_self, false_and, and_false, Nat.add_left_cancel_iff, Nat.add_eq_left, Nat.left_eq_add, Nat.one_ne_zero, Nat.reduceAdd, Nat.reduceLT, Nat.reduceLeDiff, Nat.reduceEqDiff, true_implies, false_implies, implies_true, Option.some.injEq, forall_eq', forall_eq, reduceCtorEq, brT, brF, br_s, i_10, i_01, ib_0_2, ib_1_2, tn_0, tn_1, Int32.le_refl, eq_self, rv_bN, rv_iM, RCM 81, RLY, lit_at hw, g1, e, ix (by omega : q < 12) (by omega)]
    refine br2 (fin _) (br2 (fin _) ?_)
    refine s_190 hw hτ' (by omega) (fun x => ?_) hd
    exact br2 (fin _) (fin _)
  | succ r ih =>
    intro c σ a4 a5 a6 hc hf hx
    have hτ := mT_c hτ0 (hf.1 83 (by omega) (by omega))
    have l1 : (Int32.ofNat (τ (28 + p)) ≤ Int32.ofNat c) ↔ False := iff_false_intro (fun q => absurd ((on_le (by omega) (by omega)).mp q) (by omega))
    have fin := fun x => hQ x σ hf
    refine b226_33 ?_
    by_cases z : (Int32.ofNat S >>> (Int32.ofNat c &&& 31)) &&& (1 : Int32) = 1
    · rcases hx with ⟨rfl, _⟩ | ⟨a, b, ha, hb, rfl, rfl⟩
      · have c1 : ((-1 : Int32) = -1) ↔ True := iff_true_intro rfl
        simp only [↓rF_I, ↓rF_L, ↓rF_R, ↓rF_N, rO_m, rB_m, ↓rI_m, wI_m, ↓rB2_m, ↓rB3_m, wB2_m, wB3_m, ↓rL_m, wL_m, ↓rQ_m, wQ_m, ↓lI_m, pI_m, pL_m, pR_m, sI_m, sBy_m, sBo_m, sL_m, sQ_m, fst_m, true_and, and_true, tg_some, ln_some, uI_1, uI_2, uL_1, uL_2, uL_3, uQ_1, uQ_2, uQ_3, rv_i, rv_l, rv_n, rv_b0, rv_b1, RMR, ne_eq, reduceCtorEq, not_false_eq_true, Option.getD_some, if_true, if_false, and_self, false_and, and_false, Nat.add_left_cancel_iff, Nat.add_eq_left, Nat.left_eq_add, Nat.one_ne_zero, Nat.reduceAdd, Nat.reduceLT, Nat.reduceLeDiff, Nat.reduceEqDiff, true_implies, false_implies, implies_true, Option.some.injEq, forall_eq', forall_eq, reduceCtorEq, brT, brF, br_s, i_10, i_01, ib_0_2, ib_1_2, tn_0, tn_1, Int32.le_refl, eq_self, rv_bN, rv_iM, RCM 81, RLY, lit_at hw, ad_2, ad_4, ad_6, ad_8, ad_10, ad_12, ad_16, ad_24, ad_27, ad_28, ad_31, ad_35, ad_43, ad_51, ad_107, ad_131, ad_311, ml_3, ml_6, ml_7, ml_60, ml_100, ml_2471, mq_12, ar_2, ar_3, ar_4, ar_5, ar_6, of_add, of_mul, on_succ, mt hτ (by omega : 28 + p < 79), l1, z, ix (by omega : c < 12) (by omega), c1]
        refine br2 (fin _) (b226_116 ?_)
        rw [on_succ]
        exact ih (c + 1) _ _ _ _ (by omega) (frZ_tr hf (frZ_0 (by omega))) (Or.inr ⟨c, c, by omega, by omega, rfl, rfl⟩)
      · have c1 : (Int32.ofNat a = (-1 : Int32)) ↔ False := on_m1 (by omega)
        simp only [↓rF_I, ↓rF_L, ↓rF_R, ↓rF_N, rO_m, rB_m, ↓rI_m, wI_m, ↓rB2_m, ↓rB3_m, wB2_m, wB3_m, ↓rL_m, wL_m, ↓rQ_m, wQ_m, ↓lI_m, pI_m, pL_m, pR_m, sI_m, sBy_m, sBo_m, sL_m, sQ_m, fst_m, true_and, and_true, tg_some, ln_some, uI_1, uI_2, uL_1, uL_2, uL_3, uQ_1, uQ_2, uQ_3, rv_i, rv_l, rv_n, rv_b0, rv_b1, RMR, ne_eq, reduceCtorEq, not_false_eq_true, Option.getD_some, if_true, if_false, and_self, false_and, and_false, Nat.add_left_cancel_iff, Nat.add_eq_left, Nat.left_eq_add, Nat.one_ne_zero, Nat.reduceAdd, Nat.reduceLT, Nat.reduceLeDiff, Nat.reduceEqDiff, true_implies, false_implies, implies_true, Option.some.injEq, forall_eq', forall_eq, reduceCtorEq, brT, brF, br_s, i_10, i_01, ib_0_2, ib_1_2, tn_0, tn_1, Int32.le_refl, eq_self, rv_bN, rv_iM, RCM 81, RLY, lit_at hw, ad_2, ad_4, ad_6, ad_8, ad_10, ad_12, ad_16, ad_24, ad_27, ad_28, ad_31, ad_35, ad_43, ad_51, ad_107, ad_131, ad_311, ml_3, ml_6, ml_7, ml_60, ml_100, ml_2471, mq_12, ar_2, ar_3, ar_4, ar_5, ar_6, of_add, of_mul, on_succ, mt hτ (by omega : 28 + p < 79), l1, z, ix (by omega : c < 12) (by omega), c1]
        refine br2 (fin _) (b226_116 ?_)
        rw [on_succ]
        exact ih (c + 1) _ _ _ _ (by omega) (frZ_tr hf (frZ_0 (by omega))) (Or.inr ⟨a, c, ha, by omega, rfl, rfl⟩)
    · simp only [↓rF_I, ↓rF_L, ↓rF_R, ↓rF_N, rO_m, rB_m, ↓rI_m, wI_m, ↓rB2_m, ↓rB3_m, wB2_m, wB3_m, ↓rL_m, wL_m, ↓rQ_m, wQ_m, ↓lI_m, pI_m, pL_m, pR_m, sI_m, sBy_m, sBo_m, sL_m, sQ_m, fst_m, true_and, and_true, tg_some, ln_some, uI_1, uI_2, uL_1, uL_2, uL_3, uQ_1, uQ_2, uQ_3, rv_i, rv_l, rv_n, rv_b0, rv_b1, RMR, ne_eq, reduceCtorEq, not_false_eq_true, Option.getD_some, if_true, if_false, and_self, false_and, and_false, Nat.add_left_cancel_iff, Nat.add_eq_left, Nat.left_eq_add, Nat.one_ne_zero, Nat.reduceAdd, Nat.reduceLT, Nat.reduceLeDiff, Nat.reduceEqDiff, true_implies, false_implies, implies_true, Option.some.injEq, forall_eq', forall_eq, reduceCtorEq, brT, brF, br_s, i_10, i_01, ib_0_2, ib_1_2, tn_0, tn_1, Int32.le_refl, eq_self, rv_bN, rv_iM, RCM 81, RLY, lit_at hw, ad_2, ad_4, ad_6, ad_8, ad_10, ad_12, ad_16, ad_24, ad_27, ad_28, ad_31, ad_35, ad_43, ad_51, ad_107, ad_131, ad_311, ml_3, ml_6, ml_7, ml_60, ml_100, ml_2471, mq_12, ar_2, ar_3, ar_4, ar_5, ar_6, of_add, of_mul, on_succ, mt hτ (by omega : 28 + p < 79), l1, z]
      refine b226_116 ?_
      rw [on_succ]
      refine ih (c + 1) σ _ _ _ (by omega) hf (hx.imp (fun q => ⟨q.1, ?_⟩) id)
      have : c ≠ ctz 12 S := fun e => z (by rw [e]; exact cb)
      omega
theorem s_226 {w : mT} {σ : mS} {τ ρ : Rw} {s p S D : Nat} {K : Int32 → Hp → Prop} (hw : lit w) (hτ : mTold σ τ) (hρ : mRow σ 85 0 ρ) (hv : vTold τ) (hr : vRow τ ρ) (hs : s < τ 2) (hp : p < τ 1) (hS : 1 ≤ S) (hS2 : S < 2 ^ τ (28 + p)) (hK : ∀ (x : Int32) σ', frZ σ σ' → K x (mW w σ')) (hD : 3 ≤ D) : wpI D 226 [.ref 81, .int (Int32.ofNat s), .int (Int32.ofNat p), .int (Int32.ofNat S)] (mW w σ) K := by
  refine sI_of (m := 2) (fun d hd Q hQ => ?_) rfl hD
  have v2 := hv.2.2.1
  refine b226_0 ?_
  have f1 := fun x : Int32 => (frZ_0 (by omega) : frZ σ (uI σ 81 37 x))
  simp only [↓rF_I, ↓rF_L, ↓rF_R, ↓rF_N, rO_m, rB_m, ↓rI_m, wI_m, ↓rB2_m, ↓rB3_m, wB2_m, wB3_m, ↓rL_m, wL_m, ↓rQ_m, wQ_m, ↓lI_m, pI_m, pL_m, pR_m, sI_m, sBy_m, sBo_m, sL_m, sQ_m, fst_m, true_and, and_true, tg_some, ln_some, uI_1, uI_2, uL_1, uL_2, uL_3, uQ_1, uQ_2, uQ_3, rv_i, rv_l, rv_n, rv_b0, rv_b1, RMR, ne_eq, reduceCtorEq, not_false_eq_true, Option.getD_some, if_true, if_false, and_self, false_and, and_false, Nat.add_left_cancel_iff, Nat.add_eq_left, Nat.left_eq_add, Nat.one_ne_zero, Nat.reduceAdd, Nat.reduceLT, Nat.reduceLeDiff, Nat.reduceEqDiff, true_implies, false_implies, implies_true, Option.some.injEq, forall_eq', forall_eq, reduceCtorEq, brT, brF, br_s, i_10, i_01, ib_0_2, ib_1_2, tn_0, tn_1, Int32.le_refl, eq_self, rv_bN, rv_iM, RCM 81, RLY, lit_at hw, ad_2, ad_4, ad_6, ad_8, ad_10, ad_12, ad_16, ad_24, ad_27, ad_28, ad_31, ad_35, ad_43, ad_51, ad_107, ad_131, ad_311, ml_3, ml_6, ml_7, ml_60, ml_100, ml_2471, mq_12, ar_2, ar_3, ar_4, ar_5, ar_6, of_add, of_mul, on_succ, mr hρ (by omega : 27 + s < 2471), mr hρ (by omega : 35 + s < 2471)]
  exact b226_30 (lp_226 (a4 := -1) hw (mT_c hτ ((f1 _).1 83 (by omega) (by omega))) (mR_c hρ ((f1 _).1 85 (by omega) (by omega))) hv hr hs hp hS hS2 hd (fun x σ' f => hQ _ _ (hK x σ' (frZ_tr (f1 _) f))) (τ (28 + p)) 0 _ _ _ (by omega) frZ_rf (Or.inl ⟨rfl, Nat.zero_le _⟩))
theorem lp_227b {w : mT} {τ ρ : Rw} {s p d : Nat} {a3 : Int32} {σ0 : mS} {Q : Option (Option Value) → Hp → Prop} (hw : lit w) (hτ0 : mTold σ0 τ) (hρ0 : mRow σ0 85 0 ρ) (hv : vTold τ) (hr : vRow τ ρ) (hs : s < τ 2) (hp : p < τ 1) (hd : 3 ≤ d) (hQ : ∀ (x : Int32) σ', frZ σ0 σ' → Q (some (some (.int x))) (mW w σ')) : ∀ (r S : Nat) (σ : mS) (a4 a5 a6 : Int32), S + r = 2 ^ τ (28 + p) → 1 ≤ S → frZ σ0 σ → Wp 227 121 [.ref 81, .int (Int32.ofNat s), .int (Int32.ofNat p), .int a3, .int a4, .int a5, .int a6, .int (Int32.ofNat S)] [] (mW w σ) Q d := by
  have hd1 : 1 ≤ d := by omega
  have v1 := hv.2.1
  have v3 := (hv.2.2.2.2.2.1 p hp).2
  have p12 : 2 ^ τ (28 + p) ≤ 2 ^ 12 := Nat.pow_le_pow_right (by omega) v3
  intro r
  induction r with
  | zero =>
    intro S σ a4 a5 a6 hS h1 hf
    have hτ := mT_c hτ0 (hf.1 83 (by omega) (by omega))
    have hS' : S = 2 ^ τ (28 + p) := by omega
    have c : (Int32.ofNat (2 ^ τ (28 + p)) ≤ Int32.ofNat S) ↔ True := iff_true_intro ((on_le (by omega) (by omega)).mpr (by omega))
    have fin := fun x => hQ x σ hf
    refine b227_121 ?_
    simp only [↓rF_I, ↓rF_L, ↓rF_R, ↓rF_N, rO_m, rB_m, ↓rI_m, wI_m, ↓rB2_m, ↓rB3_m, wB2_m, wB3_m, ↓rL_m, wL_m, ↓rQ_m, wQ_m, ↓lI_m, pI_m, pL_m, pR_m, sI_m, sBy_m, sBo_m, sL_m, sQ_m, fst_m, true_and, and_true, tg_some, ln_some, uI_1, uI_2, uL_1, uL_2, uL_3, uQ_1, uQ_2, uQ_3, rv_i, rv_l, rv_n, rv_b0, rv_b1, RMR, ne_eq, reduceCtorEq, not_false_eq_true, Option.getD_some, if_true, if_false, and_self, false_and, and_false, Nat.add_left_cancel_iff, Nat.add_eq_left, Nat.left_eq_add, Nat.one_ne_zero, Nat.reduceAdd, Nat.reduceLT, Nat.reduceLeDiff, Nat.reduceEqDiff, true_implies, false_implies, implies_true, Option.some.injEq, forall_eq', forall_eq, reduceCtorEq, brT, brF, br_s, i_10, i_01, ib_0_2, ib_1_2, tn_0, tn_1, Int32.le_refl, eq_self, rv_bN, rv_iM, RCM 81, RLY, lit_at hw, ad_2, ad_4, ad_6, ad_8, ad_10, ad_12, ad_16, ad_24, ad_27, ad_28, ad_31, ad_35, ad_43, ad_51, ad_107, ad_131, ad_311, ml_3, ml_6, ml_7, ml_60, ml_100, ml_2471, mq_12, ar_2, ar_3, ar_4, ar_5, ar_6, of_add, of_mul, on_succ, mt hτ (by omega : 28 + p < 79), shl12 v3, c]
    repeat' (first | exact fin _ | refine br2 ?_ ?_)
  | succ r ih =>
    intro S σ a4 a5 a6 hS h1 hf
    have hτ := mT_c hτ0 (hf.1 83 (by omega) (by omega))
    have hρ := mR_c hρ0 (hf.1 85 (by omega) (by omega))
    have c : (Int32.ofNat (2 ^ τ (28 + p)) ≤ Int32.ofNat S) ↔ False := iff_false_intro (fun q => absurd ((on_le (by omega) (by omega)).mp q) (by omega))
    refine b227_121 ?_
    simp only [↓rF_I, ↓rF_L, ↓rF_R, ↓rF_N, rO_m, rB_m, ↓rI_m, wI_m, ↓rB2_m, ↓rB3_m, wB2_m, wB3_m, ↓rL_m, wL_m, ↓rQ_m, wQ_m, ↓lI_m, pI_m, pL_m, pR_m, sI_m, sBy_m, sBo_m, sL_m, sQ_m, fst_m, true_and, and_true, tg_some, ln_some, uI_1, uI_2, uL_1, uL_2, uL_3, uQ_1, uQ_2, uQ_3, rv_i, rv_l, rv_n, rv_b0, rv_b1, RMR, ne_eq, reduceCtorEq, not_false_eq_true, Option.getD_some, if_true, if_false, and_self, false_and, and_false, Nat.add_left_cancel_iff, Nat.add_eq_left, Nat.left_eq_add, Nat.one_ne_zero, Nat.reduceAdd, Nat.reduceLT, Nat.reduceLeDiff, Nat.reduceEqDiff, true_implies, false_implies, implies_true, Option.some.injEq, forall_eq', forall_eq, reduceCtorEq, brT, brF, br_s, i_10, i_01, ib_0_2, ib_1_2, tn_0, tn_1, Int32.le_refl, eq_self, rv_bN, rv_iM, RCM 81, RLY, lit_at hw, ad_2, ad_4, ad_6, ad_8, ad_10, ad_12, ad_16, ad_24, ad_27, ad_28, ad_31, ad_35, ad_43, ad_51, ad_107, ad_131, ad_311, ml_3, ml_6, ml_7, ml_60, ml_100, ml_2471, mq_12, ar_2, ar_3, ar_4, ar_5, ar_6, of_add, of_mul, on_succ, mt hτ (by omega : 28 + p < 79), shl12 v3, c]
    refine s_226 hw hτ hρ hv hr hs hp h1 (by omega) (fun x σ' f => ?_) hd
    have nx := fun a4 a5 a6 => ih (S + 1) σ' a4 a5 a6 (by omega) (by omega) (frZ_tr hf f)
    have nx' : ∀ a4 a5 a6, Wp 227 203 [.ref 81, .int (Int32.ofNat s), .int (Int32.ofNat p), .int a3, .int a4, .int a5, .int a6, .int (Int32.ofNat S)] [] (mW w σ') Q d := fun a4 a5 a6 => b227_203 (by rw [on_succ]; exact nx a4 a5 a6)
    simp only [↓rF_I, ↓rF_L, ↓rF_R, ↓rF_N, rO_m, rB_m, ↓rI_m, wI_m, ↓rB2_m, ↓rB3_m, wB2_m, wB3_m, ↓rL_m, wL_m, ↓rQ_m, wQ_m, ↓lI_m, pI_m, pL_m, pR_m, sI_m, sBy_m, sBo_m, sL_m, sQ_m, fst_m, true_and, and_true, tg_some, ln_some, uI_1, uI_2, uL_1, uL_2, uL_3, uQ_1, uQ_2, uQ_3, rv_i, rv_l, rv_n, rv_b0, rv_b1, RMR, ne_eq, reduceCtorEq, not_false_eq_true, Option.getD_some, if_true, if_false, and_self, false_and, and_false, Nat.add_left_cancel_iff, Nat.add_eq_left, Nat.left_eq_add, Nat.one_ne_zero, Nat.reduceAdd, Nat.reduceLT, Nat.reduceLeDiff, Nat.reduceEqDiff, true_implies, false_implies, implies_true, Option.some.injEq, forall_eq', forall_eq, reduceCtorEq, brT, brF, br_s, i_10, i_01, ib_0_2, ib_1_2, tn_0, tn_1, Int32.le_refl, eq_self, rv_bN, rv_iM, RCM 81, RLY, lit_at hw]
    have two : wpI d 225 [.int (Int32.ofNat S)] (mW w σ') (fun x12 h11 => (wpI d 225 [.int a4] h11 (fun x14 h13 => br (x14 ≤ x12) (Wp 227 203 [.ref 81, .int (Int32.ofNat s), .int (Int32.ofNat p), .int a3, .int a4, .int a5, .int a6, .int (Int32.ofNat S)] [] h13 Q d) (∃ x15 : Int32, hF h13 81 8 35 (.int x15) ∧ (∃ x16 : Int32, hF h13 81 8 37 (.int x16) ∧ (Wp 227 203 [.ref 81, .int (Int32.ofNat s), .int (Int32.ofNat p), .int a3, .int (Int32.ofNat S), .int x15, .int x16, .int (Int32.ofNat S)] [] h13 Q d)))))) := by
      refine s_225 (fun x => ?_) hd1
      refine s_225 (fun y => ?_) hd1
      simp only [↓rF_I, ↓rF_L, ↓rF_R, ↓rF_N, rO_m, rB_m, ↓rI_m, wI_m, ↓rB2_m, ↓rB3_m, wB2_m, wB3_m, ↓rL_m, wL_m, ↓rQ_m, wQ_m, ↓lI_m, pI_m, pL_m, pR_m, sI_m, sBy_m, sBo_m, sL_m, sQ_m, fst_m, true_and, and_true, tg_some, ln_some, uI_1, uI_2, uL_1, uL_2, uL_3, uQ_1, uQ_2, uQ_3, rv_i, rv_l, rv_n, rv_b0, rv_b1, RMR, ne_eq, reduceCtorEq, not_false_eq_true, Option.getD_some, if_true, if_false, and_self, false_and, and_false, Nat.add_left_cancel_iff, Nat.add_eq_left, Nat.left_eq_add, Nat.one_ne_zero, Nat.reduceAdd, Nat.reduceLT, Nat.reduceLeDiff, Nat.reduceEqDiff, true_implies, false_implies, implies_true, Option.some.injEq, forall_eq', forall_eq, reduceCtorEq, brT, brF, br_s, i_10, i_01, ib_0_2, ib_1_2, tn_0, tn_1, Int32.le_refl, eq_self, rv_bN, rv_iM, RCM 81, RLY, lit_at hw]
      exact br2 (nx' _ _ _) (nx' _ _ _)
    repeat' (first | exact nx' _ _ _ | exact two | refine br2 ?_ ?_)
theorem lp_227a {w : mT} {τ ρ : Rw} {s p d : Nat} {a3 : Int32} {σ0 : mS} {Q : Option (Option Value) → Hp → Prop} (hw : lit w) (hτ0 : mTold σ0 τ) (hρ0 : mRow σ0 85 0 ρ) (hv : vTold τ) (hr : vRow τ ρ) (hs : s < τ 2) (hp : p < τ 1) (hd : 3 ≤ d) (hQ : ∀ (x : Int32) σ', frZ σ0 σ' → Q (some (some (.int x))) (mW w σ')) : ∀ (r c : Nat) (σ : mS), c + r = τ (28 + p) → frZ σ0 σ → Wp 227 58 [.ref 81, .int (Int32.ofNat s), .int (Int32.ofNat p), .int a3, .int (Int32.ofNat c), jk, jk, jk] [] (mW w σ) Q d := by
  have hd2 : 2 ≤ d := by omega
  have v1 := hv.2.1
  have v3 := (hv.2.2.2.2.2.1 p hp).2
  intro r
  induction r with
  | zero =>
    intro c σ hc hf
    have hτ := mT_c hτ0 (hf.1 83 (by omega) (by omega))
    have hρ := mR_c hρ0 (hf.1 85 (by omega) (by omega))
    have hc' : c = τ (28 + p) := by omega
    subst hc'
    have p1 : 1 ≤ 2 ^ τ (28 + p) := Nat.pow_pos (by omega)
    refine b227_58 ?_
    simp only [↓rF_I, ↓rF_L, ↓rF_R, ↓rF_N, rO_m, rB_m, ↓rI_m, wI_m, ↓rB2_m, ↓rB3_m, wB2_m, wB3_m, ↓rL_m, wL_m, ↓rQ_m, wQ_m, ↓lI_m, pI_m, pL_m, pR_m, sI_m, sBy_m, sBo_m, sL_m, sQ_m, fst_m, true_and, and_true, tg_some, ln_some, uI_1, uI_2, uL_1, uL_2, uL_3, uQ_1, uQ_2, uQ_3, rv_i, rv_l, rv_n, rv_b0, rv_b1, RMR, ne_eq, reduceCtorEq, not_false_eq_true, Option.getD_some, if_true, if_false, and_self, false_and, and_false, Nat.add_left_cancel_iff, Nat.add_eq_left, Nat.left_eq_add, Nat.one_ne_zero, Nat.reduceAdd, Nat.reduceLT, Nat.reduceLeDiff, Nat.reduceEqDiff, true_implies, false_implies, implies_true, Option.some.injEq, forall_eq', forall_eq, reduceCtorEq, brT, brF, br_s, i_10, i_01, ib_0_2, ib_1_2, tn_0, tn_1, Int32.le_refl, eq_self, rv_bN, rv_iM, RCM 81, RLY, lit_at hw, ad_2, ad_4, ad_6, ad_8, ad_10, ad_12, ad_16, ad_24, ad_27, ad_28, ad_31, ad_35, ad_43, ad_51, ad_107, ad_131, ad_311, ml_3, ml_6, ml_7, ml_60, ml_100, ml_2471, mq_12, ar_2, ar_3, ar_4, ar_5, ar_6, of_add, of_mul, on_succ, mt hτ (by omega : 28 + p < 79), Int32.le_refl]
    exact b227_118 (lp_227b hw hτ hρ hv hr hs hp hd (fun x σ' f => hQ x σ' (frZ_tr hf f)) (2 ^ τ (28 + p) - 1) 1 σ _ _ _ (by omega) (by omega) frZ_rf)
  | succ r ih =>
    intro c σ hc hf
    have hτ := mT_c hτ0 (hf.1 83 (by omega) (by omega))
    have hρ := mR_c hρ0 (hf.1 85 (by omega) (by omega))
    have l1 : (Int32.ofNat (τ (28 + p)) ≤ Int32.ofNat c) ↔ False := iff_false_intro (fun q => absurd ((on_le (by omega) (by omega)).mp q) (by omega))
    refine b227_58 ?_
    simp only [↓rF_I, ↓rF_L, ↓rF_R, ↓rF_N, rO_m, rB_m, ↓rI_m, wI_m, ↓rB2_m, ↓rB3_m, wB2_m, wB3_m, ↓rL_m, wL_m, ↓rQ_m, wQ_m, ↓lI_m, pI_m, pL_m, pR_m, sI_m, sBy_m, sBo_m, sL_m, sQ_m, fst_m, true_and, and_true, tg_some, ln_some, uI_1, uI_2, uL_1, uL_2, uL_3, uQ_1, uQ_2, uQ_3, rv_i, rv_l, rv_n, rv_b0, rv_b1, RMR, ne_eq, reduceCtorEq, not_false_eq_true, Option.getD_some, if_true, if_false, and_self, false_and, and_false, Nat.add_left_cancel_iff, Nat.add_eq_left, Nat.left_eq_add, Nat.one_ne_zero, Nat.reduceAdd, Nat.reduceLT, Nat.reduceLeDiff, Nat.reduceEqDiff, true_implies, false_implies, implies_true, Option.some.injEq, forall_eq', forall_eq, reduceCtorEq, brT, brF, br_s, i_10, i_01, ib_0_2, ib_1_2, tn_0, tn_1, Int32.le_refl, eq_self, rv_bN, rv_iM, RCM 81, RLY, lit_at hw, ad_2, ad_4, ad_6, ad_8, ad_10, ad_12, ad_16, ad_24, ad_27, ad_28, ad_31, ad_35, ad_43, ad_51, ad_107, ad_131, ad_311, ml_3, ml_6, ml_7, ml_60, ml_100, ml_2471, mq_12, ar_2, ar_3, ar_4, ar_5, ar_6, of_add, of_mul, on_succ, mt hτ (by omega : 28 + p < 79), l1, g_158c hw hτ hρ hv hr (by omega : p < 3) (by omega : c < 12) hd2, ix (by omega : c < 12) (by omega)]
    exact ih (c + 1) _ (by omega) (frZ_tr hf (frZ_tr frZ_su (frZ_tr (frZ_I (by omega)) (frZ_I (by omega)))))
theorem m_227 {w : mT} {σ : mS} {tp n : Nat} {t : Nat → Nat} {τ ρ : Rw} {bk : Nat → Rw} {has : Nat → Bool} {im : Nat → Rw} {a b c : Int32} {D : Nat} {K : Int32 → Hp → Prop} (h : mIn w σ tp t τ ρ n bk has im) (hK : ∀ v σ', frA σ σ' → mIn w σ' tp t τ ρ n bk has im → K v (mW w σ')) (hD : 4 ≤ D) : wpI D 227 [.ref 81, .int a, .int b, .int c] (mW w σ) K := by
  have M := h
  obtain ⟨hw, hτ, hρ, hv, hr, hp2, htp, htb, htl, hn, hn12, hbk, him⟩ := h
  have M0 := mIn_Z M (frZ_0 (j := 0) (x := 0) (by omega))
  obtain ⟨_, hτ0, hρ0, _, _, hp20, _, htb0, _, hn0, _, hbk0, him0⟩ := M0
  have M0 := mIn_Z M (frZ_0 (j := 0) (x := 0) (by omega))
  refine sI_of (m := 3) (fun d hd Q hQ => ?_) rfl hD
  have hd1 : 1 ≤ d := by omega
  have hd2 : 2 ≤ d := by omega
  have v1 := hv.2.1
  have v2 := hv.2.2.1
  have fin := fun (v : Int32) σ' (f : frZ (uI σ 81 0 0) σ') => hQ _ _ (hK v σ' (frZ_A (frZ_tr (frZ_0 (by omega)) f)) (mIn_Z M (frZ_tr (frZ_0 (by omega)) f)))
  have fin0 := fun v => fin v _ frZ_rf
  refine b227_0 ?_
  rcases bN_01 (a := a) (n := τ 2) with z | z
  · simp only [↓br_pos, ↓br_neg, ↓rF_I, ↓rF_L, ↓rF_R, ↓rF_N, rO_m, rB_m, ↓rI_m, wI_m, ↓rB2_m, ↓rB3_m, wB2_m, wB3_m, ↓rL_m, wL_m, ↓rQ_m, wQ_m, ↓lI_m, pI_m, pL_m, pR_m, sI_m, sBy_m, sBo_m, sL_m, sQ_m, fst_m, true_and, and_true, tg_some, ln_some, uI_1, uI_2, uL_1, uL_2, uL_3, uQ_1, uQ_2, uQ_3, rv_i, rv_l, rv_n, rv_b0, rv_b1, RMR, ne_eq, reduceCtorEq, not_false_eq_true, Option.getD_some, if_true, if_false, and_self, false_and, and_false, Nat.add_left_cancel_iff, Nat.add_eq_left, Nat.left_eq_add, Nat.one_ne_zero, Nat.reduceAdd, Nat.reduceLT, Nat.reduceLeDiff, Nat.reduceEqDiff, true_implies, false_implies, implies_true, Option.some.injEq, forall_eq', forall_eq, reduceCtorEq, brT, brF, br_s, i_10, i_01, ib_0_2, ib_1_2, tn_0, tn_1, Int32.le_refl, eq_self, rv_bN, rv_iM, RCM 81, RLY, lit_at hw, g_153 hw hτ0 hv hd2, z, z00]
    exact fin0 _
  · rcases bN_01 (a := b) (n := τ 1) with y | y
    · simp only [↓br_pos, ↓br_neg, ↓rF_I, ↓rF_L, ↓rF_R, ↓rF_N, rO_m, rB_m, ↓rI_m, wI_m, ↓rB2_m, ↓rB3_m, wB2_m, wB3_m, ↓rL_m, wL_m, ↓rQ_m, wQ_m, ↓lI_m, pI_m, pL_m, pR_m, sI_m, sBy_m, sBo_m, sL_m, sQ_m, fst_m, true_and, and_true, tg_some, ln_some, uI_1, uI_2, uL_1, uL_2, uL_3, uQ_1, uQ_2, uQ_3, rv_i, rv_l, rv_n, rv_b0, rv_b1, RMR, ne_eq, reduceCtorEq, not_false_eq_true, Option.getD_some, if_true, if_false, and_self, false_and, and_false, Nat.add_left_cancel_iff, Nat.add_eq_left, Nat.left_eq_add, Nat.one_ne_zero, Nat.reduceAdd, Nat.reduceLT, Nat.reduceLeDiff, Nat.reduceEqDiff, true_implies, false_implies, implies_true, Option.some.injEq, forall_eq', forall_eq, reduceCtorEq, brT, brF, br_s, i_10, i_01, ib_0_2, ib_1_2, tn_0, tn_1, Int32.le_refl, eq_self, rv_bN, rv_iM, RCM 81, RLY, lit_at hw, g_153 hw hτ0 hv hd2, z, z00, z10, g_152 hw hτ0 hv hd2, y]
      exact fin0 _
    · obtain ⟨s, rfl, hs⟩ := bN_ex z
      obtain ⟨p, rfl, hp⟩ := bN_ex y
      have hh := hold_lt hr hs
      have body := lp_227a (a3 := c) (s := s) hw hτ0 hρ0 hv hr hs hp hd (fun x σ' f => fin x σ' f) (τ (28 + p)) 0 (uI σ 81 0 0) (by omega) frZ_rf
      simp only [↓rF_I, ↓rF_L, ↓rF_R, ↓rF_N, rO_m, rB_m, ↓rI_m, wI_m, ↓rB2_m, ↓rB3_m, wB2_m, wB3_m, ↓rL_m, wL_m, ↓rQ_m, wQ_m, ↓lI_m, pI_m, pL_m, pR_m, sI_m, sBy_m, sBo_m, sL_m, sQ_m, fst_m, true_and, and_true, tg_some, ln_some, uI_1, uI_2, uL_1, uL_2, uL_3, uQ_1, uQ_2, uQ_3, rv_i, rv_l, rv_n, rv_b0, rv_b1, RMR, ne_eq, reduceCtorEq, not_false_eq_true, Option.getD_some, if_true, if_false, and_self, false_and, and_false, Nat.add_left_cancel_iff, Nat.add_eq_left, Nat.left_eq_add, Nat.one_ne_zero, Nat.reduceAdd, Nat.reduceLT, Nat.reduceLeDiff, Nat.reduceEqDiff, true_implies, false_implies, implies_true, Option.some.injEq, forall_eq', forall_eq, reduceCtorEq, brT, brF, br_s, i_10, i_01, ib_0_2, ib_1_2, tn_0, tn_1, Int32.le_refl, eq_self, rv_bN, rv_iM, RCM 81, RLY, lit_at hw, ad_2, ad_4, ad_6, ad_8, ad_10, ad_12, ad_16, ad_24, ad_27, ad_28, ad_31, ad_35, ad_43, ad_51, ad_107, ad_131, ad_311, ml_3, ml_6, ml_7, ml_60, ml_100, ml_2471, mq_12, ar_2, ar_3, ar_4, ar_5, ar_6, of_add, of_mul, on_succ, g_153 hw hτ0 hv hd2, z, z10, g_152 hw hτ0 hv hd2, y, g_129 hd1, mr hρ (by omega : 43 + s < 2471), g_159 hw hτ0 hρ0 hv hs hh hd2]
      repeat' (first | exact fin0 _ | exact body | refine br2 ?_ ?_)
