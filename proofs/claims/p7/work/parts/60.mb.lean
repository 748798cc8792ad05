/-! the model: sums, ways, what may be laid or cut -/
def su (σ : mS) (T G : Nat) : mS := uI (uI σ 81 16 (Int32.ofNat T)) 81 17 (Int32.ofNat G)
theorem su_w {σ : mS} {T G T' G' : Nat} : uI (uI (su σ T G) 81 16 (Int32.ofNat T')) 81 17 (Int32.ofNat G') = su σ T' G' := by
  unfold su
  refine Prod.ext ?_ rfl
  funext a j
  simp only [uI_1]
  by_cases h1 : a = 81 ∧ j = 17
  · simp only [h1, if_true, and_self]
  · by_cases h2 : a = 81 ∧ j = 16
    · obtain ⟨rfl, rfl⟩ := h2
      rfl
    · simp only [h1, h2, if_false]
theorem su_16 {σ : mS} {T G : Nat} : (su σ T G).1 81 16 = Int32.ofNat T := by
  unfold su
  rw [uI_1, if_neg (by omega), uI_1, if_pos ⟨rfl, rfl⟩]
theorem su_17 {σ : mS} {T G : Nat} : (su σ T G).1 81 17 = Int32.ofNat G := by
  unfold su
  rw [uI_1, if_pos ⟨rfl, rfl⟩]
theorem su_a {σ : mS} {T G a : Nat} (h : a ≠ 81) : (su σ T G).1 a = σ.1 a := by
  unfold su
  rw [(uI_ne h).1, (uI_ne h).1]
theorem su_0 {σ : mS} : uI (uI σ 81 16 0) 81 17 0 = su σ 0 0 := rfl
def smT (ρ : Rw) (p a n k : Nat) : Nat := sm n (fun i => ρ (li p k (a + i)))
def smG (τ ρ : Rw) (p a n k : Nat) : Nat := sm n (fun i => ρ (li p k (a + i)) * τ (16 + ρ (lo p k)))
theorem smT_0 {ρ : Rw} {p a k : Nat} : smT ρ p a 0 k = 0 := rfl
theorem smG_0 {τ ρ : Rw} {p a k : Nat} : smG τ ρ p a 0 k = 0 := rfl
def suT (ρ : Rw) (p a n : Nat) : Nat := sm (ρ (24 + p)) (smT ρ p a n)
def suG (τ ρ : Rw) (p a n : Nat) : Nat := sm (ρ (24 + p)) (smG τ ρ p a n)
theorem suT_1 {ρ : Rw} {p c : Nat} : suT ρ p c 1 = tOn ρ p c := by
  unfold suT tOn smT
  exact sm_eq (fun k _ => by simp only [sm_s, sm_0, Nat.add_zero, Nat.zero_add])
theorem suG_1 {τ ρ : Rw} {p c : Nat} : suG τ ρ p c 1 = gOn τ ρ p c := by
  unfold suG gOn smG
  exact sm_eq (fun k _ => by simp only [sm_s, sm_0, Nat.add_zero, Nat.zero_add])
theorem suT_p {τ ρ : Rw} {p : Nat} : suT ρ p 0 (τ (28 + p)) = tPi τ ρ p := by
  unfold suT smT tPi
  rw [sm_swap]
  exact sm_eq (fun c _ => by unfold tOn; exact sm_eq (fun k _ => by rw [Nat.zero_add]))
theorem suG_p {τ ρ : Rw} {p : Nat} : suG τ ρ p 0 (τ (28 + p)) = gPi τ ρ p := by
  unfold suG smG gPi
  rw [sm_swap]
  exact sm_eq (fun c _ => by unfold gOn; exact sm_eq (fun k _ => by rw [Nat.zero_add]))
theorem lp_158i {w : mT} {σ : mS} {τ ρ : Rw} {p a n k d : Nat} {Q : Option (Option Value) → Hp → Prop} (hw : lit w) (hτ : mTold σ τ) (hρ : mRow σ 85 0 ρ) (hp : p < 3) (hk : k < 60) (ha : a + n ≤ 12) (hn : 1 ≤ n) (hl : ρ (lo p k) < 12) (hd : 1 ≤ d) (hN : ∀ x6, (x6 = jk ∨ ∃ u : Int32, x6 = .int u) → Wp 158 13 [.ref 81, .int (Int32.ofNat p), .int (Int32.ofNat a), .int (Int32.ofNat (a + n - 1)), .int (Int32.ofNat (k + 1)), .int (Int32.ofNat (a + n)), x6] [] (mW w (su σ (sm (k + 1) (smT ρ p a n)) (sm (k + 1) (smG τ ρ p a n)))) Q d) : ∀ (r i : Nat) (x6 : Value), i + r = n → (x6 = jk ∨ ∃ u : Int32, x6 = .int u) → Wp 158 30 [.ref 81, .int (Int32.ofNat p), .int (Int32.ofNat a), .int (Int32.ofNat (a + n - 1)), .int (Int32.ofNat k), .int (Int32.ofNat (a + i)), x6] [] (mW w (su σ (sm k (smT ρ p a n) + smT ρ p a i k) (sm k (smG τ ρ p a n) + smG τ ρ p a i k))) Q d := by
  intro r
  induction r with
  | zero =>
    intro i x6 hi hx
    have hi' : i = n := by omega
    subst hi'
    have c : (Int32.ofNat (a + i - 1) < Int32.ofNat (a + i)) ↔ True := iff_true_intro ((on_lt (by omega) (by omega)).mpr (by omega))
    have N := hN x6 hx
    rw [sm_s, sm_s] at N
    rcases hx with rfl | ⟨u, rfl⟩
    · refine b158_30 ?_
      simp only [↓br_pos, ↓br_neg, ↓rF_I, ↓rF_L, ↓rF_R, ↓rF_N, rO_m, rB_m, ↓rI_m, wI_m, ↓rB2_m, ↓rB3_m, wB2_m, wB3_m, ↓rL_m, wL_m, ↓rQ_m, wQ_m, ↓lI_m, pI_m, pL_m, pR_m, sI_m, sBy_m, sBo_m, sL_m, sQ_m, fst_m, true_and, and_true, tg_some, ln_some, uI_1, uI_2, uL_1, uL_2, uL_3, uQ_1, uQ_2, uQ_3, rv_i, rv_l, rv_n, rv_b0, rv_b1, RMR, ne_eq, reduceCtorEq, not_false_eq_true, Option.getD_some, if_true, if_false, and_self, false_and, and_false, Nat.add_left_cancel_iff, Nat.add_eq_left, Nat.left_eq_add, Nat.one_ne_zero, Nat.reduceAdd, Nat.reduceLT, Nat.reduceLeDiff, Nat.reduceEqDiff, true_implies, false_implies, implies_true, Option.some.injEq, forall_eq', forall_eq, reduceCtorEq, brT, brF, br_s, i_10, i_01, ib_0_2, ib_1_2, tn_0, tn_1, Int32.le_refl, eq_self, rv_bN, rv_iM, RCM 81, RLY, lit_at hw, c, on_succ]
      exact N
    · refine b158_30a ?_
      simp only [↓br_pos, ↓br_neg, ↓rF_I, ↓rF_L, ↓rF_R, ↓rF_N, rO_m, rB_m, ↓rI_m, wI_m, ↓rB2_m, ↓rB3_m, wB2_m, wB3_m, ↓rL_m, wL_m, ↓rQ_m, wQ_m, ↓lI_m, pI_m, pL_m, pR_m, sI_m, sBy_m, sBo_m, sL_m, sQ_m, fst_m, true_and, and_true, tg_some, ln_some, uI_1, uI_2, uL_1, uL_2, uL_3, uQ_1, uQ_2, uQ_3, rv_i, rv_l, rv_n, rv_b0, rv_b1, RMR, ne_eq, reduceCtorEq, not_false_eq_true, Option.getD_some, if_true, if_false, and_self, false_and, and_false, Nat.add_left_cancel_iff, Nat.add_eq_left, Nat.left_eq_add, Nat.one_ne_zero, Nat.reduceAdd, Nat.reduceLT, Nat.reduceLeDiff, Nat.reduceEqDiff, true_implies, false_implies, implies_true, Option.some.injEq, forall_eq', forall_eq, reduceCtorEq, brT, brF, br_s, i_10, i_01, ib_0_2, ib_1_2, tn_0, tn_1, Int32.le_refl, eq_self, rv_bN, rv_iM, RCM 81, RLY, lit_at hw, c, on_succ]
      exact N
  | succ r ih =>
    intro i x6 hi hx
    have l1 : (Int32.ofNat (a + n - 1) < Int32.ofNat (a + i)) ↔ False := iff_false_intro (fun q => absurd ((on_lt (by omega) (by omega)).mp q) (by omega))
    have hρ' := mR_c hρ (su_a (σ := σ) (T := sm k (smT ρ p a n) + smT ρ p a i k) (G := sm k (smG τ ρ p a n) + smG τ ρ p a i k) (by omega : (85 : Nat) ≠ 81))
    have hτ' := mT_c hτ (su_a (σ := σ) (T := sm k (smT ρ p a n) + smT ρ p a i k) (G := sm k (smG τ ρ p a n) + smG τ ρ p a i k) (by omega : (83 : Nat) ≠ 81))
    have e157 := fun {x : Int32} {K : Int32 → Hp → Prop} => g_157 (K := K) hw (mT_c hτ' (uI_ne (j := 16) (x := x) (by omega : (83 : Nat) ≠ 81)).1) (mR_c hρ' (uI_ne (j := 16) (x := x) (by omega : (85 : Nat) ≠ 81)).1) hp hk hl hd
    have ih := ih (i + 1) (.int (Int32.ofNat (ρ (li p k (a + i))))) (by omega) (Or.inr ⟨_, rfl⟩)
    have sT : sm k (smT ρ p a n) + smT ρ p a (i + 1) k = sm k (smT ρ p a n) + smT ρ p a i k + ρ (li p k (a + i)) := by unfold smT; rw [sm_s (n := i)]; omega
    have sG : sm k (smG τ ρ p a n) + smG τ ρ p a (i + 1) k = sm k (smG τ ρ p a n) + smG τ ρ p a i k + ρ (li p k (a + i)) * τ (16 + ρ (lo p k)) := by unfold smG; rw [sm_s (n := i)]; omega
    rw [sT, sG, ← su_w (T := sm k (smT ρ p a n) + smT ρ p a i k) (G := sm k (smG τ ρ p a n) + smG τ ρ p a i k)] at ih
    rcases hx with rfl | ⟨u, rfl⟩
    · refine b158_30 ?_
      simp only [↓br_pos, ↓br_neg, ↓rF_I, ↓rF_L, ↓rF_R, ↓rF_N, rO_m, rB_m, ↓rI_m, wI_m, ↓rB2_m, ↓rB3_m, wB2_m, wB3_m, ↓rL_m, wL_m, ↓rQ_m, wQ_m, ↓lI_m, pI_m, pL_m, pR_m, sI_m, sBy_m, sBo_m, sL_m, sQ_m, fst_m, true_and, and_true, tg_some, ln_some, uI_1, uI_2, uL_1, uL_2, uL_3, uQ_1, uQ_2, uQ_3, rv_i, rv_l, rv_n, rv_b0, rv_b1, RMR, ne_eq, reduceCtorEq, not_false_eq_true, Option.getD_some, if_true, if_false, and_self, false_and, and_false, Nat.add_left_cancel_iff, Nat.add_eq_left, Nat.left_eq_add, Nat.one_ne_zero, Nat.reduceAdd, Nat.reduceLT, Nat.reduceLeDiff, Nat.reduceEqDiff, true_implies, false_implies, implies_true, Option.some.injEq, forall_eq', forall_eq, reduceCtorEq, brT, brF, br_s, i_10, i_01, ib_0_2, ib_1_2, tn_0, tn_1, Int32.le_refl, eq_self, rv_bN, rv_iM, RCM 81, RLY, lit_at hw, ad_2, ad_4, ad_6, ad_8, ad_10, ad_12, ad_16, ad_24, ad_27, ad_28, ad_31, ad_35, ad_43, ad_51, ad_107, ad_131, ad_311, ml_3, ml_6, ml_7, ml_60, ml_100, ml_2471, mq_12, ar_2, ar_3, ar_4, ar_5, ar_6, of_add, of_mul, on_succ, l1, g_156 hd, mr hρ' (by unfold li; omega : li p k (a + i) < 2471), su_16, su_17, e157]
      exact ih
    · refine b158_30a ?_
      simp only [↓br_pos, ↓br_neg, ↓rF_I, ↓rF_L, ↓rF_R, ↓rF_N, rO_m, rB_m, ↓rI_m, wI_m, ↓rB2_m, ↓rB3_m, wB2_m, wB3_m, ↓rL_m, wL_m, ↓rQ_m, wQ_m, ↓lI_m, pI_m, pL_m, pR_m, sI_m, sBy_m, sBo_m, sL_m, sQ_m, fst_m, true_and, and_true, tg_some, ln_some, uI_1, uI_2, uL_1, uL_2, uL_3, uQ_1, uQ_2, uQ_3, rv_i, rv_l, rv_n, rv_b0, rv_b1, RMR, ne_eq, reduceCtorEq, not_false_eq_true, Option.getD_some, if_true, if_false, and_self, false_and, and_false, Nat.add_left_cancel_iff, Nat.add_eq_left, Nat.left_eq_add, Nat.one_ne_zero, Nat.reduceAdd, Nat.reduceLT, Nat.reduceLeDiff, Nat.reduceEqDiff, true_implies, false_implies, implies_true, Option.some.injEq, forall_eq', forall_eq, reduceCtorEq, brT, brF, br_s, i_10, i_01, ib_0_2, ib_1_2, tn_0, tn_1, Int32.le_refl, eq_self, rv_bN, rv_iM, RCM 81, RLY, lit_at hw, ad_2, ad_4, ad_6, ad_8, ad_10, ad_12, ad_16, ad_24, ad_27, ad_28, ad_31, ad_35, ad_43, ad_51, ad_107, ad_131, ad_311, ml_3, ml_6, ml_7, ml_60, ml_100, ml_2471, mq_12, ar_2, ar_3, ar_4, ar_5, ar_6, of_add, of_mul, on_succ, l1, g_156 hd, mr hρ' (by unfold li; omega : li p k (a + i) < 2471), su_16, su_17, e157]
      exact ih
theorem lp_158 {w : mT} {σ : mS} {τ ρ : Rw} {p a n d : Nat} {Q : Option (Option Value) → Hp → Prop} (hw : lit w) (hτ : mTold σ τ) (hρ : mRow σ 85 0 ρ) (hv : vTold τ) (hr : vRow τ ρ) (hp : p < 3) (ha : a + n ≤ 12) (hn : 1 ≤ n) (hd : 1 ≤ d) (hQ : Q (some none) (mW w (su σ (suT ρ p a n) (suG τ ρ p a n)))) : ∀ (r k : Nat) (x5 x6 : Value), k + r = ρ (24 + p) → (x5 = jk ∧ x6 = jk ∨ ∃ u : Int32, x5 = .int u ∧ (x6 = jk ∨ ∃ u : Int32, x6 = .int u)) → Wp 158 13 [.ref 81, .int (Int32.ofNat p), .int (Int32.ofNat a), .int (Int32.ofNat (a + n - 1)), .int (Int32.ofNat k), x5, x6] [] (mW w (su σ (sm k (smT ρ p a n)) (sm k (smG τ ρ p a n)))) Q d := by
  intro r
  induction r with
  | zero =>
    intro k x5 x6 hk hx
    have hk' : k = ρ (24 + p) := by omega
    subst hk'
    have hρ' := mR_c hρ (su_a (σ := σ) (T := sm (ρ (24 + p)) (smT ρ p a n)) (G := sm (ρ (24 + p)) (smG τ ρ p a n)) (by omega : (85 : Nat) ≠ 81))
    rcases hx with ⟨rfl, rfl⟩ | ⟨u, rfl, rfl | ⟨v, rfl⟩⟩
    · refine b158_13 ?_
      simp only [↓br_pos, ↓br_neg, ↓rF_I, ↓rF_L, ↓rF_R, ↓rF_N, rO_m, rB_m, ↓rI_m, wI_m, ↓rB2_m, ↓rB3_m, wB2_m, wB3_m, ↓rL_m, wL_m, ↓rQ_m, wQ_m, ↓lI_m, pI_m, pL_m, pR_m, sI_m, sBy_m, sBo_m, sL_m, sQ_m, fst_m, true_and, and_true, tg_some, ln_some, uI_1, uI_2, uL_1, uL_2, uL_3, uQ_1, uQ_2, uQ_3, rv_i, rv_l, rv_n, rv_b0, rv_b1, RMR, ne_eq, reduceCtorEq, not_false_eq_true, Option.getD_some, if_true, if_false, and_self, false_and, and_false, Nat.add_left_cancel_iff, Nat.add_eq_left, Nat.left_eq_add, Nat.one_ne_zero, Nat.reduceAdd, Nat.reduceLT, Nat.reduceLeDiff, Nat.reduceEqDiff, true_implies, false_implies, implies_true, Option.some.injEq, forall_eq', forall_eq, reduceCtorEq, brT, brF, br_s, i_10, i_01, ib_0_2, ib_1_2, tn_0, tn_1, Int32.le_refl, eq_self, rv_bN, rv_iM, RCM 81, RLY, lit_at hw, ad_2, ad_4, ad_6, ad_8, ad_10, ad_12, ad_16, ad_24, ad_27, ad_28, ad_31, ad_35, ad_43, ad_51, ad_107, ad_131, ad_311, ml_3, ml_6, ml_7, ml_60, ml_100, ml_2471, mq_12, ar_2, ar_3, ar_4, ar_5, ar_6, of_add, of_mul, on_succ, mr hρ' (by omega : 24 + p < 2471), Int32.le_refl]
      exact hQ
    · refine b158_13a ?_
      simp only [↓br_pos, ↓br_neg, ↓rF_I, ↓rF_L, ↓rF_R, ↓rF_N, rO_m, rB_m, ↓rI_m, wI_m, ↓rB2_m, ↓rB3_m, wB2_m, wB3_m, ↓rL_m, wL_m, ↓rQ_m, wQ_m, ↓lI_m, pI_m, pL_m, pR_m, sI_m, sBy_m, sBo_m, sL_m, sQ_m, fst_m, true_and, and_true, tg_some, ln_some, uI_1, uI_2, uL_1, uL_2, uL_3, uQ_1, uQ_2, uQ_3, rv_i, rv_l, rv_n, rv_b0, rv_b1, RMR, ne_eq, reduceCtorEq, not_false_eq_true, Option.getD_some, if_true, if_false, and_self, false_and, and_false, Nat.add_left_cancel_iff, Nat.add_eq_left, Nat.left_eq_add, Nat.one_ne_zero, Nat.reduceAdd, Nat.reduceLT, Nat.reduceLeDiff, Nat.reduceEqDiff, true_implies, false_implies, implies_true, Option.some.injEq, forall_eq', forall_eq, reduceCtorEq, brT, brF, br_s, i_10, i_01, ib_0_2, ib_1_2, tn_0, tn_1, Int32.le_refl, eq_self, rv_bN, rv_iM, RCM 81, RLY, lit_at hw, ad_2, ad_4, ad_6, ad_8, ad_10, ad_12, ad_16, ad_24, ad_27, ad_28, ad_31, ad_35, ad_43, ad_51, ad_107, ad_131, ad_311, ml_3, ml_6, ml_7, ml_60, ml_100, ml_2471, mq_12, ar_2, ar_3, ar_4, ar_5, ar_6, of_add, of_mul, on_succ, mr hρ' (by omega : 24 + p < 2471), Int32.le_refl]
      exact hQ
    · refine b158_13b ?_
      simp only [↓br_pos, ↓br_neg, ↓rF_I, ↓rF_L, ↓rF_R, ↓rF_N, rO_m, rB_m, ↓rI_m, wI_m, ↓rB2_m, ↓rB3_m, wB2_m, wB3_m, ↓rL_m, wL_m, ↓rQ_m, wQ_m, ↓lI_m, pI_m, pL_m, pR_m, sI_m, sBy_m, sBo_m, sL_m, sQ_m, fst_m, true_and, and_true, tg_some, ln_some, uI_1, uI_2, uL_1, uL_2, uL_3, uQ_1, uQ_2, uQ_3, rv_i, rv_l, rv_n, rv_b0, rv_b1, RMR, ne_eq, reduceCtorEq, not_false_eq_true, Option.getD_some, if_true, if_false, and_self, false_and, and_false, Nat.add_left_cancel_iff, Nat.add_eq_left, Nat.left_eq_add, Nat.one_ne_zero, Nat.reduceAdd, Nat.reduceLT, Nat.reduceLeDiff, Nat.reduceEqDiff, true_implies, false_implies, implies_true, Option.some.injEq, forall_eq', forall_eq, reduceCtorEq, brT, brF, br_s, i_10, i_01, ib_0_2, ib_1_2, tn_0, tn_1, Int32.le_refl, eq_self, rv_bN, rv_iM, RCM 81, RLY, lit_at hw, ad_2, ad_4, ad_6, ad_8, ad_10, ad_12, ad_16, ad_24, ad_27, ad_28, ad_31, ad_35, ad_43, ad_51, ad_107, ad_131, ad_311, ml_3, ml_6, ml_7, ml_60, ml_100, ml_2471, mq_12, ar_2, ar_3, ar_4, ar_5, ar_6, of_add, of_mul, on_succ, mr hρ' (by omega : 24 + p < 2471), Int32.le_refl]
      exact hQ
  | succ r ih =>
    intro k x5 x6 hk hx
    have hla := vR_la hr p hp
    have hl := vR_lo hr p hp k (by omega)
    have v0 := hv.1
    have hρ' := mR_c hρ (su_a (σ := σ) (T := sm k (smT ρ p a n)) (G := sm k (smG τ ρ p a n)) (by omega : (85 : Nat) ≠ 81))
    have l1 : (Int32.ofNat (ρ (24 + p)) ≤ Int32.ofNat k) ↔ False := iff_false_intro (fun q => absurd ((on_le (by omega) (by omega)).mp q) (by omega))
    have N := fun x6 hx => lp_158i (n := n) (a := a) (d := d) (k := k) (Q := Q) hw hτ hρ hp (by omega) ha hn (by omega) hd (fun x6 hx => ih (k + 1) _ x6 (by omega) (Or.inr ⟨_, rfl, hx⟩)) n 0 x6 (by omega) hx
    simp only [Nat.add_zero, smT_0, smG_0] at N
    rcases hx with ⟨rfl, rfl⟩ | ⟨u, rfl, rfl | ⟨v, rfl⟩⟩
    · refine b158_13 ?_
      simp only [↓br_pos, ↓br_neg, ↓rF_I, ↓rF_L, ↓rF_R, ↓rF_N, rO_m, rB_m, ↓rI_m, wI_m, ↓rB2_m, ↓rB3_m, wB2_m, wB3_m, ↓rL_m, wL_m, ↓rQ_m, wQ_m, ↓lI_m, pI_m, pL_m, pR_m, sI_m, sBy_m, sBo_m, sL_m, sQ_m, fst_m, true_and, and_true, tg_some, ln_some, uI_1, uI_2, uL_1, uL_2, uL_3, uQ_1, uQ_2, uQ_3, rv_i, rv_l, rv_n, rv_b0, rv_b1, RMR, ne_eq, reduceCtorEq, not_false_eq_true, Option.getD_some, if_true, if_false, and_self, false_and, and_false, Nat.add_left_cancel_iff, Nat.add_eq_left, Nat.left_eq_add, Nat.one_ne_zero, Nat.reduceAdd, Nat.reduceLT, Nat.reduceLeDiff, Nat.reduceEqDiff, true_implies, false_implies, implies_true, Option.some.injEq, forall_eq', forall_eq, reduceCtorEq, brT, brF, br_s, i_10, i_01, ib_0_2, ib_1_2, tn_0, tn_1, Int32.le_refl, eq_self, rv_bN, rv_iM, RCM 81, RLY, lit_at hw, ad_2, ad_4, ad_6, ad_8, ad_10, ad_12, ad_16, ad_24, ad_27, ad_28, ad_31, ad_35, ad_43, ad_51, ad_107, ad_131, ad_311, ml_3, ml_6, ml_7, ml_60, ml_100, ml_2471, mq_12, ar_2, ar_3, ar_4, ar_5, ar_6, of_add, of_mul, on_succ, mr hρ' (by omega : 24 + p < 2471), l1]
      exact N _ (Or.inl rfl)
    · refine b158_13a ?_
      simp only [↓br_pos, ↓br_neg, ↓rF_I, ↓rF_L, ↓rF_R, ↓rF_N, rO_m, rB_m, ↓rI_m, wI_m, ↓rB2_m, ↓rB3_m, wB2_m, wB3_m, ↓rL_m, wL_m, ↓rQ_m, wQ_m, ↓lI_m, pI_m, pL_m, pR_m, sI_m, sBy_m, sBo_m, sL_m, sQ_m, fst_m, true_and, and_true, tg_some, ln_some, uI_1, uI_2, uL_1, uL_2, uL_3, uQ_1, uQ_2, uQ_3, rv_i, rv_l, rv_n, rv_b0, rv_b1, RMR, ne_eq, reduceCtorEq, not_false_eq_true, Option.getD_some, if_true, if_false, and_self, false_and, and_false, Nat.add_left_cancel_iff, Nat.add_eq_left, Nat.left_eq_add, Nat.one_ne_zero, Nat.reduceAdd, Nat.reduceLT, Nat.reduceLeDiff, Nat.reduceEqDiff, true_implies, false_implies, implies_true, Option.some.injEq, forall_eq', forall_eq, reduceCtorEq, brT, brF, br_s, i_10, i_01, ib_0_2, ib_1_2, tn_0, tn_1, Int32.le_refl, eq_self, rv_bN, rv_iM, RCM 81, RLY, lit_at hw, ad_2, ad_4, ad_6, ad_8, ad_10, ad_12, ad_16, ad_24, ad_27, ad_28, ad_31, ad_35, ad_43, ad_51, ad_107, ad_131, ad_311, ml_3, ml_6, ml_7, ml_60, ml_100, ml_2471, mq_12, ar_2, ar_3, ar_4, ar_5, ar_6, of_add, of_mul, on_succ, mr hρ' (by omega : 24 + p < 2471), l1]
      exact N _ (Or.inl rfl)
    · refine b158_13b ?_
      simp only [↓br_pos, ↓br_neg, ↓rF_I, ↓rF_L, ↓rF_R, ↓rF_N, rO_m, rB_m, ↓rI_m, wI_m, ↓rB2_m, ↓rB3_m, wB2_m, wB3_m, ↓rL_m, wL_m, ↓rQ_m, wQ_m, ↓lI_m, pI_m, pL_m, pR_m, sI_m, sBy_m, sBo_m, sL_m, sQ_m, fst_m, true_and, and_true, tg_some, ln_some, uI_1, uI_2, uL_1, uL_2, uL_3, uQ_1, uQ_2, uQ_3, rv_i, rv_l, rv_n, rv_b0, rv_b1, RMR, ne_eq, reduceCtorEq, not_false_eq_true, Option.getD_some, if_true, if_false, and_self, false_and, and_false, Nat.add_left_cancel_iff, Nat.add_eq_left, Nat.left_eq_add, Nat.one_ne_zero, Nat.reduceAdd, Nat.reduceLT, Nat.reduceLeDiff, Nat.reduceEqDiff, true_implies, false_implies, implies_true, Option.some.injEq, forall_eq', forall_eq, reduceCtorEq, brT, brF, br_s, i_10, i_01, ib_0_2, ib_1_2, tn_0, tn_1, Int32.le_refl, eq_self, rv_bN, rv_iM, RCM 81, RLY, lit_at hw, ad_2, ad_4, ad_6, ad_8, ad_10, ad_12, ad_16, ad_24, ad_27, ad_28, ad_31, ad_35, ad_43, ad_51, ad_107, ad_131, ad_311, ml_3, ml_6, ml_7, ml_60, ml_100, ml_2471, mq_12, ar_2, ar_3, ar_4, ar_5, ar_6, of_add, of_mul, on_succ, mr hρ' (by omega : 24 + p < 2471), l1]
      exact N _ (Or.inr ⟨_, rfl⟩)
theorem g_158 {w : mT} {σ : mS} {τ ρ : Rw} {p a n : Nat} {x : Int32} {D : Nat} {K : Hp → Prop} (hw : lit w) (hτ : mTold σ τ) (hρ : mRow σ 85 0 ρ) (hv : vTold τ) (hr : vRow τ ρ) (hp : p < 3) (ha : a + n ≤ 12) (hn : 1 ≤ n) (hx : x = Int32.ofNat (a + n - 1)) (hD : 2 ≤ D) : wpV D 158 [.ref 81, .int (Int32.ofNat p), .int (Int32.ofNat a), .int x] (mW w σ) K ↔ K (mW w (su σ (suT ρ p a n) (suG τ ρ p a n))) := by
  subst hx
  refine cV_of (m := 1) (fun d hd Q hQ => ?_) rfl hD
  refine b158_0 ?_
  simp only [↓br_pos, ↓br_neg, ↓rF_I, ↓rF_L, ↓rF_R, ↓rF_N, rO_m, rB_m, ↓rI_m, wI_m, ↓rB2_m, ↓rB3_m, wB2_m, wB3_m, ↓rL_m, wL_m, ↓rQ_m, wQ_m, ↓lI_m, pI_m, pL_m, pR_m, sI_m, sBy_m, sBo_m, sL_m, sQ_m, fst_m, true_and, and_true, tg_some, ln_some, uI_1, uI_2, uL_1, uL_2, uL_3, uQ_1, uQ_2, uQ_3, rv_i, rv_l, rv_n, rv_b0, rv_b1, RMR, ne_eq, reduceCtorEq, not_false_eq_true, Option.getD_some, if_true, if_false, and_self, false_and, and_false, Nat.add_left_cancel_iff, Nat.add_eq_left, Nat.left_eq_add, Nat.one_ne_zero, Nat.reduceAdd, Nat.reduceLT, Nat.reduceLeDiff, Nat.reduceEqDiff, true_implies, false_implies, implies_true, Option.some.injEq, forall_eq', forall_eq, reduceCtorEq, brT, brF, br_s, i_10, i_01, ib_0_2, ib_1_2, tn_0, tn_1, Int32.le_refl, eq_self, rv_bN, rv_iM, RCM 81, RLY, lit_at hw, su_0]
  exact lp_158 hw hτ hρ hv hr hp ha hn hd hQ (ρ (24 + p)) 0 jk jk (by omega) (Or.inl ⟨rfl, rfl⟩)
/-- one cell, all of a pile -/
theorem g_158c {w : mT} {σ : mS} {τ ρ : Rw} {p c : Nat} {D : Nat} {K : Hp → Prop} (hw : lit w) (hτ : mTold σ τ) (hρ : mRow σ 85 0 ρ) (hv : vTold τ) (hr : vRow τ ρ) (hp : p < 3) (hc : c < 12) (hD : 2 ≤ D) : wpV D 158 [.ref 81, .int (Int32.ofNat p), .int (Int32.ofNat c), .int (Int32.ofNat c)] (mW w σ) K ↔ K (mW w (su σ (tOn ρ p c) (gOn τ ρ p c))) := by
  have := g_158 (p := p) (a := c) (n := 1) (x := Int32.ofNat c) (K := K) hw hτ hρ hv hr hp (by omega) (by omega) rfl hD
  rw [suT_1, suG_1] at this
  exact this
theorem g_158p {w : mT} {σ : mS} {τ ρ : Rw} {p : Nat} {D : Nat} {K : Hp → Prop} (hw : lit w) (hτ : mTold σ τ) (hρ : mRow σ 85 0 ρ) (hv : vTold τ) (hr : vRow τ ρ) (hp : p < τ 1) (hD : 2 ≤ D) : wpV D 158 [.ref 81, .int (Int32.ofNat p), .int (0 : Int32), .int (Int32.ofNat (τ (28 + p)) - 1)] (mW w σ) K ↔ K (mW w (su σ (tPi τ ρ p) (gPi τ ρ p))) := by
  have v1 := hv.2.1
  have v2 := hv.2.2.2.2.2.1 p hp
  have := g_158 (p := p) (a := 0) (n := τ (28 + p)) (x := Int32.ofNat (τ (28 + p)) - 1) (K := K) hw hτ hρ hv hr (by omega) (by omega) (by omega) (by rw [on_pred (by omega), Nat.zero_add]) hD
  rw [suT_p, suG_p] at this
  exact this
def arB (τ ρ : Rw) (m p b : Nat) : Nat → Bool
  | 0 => true
  | n + 1 => arB τ ρ m p b n && decide (frP τ ρ m p (b + n))
theorem arB_iff {τ ρ : Rw} {m p b n : Nat} : arB τ ρ m p b n = true ↔ ∀ i, i < n → frP τ ρ m p (b + i) := by
  induction n with
  | zero => exact ⟨fun _ i hi => by omega, fun _ => rfl⟩
  | succ n ih =>
    show (arB τ ρ m p b n && decide (frP τ ρ m p (b + n))) = true ↔ _
    rw [Bool.and_eq_true, ih, decide_eq_true_iff]
    constructor
    · intro h i hi
      by_cases e : i = n
      · rw [e]; exact h.2
      · exact h.1 i (by omega)
    · intro h
      exact ⟨fun i hi => h i (by omega), h n (by omega)⟩
theorem apP_iff {τ ρ : Rw} {m p a b : Nat} : apP τ ρ m p a b ↔ arB τ ρ m p (min a b) (dist a b + 1) = true ∧ (onAtD ρ m p = true → arB τ ρ m p (min (cellAt ρ m) a) (dist (cellAt ρ m) a + 1) = true) := by
  rw [arB_iff, arB_iff]
  unfold apP frP apLo apHi
  by_cases y : onAtD ρ (1 - m) p = true
  · generalize cellAt ρ (1 - m) = x
    generalize τ 3 = g
    by_cases z : onAtD ρ m p = true
    · rw [if_pos z, if_pos z]
      generalize cellAt ρ m = h
      constructor
      · intro q
        have q' : x + g < min (min a b) h ∨ max (max a b) h + g < x := Decidable.not_not.mp (fun r => q ⟨y, r⟩)
        exact ⟨fun i hi r => by have := r.2; unfold dist at this hi; omega, fun _ i hi r => by have := r.2; unfold dist at this hi; omega⟩
      · intro q r
        obtain ⟨q1, q2⟩ := q
        have q2 := q2 z
        have r := r.2
        by_cases c1 : min a b ≤ max (min (min a b) h) (min x (max (max a b) h)) ∧ max (min (min a b) h) (min x (max (max a b) h)) ≤ max a b
        · exact q1 (max (min (min a b) h) (min x (max (max a b) h)) - min a b) (by unfold dist; omega) ⟨y, by unfold dist; omega⟩
        · exact q2 (max (min (min a b) h) (min x (max (max a b) h)) - min h a) (by unfold dist; omega) ⟨y, by unfold dist; omega⟩
    · rw [if_neg z, if_neg z]
      constructor
      · intro q
        have q' : x + g < min a b ∨ max a b + g < x := Decidable.not_not.mp (fun r => q ⟨y, r⟩)
        exact ⟨fun i hi r => by have := r.2; unfold dist at this hi; omega, fun w => absurd w z⟩
      · intro q r
        have r := r.2
        exact q.1 (max (min a b) (min x (max a b)) - min a b) (by unfold dist; omega) ⟨y, by unfold dist; omega⟩
  · exact ⟨fun _ => ⟨fun _ _ q => y q.1, fun _ _ _ q => y q.1⟩, fun _ q => y q.1⟩
theorem lp_173 {w : mT} {σ : mS} {τ ρ : Rw} {m p a b d : Nat} {Q : Option (Option Value) → Hp → Prop} (hw : lit w) (hτ : mTold σ τ) (hρ : mRow σ 85 0 ρ) (hv : vTold τ) (hm : m < 2) (hs : ρ (2 + (1 - m)) < 1000) (hp : p < 1000) (ha : a < 100) (hb : b < 100) (hd : 2 ≤ d) (hQ : Q (some (some (.int (iB (arB τ ρ m p (min a b) (dist a b + 1) = true))))) (mW w σ)) : ∀ (r i : Nat), i + r = dist a b + 1 → Wp 173 11 [.ref 81, .int (Int32.ofNat m), .int (Int32.ofNat p), .int (Int32.ofNat a), .int (Int32.ofNat b), .int (iB (arB τ ρ m p (min a b) i = true)), .int (Int32.ofNat (min a b + i))] [] (mW w σ) Q d := by
  intro r
  induction r with
  | zero =>
    intro i hi
    have hi' : i = dist a b + 1 := by omega
    subst hi'
    have c : (Int32.ofNat (max a b) < Int32.ofNat (min a b + (dist a b + 1))) ↔ True := iff_true_intro ((on_lt (by omega) (by unfold dist; omega)).mpr (by unfold dist; omega))
    refine b173_11 ?_
    simp only [max_2 (by omega : a < 2147483648) (by omega : b < 2147483648)]
    simp only [↓br_pos, ↓br_neg, ↓rF_I, ↓rF_L, ↓rF_R, ↓rF_N, rO_m, rB_m, ↓rI_m, wI_m, ↓rB2_m, ↓rB3_m, wB2_m, wB3_m, ↓rL_m, wL_m, ↓rQ_m, wQ_m, ↓lI_m, pI_m, pL_m, pR_m, sI_m, sBy_m, sBo_m, sL_m, sQ_m, fst_m, true_and, and_true, tg_some, ln_some, uI_1, uI_2, uL_1, uL_2, uL_3, uQ_1, uQ_2, uQ_3, rv_i, rv_l, rv_n, rv_b0, rv_b1, RMR, ne_eq, reduceCtorEq, not_false_eq_true, Option.getD_some, if_true, if_false, and_self, false_and, and_false, Nat.add_left_cancel_iff, Nat.add_eq_left, Nat.left_eq_add, Nat.one_ne_zero, Nat.reduceAdd, Nat.reduceLT, Nat.reduceLeDiff, Nat.reduceEqDiff, true_implies, false_implies, implies_true, Option.some.injEq, forall_eq', forall_eq, reduceCtorEq, brT, brF, br_s, i_10, i_01, ib_0_2, ib_1_2, tn_0, tn_1, Int32.le_refl, eq_self, rv_bN, rv_iM, RCM 81, RLY, lit_at hw, c, rv_iB]
    exact hQ
  | succ r ih =>
    intro i hi
    have c : (Int32.ofNat (max a b) < Int32.ofNat (min a b + i)) ↔ False := iff_false_intro (fun q => absurd ((on_lt (by omega) (by unfold dist at hi; omega)).mp q) (by unfold dist at hi; omega))
    have ih := ih (i + 1) (by omega)
    have e : arB τ ρ m p (min a b) (i + 1) = (arB τ ρ m p (min a b) i && decide (frP τ ρ m p (min a b + i))) := rfl
    rw [e] at ih
    refine b173_11 ?_
    simp only [max_2 (by omega : a < 2147483648) (by omega : b < 2147483648)]
    by_cases z : arB τ ρ m p (min a b) i = true
    · have g := fun {K : Int32 → Hp → Prop} => g_172 (K := K) (m := m) (p := p) (c := min a b + i) hw hτ hρ hv hm hs hp (by unfold dist at hi; omega) hd
      by_cases y : frP τ ρ m p (min a b + i)
      · have eB : iB ((arB τ ρ m p (min a b) i && decide (frP τ ρ m p (min a b + i))) = true) = 1 := iB_t (by rw [z, decide_eq_true y]; rfl)
        rw [eB] at ih
        simp only [↓br_pos, ↓br_neg, ↓rF_I, ↓rF_L, ↓rF_R, ↓rF_N, rO_m, rB_m, ↓rI_m, wI_m, ↓rB2_m, ↓rB3_m, wB2_m, wB3_m, ↓rL_m, wL_m, ↓rQ_m, wQ_m, ↓lI_m, pI_m, pL_m, pR_m, sI_m, sBy_m, sBo_m, sL_m, sQ_m, fst_m, true_and, and_true, tg_some, ln_some, uI_1, uI_2, uL_1, uL_2, uL_3, uQ_1, uQ_2, uQ_3, rv_i, rv_l, rv_n, rv_b0, rv_b1, RMR, ne_eq, reduceCtorEq, not_false_eq_true, Option.getD_some, if_true, if_false, and_self, false_and, and_false, Nat.add_left_cancel_iff, Nat.add_eq_left, Nat.left_eq_add, Nat.one_ne_zero, Nat.reduceAdd, Nat.reduceLT, Nat.reduceLeDiff, Nat.reduceEqDiff, true_implies, false_implies, implies_true, Option.some.injEq, forall_eq', forall_eq, reduceCtorEq, brT, brF, br_s, i_10, i_01, ib_0_2, ib_1_2, tn_0, tn_1, Int32.le_refl, eq_self, rv_bN, rv_iM, RCM 81, RLY, lit_at hw, c, iB_t z, z10, g, iB_t y, on_succ]
        exact ih
      · have eB : iB ((arB τ ρ m p (min a b) i && decide (frP τ ρ m p (min a b + i))) = true) = 0 := iB_f (by rw [decide_eq_false y, Bool.and_false]; decide)
        rw [eB] at ih
        simp only [↓br_pos, ↓br_neg, ↓rF_I, ↓rF_L, ↓rF_R, ↓rF_N, rO_m, rB_m, ↓rI_m, wI_m, ↓rB2_m, ↓rB3_m, wB2_m, wB3_m, ↓rL_m, wL_m, ↓rQ_m, wQ_m, ↓lI_m, pI_m, pL_m, pR_m, sI_m, sBy_m, sBo_m, sL_m, sQ_m, fst_m, true_and, and_true, tg_some, ln_some, uI_1, uI_2, uL_1, uL_2, uL_3, uQ_1, uQ_2, uQ_3, rv_i, rv_l, rv_n, rv_b0, rv_b1, RMR, ne_eq, reduceCtorEq, not_false_eq_true, Option.getD_some, if_true, if_false, and_self, false_and, and_false, Nat.add_left_cancel_iff, Nat.add_eq_left, Nat.left_eq_add, Nat.one_ne_zero, Nat.reduceAdd, Nat.reduceLT, Nat.reduceLeDiff, Nat.reduceEqDiff, true_implies, false_implies, implies_true, Option.some.injEq, forall_eq', forall_eq, reduceCtorEq, brT, brF, br_s, i_10, i_01, ib_0_2, ib_1_2, tn_0, tn_1, Int32.le_refl, eq_self, rv_bN, rv_iM, RCM 81, RLY, lit_at hw, c, iB_t z, z10, z00, g, iB_f y, on_succ]
        exact ih
    · have eB : iB ((arB τ ρ m p (min a b) i && decide (frP τ ρ m p (min a b + i))) = true) = 0 := iB_f (fun q => z (Bool.and_eq_true _ _ ▸ q).1)
      rw [eB] at ih
      simp only [↓br_pos, ↓br_neg, ↓rF_I, ↓rF_L, ↓rF_R, ↓rF_N, rO_m, rB_m, ↓rI_m, wI_m, ↓rB2_m, ↓rB3_m, wB2_m, wB3_m, ↓rL_m, wL_m, ↓rQ_m, wQ_m, ↓lI_m, pI_m, pL_m, pR_m, sI_m, sBy_m, sBo_m, sL_m, sQ_m, fst_m, true_and, and_true, tg_some, ln_some, uI_1, uI_2, uL_1, uL_2, uL_3, uQ_1, uQ_2, uQ_3, rv_i, rv_l, rv_n, rv_b0, rv_b1, RMR, ne_eq, reduceCtorEq, not_false_eq_true, Option.getD_some, if_true, if_false, and_self, false_and, and_false, Nat.add_left_cancel_iff, Nat.add_eq_left, Nat.left_eq_add, Nat.one_ne_zero, Nat.reduceAdd, Nat.reduceLT, Nat.reduceLeDiff, Nat.reduceEqDiff, true_implies, false_implies, implies_true, Option.some.injEq, forall_eq', forall_eq, reduceCtorEq, brT, brF, br_s, i_10, i_01, ib_0_2, ib_1_2, tn_0, tn_1, Int32.le_refl, eq_self, rv_bN, rv_iM, RCM 81, RLY, lit_at hw, c, iB_f z, z00, on_succ]
      exact ih
theorem g_173 {w : mT} {σ : mS} {τ ρ : Rw} {m p a b : Nat} {D : Nat} {K : Int32 → Hp → Prop} (hw : lit w) (hτ : mTold σ τ) (hρ : mRow σ 85 0 ρ) (hv : vTold τ) (hm : m < 2) (hs : ρ (2 + (1 - m)) < 1000) (hp : p < 1000) (ha : a < 100) (hb : b < 100) (hD : 3 ≤ D) : wpI D 173 [.ref 81, .int (Int32.ofNat m), .int (Int32.ofNat p), .int (Int32.ofNat a), .int (Int32.ofNat b)] (mW w σ) K ↔ K (iB (arB τ ρ m p (min a b) (dist a b + 1) = true)) (mW w σ) := by
  refine cI_of (m := 2) (fun d hd Q hQ => ?_) rfl hD
  refine b173_0 ?_
  simp only [min_of (by omega : b < 2147483648) (by omega : a < 2147483648)]
  exact lp_173 hw hτ hρ hv hm hs hp ha hb hd hQ (dist a b + 1) 0 (by omega)
theorem g_174 {w : mT} {σ : mS} {τ ρ : Rw} {m p a b : Nat} {x : Int32} {D : Nat} {K : Int32 → Hp → Prop} (hw : lit w) (hτ : mTold σ τ) (hρ : mRow σ 85 0 ρ) (hv : vTold τ) (hx : x = Int32.ofNat m) (hm : m < 2) (hs : ρ (2 + m) < 1000) (ho : ρ (2 + (1 - m)) < 1000) (hp : p < 1000) (ha : a < 100) (hb : b < 100) (hD : 4 ≤ D) : wpI D 174 [.ref 81, .int x, .int (Int32.ofNat p), .int (Int32.ofNat a), .int (Int32.ofNat b)] (mW w σ) K ↔ K (iB (apP τ ρ m p a b)) (mW w σ) := by
  subst hx
  refine cI_of (m := 3) (fun d hd Q hQ => ?_) rfl hD
  have hd1 : 1 ≤ d := by omega
  rw [iB_c apP_iff] at hQ
  have g1 := fun {K : Int32 → Hp → Prop} => g_173 (K := K) (a := a) (b := b) hw hτ hρ hv hm ho hp ha hb hd
  have g0 := fun {K : Int32 → Hp → Prop} => g_170 (K := K) (m := m) (p := p) hw hρ hm hs hp hd1
  refine b174_0 ?_
  by_cases z : arB τ ρ m p (min a b) (dist a b + 1) = true
  · by_cases y : onAtD ρ m p = true
    · have l100 := cAt_lt (ρ := ρ) (m := m)
      have y0 := (of_decide_eq_true y).1
      have g3 := fun {K : Int32 → Hp → Prop} => g_173 (K := K) (a := cellAt ρ m) (b := a) hw hτ hρ hv hm ho hp l100 ha hd
      by_cases x : arB τ ρ m p (min (cellAt ρ m) a) (dist (cellAt ρ m) a + 1) = true
      · rw [iB_t ⟨z, fun _ => x⟩] at hQ
        simp only [↓br_pos, ↓br_neg, ↓rF_I, ↓rF_L, ↓rF_R, ↓rF_N, rO_m, rB_m, ↓rI_m, wI_m, ↓rB2_m, ↓rB3_m, wB2_m, wB3_m, ↓rL_m, wL_m, ↓rQ_m, wQ_m, ↓lI_m, pI_m, pL_m, pR_m, sI_m, sBy_m, sBo_m, sL_m, sQ_m, fst_m, true_and, and_true, tg_some, ln_some, uI_1, uI_2, uL_1, uL_2, uL_3, uQ_1, uQ_2, uQ_3, rv_i, rv_l, rv_n, rv_b0, rv_b1, RMR, ne_eq, reduceCtorEq, not_false_eq_true, Option.getD_some, if_true, if_false, and_self, false_and, and_false, Nat.add_left_cancel_iff, Nat.add_eq_left, Nat.left_eq_add, Nat.one_ne_zero, Nat.reduceAdd, Nat.reduceLT, Nat.reduceLeDiff, Nat.reduceEqDiff, true_implies, false_implies, implies_true, Option.some.injEq, forall_eq', forall_eq, reduceCtorEq, brT, brF, br_s, i_10, i_01, ib_0_2, ib_1_2, tn_0, tn_1, Int32.le_refl, eq_self, rv_bN, rv_iM, RCM 81, RLY, lit_at hw, g1, iB_t z, z10, g0, iB_t y, g_171 hw hρ hm y0 hs hd1, g3, iB_t x]
        exact hQ
      · rw [iB_f (fun q => x (q.2 y))] at hQ
        simp only [↓br_pos, ↓br_neg, ↓rF_I, ↓rF_L, ↓rF_R, ↓rF_N, rO_m, rB_m, ↓rI_m, wI_m, ↓rB2_m, ↓rB3_m, wB2_m, wB3_m, ↓rL_m, wL_m, ↓rQ_m, wQ_m, ↓lI_m, pI_m, pL_m, pR_m, sI_m, sBy_m, sBo_m, sL_m, sQ_m, fst_m, true_and, and_true, tg_some, ln_some, uI_1, uI_2, uL_1, uL_2, uL_3, uQ_1, uQ_2, uQ_3, rv_i, rv_l, rv_n, rv_b0, rv_b1, RMR, ne_eq, reduceCtorEq, not_false_eq_true, Option.getD_some, if_true, if_false, and_self, false_and, and_false, Nat.add_left_cancel_iff, Nat.add_eq_left, Nat.left_eq_add, Nat.one_ne_zero, Nat.reduceAdd, Nat.reduceLT, Nat.reduceLeDiff, Nat.reduceEqDiff, true_implies, false_implies, implies_true, Option.some.injEq, forall_eq', forall_eq, reduceCtorEq, brT, brF, br_s, i_10, i_01, ib_0_2, ib_1_2, tn_0, tn_1, Int32.le_refl, eq_self, rv_bN, rv_iM, RCM 81, RLY, lit_at hw, g1, iB_t z, z10, z00, g0, iB_t y, g_171 hw hρ hm y0 hs hd1, g3, iB_f x]
        exact hQ
    · rw [iB_t ⟨z, fun q => absurd q y⟩] at hQ
      simp only [↓br_pos, ↓br_neg, ↓rF_I, ↓rF_L, ↓rF_R, ↓rF_N, rO_m, rB_m, ↓rI_m, wI_m, ↓rB2_m, ↓rB3_m, wB2_m, wB3_m, ↓rL_m, wL_m, ↓rQ_m, wQ_m, ↓lI_m, pI_m, pL_m, pR_m, sI_m, sBy_m, sBo_m, sL_m, sQ_m, fst_m, true_and, and_true, tg_some, ln_some, uI_1, uI_2, uL_1, uL_2, uL_3, uQ_1, uQ_2, uQ_3, rv_i, rv_l, rv_n, rv_b0, rv_b1, RMR, ne_eq, reduceCtorEq, not_false_eq_true, Option.getD_some, if_true, if_false, and_self, false_and, and_false, Nat.add_left_cancel_iff, Nat.add_eq_left, Nat.left_eq_add, Nat.one_ne_zero, Nat.reduceAdd, Nat.reduceLT, Nat.reduceLeDiff, Nat.reduceEqDiff, true_implies, false_implies, implies_true, Option.some.injEq, forall_eq', forall_eq, reduceCtorEq, brT, brF, br_s, i_10, i_01, ib_0_2, ib_1_2, tn_0, tn_1, Int32.le_refl, eq_self, rv_bN, rv_iM, RCM 81, RLY, lit_at hw, g1, iB_t z, z10, z00, g0, iB_f y]
      exact hQ
  · rw [iB_f (fun q => z q.1)] at hQ
    simp only [↓br_pos, ↓br_neg, ↓rF_I, ↓rF_L, ↓rF_R, ↓rF_N, rO_m, rB_m, ↓rI_m, wI_m, ↓rB2_m, ↓rB3_m, wB2_m, wB3_m, ↓rL_m, wL_m, ↓rQ_m, wQ_m, ↓lI_m, pI_m, pL_m, pR_m, sI_m, sBy_m, sBo_m, sL_m, sQ_m, fst_m, true_and, and_true, tg_some, ln_some, uI_1, uI_2, uL_1, uL_2, uL_3, uQ_1, uQ_2, uQ_3, rv_i, rv_l, rv_n, rv_b0, rv_b1, RMR, ne_eq, reduceCtorEq, not_false_eq_true, Option.getD_some, if_true, if_false, and_self, false_and, and_false, Nat.add_left_cancel_iff, Nat.add_eq_left, Nat.left_eq_add, Nat.one_ne_zero, Nat.reduceAdd, Nat.reduceLT, Nat.reduceLeDiff, Nat.reduceEqDiff, true_implies, false_implies, implies_true, Option.some.injEq, forall_eq', forall_eq, reduceCtorEq, brT, brF, br_s, i_10, i_01, ib_0_2, ib_1_2, tn_0, tn_1, Int32.le_refl, eq_self, rv_bN, rv_iM, RCM 81, RLY, lit_at hw, g1, iB_f z, z00]
    exact hQ
theorem g_175 {w : mT} {σ : mS} {ρ : Rw} {m p c : Nat} {x : Int32} {D : Nat} {K : Int32 → Hp → Prop} (hw : lit w) (hρ : mRow σ 85 0 ρ) (hx : x = Int32.ofNat m) (hm : m < 2) (hs : ρ (2 + m) < 1000) (hp : p < 1000) (hc : c < 1000) (hD : 2 ≤ D) : wpI D 175 [.ref 81, .int x, .int (Int32.ofNat p), .int (Int32.ofNat c)] (mW w σ) K ↔ K (Int32.ofNat (if onAtD ρ m p then dist (cellAt ρ m) c else 10)) (mW w σ) := by
  subst hx
  refine cI_of (m := 1) (fun d hd Q hQ => ?_) rfl hD
  refine b175_0 ?_
  have g0 := fun {K : Int32 → Hp → Prop} => g_170 (K := K) (m := m) (p := p) hw hρ hm hs hp hd
  have l100 := cAt_lt (ρ := ρ) (m := m)
  by_cases y : onAtD ρ m p = true
  · rw [if_pos y] at hQ
    have y0 := (of_decide_eq_true y).1
    simp only [↓br_pos, ↓br_neg, ↓rF_I, ↓rF_L, ↓rF_R, ↓rF_N, rO_m, rB_m, ↓rI_m, wI_m, ↓rB2_m, ↓rB3_m, wB2_m, wB3_m, ↓rL_m, wL_m, ↓rQ_m, wQ_m, ↓lI_m, pI_m, pL_m, pR_m, sI_m, sBy_m, sBo_m, sL_m, sQ_m, fst_m, true_and, and_true, tg_some, ln_some, uI_1, uI_2, uL_1, uL_2, uL_3, uQ_1, uQ_2, uQ_3, rv_i, rv_l, rv_n, rv_b0, rv_b1, RMR, ne_eq, reduceCtorEq, not_false_eq_true, Option.getD_some, if_true, if_false, and_self, false_and, and_false, Nat.add_left_cancel_iff, Nat.add_eq_left, Nat.left_eq_add, Nat.one_ne_zero, Nat.reduceAdd, Nat.reduceLT, Nat.reduceLeDiff, Nat.reduceEqDiff, true_implies, false_implies, implies_true, Option.some.injEq, forall_eq', forall_eq, reduceCtorEq, brT, brF, br_s, i_10, i_01, ib_0_2, ib_1_2, tn_0, tn_1, Int32.le_refl, eq_self, rv_bN, rv_iM, RCM 81, RLY, lit_at hw, g0, iB_t y, z10, g_171 hw hρ hm y0 hs hd, abs_of (by omega : cellAt ρ m < 2147483648) (by omega : c < 2147483648)]
    exact hQ
  · rw [if_neg y] at hQ
    simp only [↓br_pos, ↓br_neg, ↓rF_I, ↓rF_L, ↓rF_R, ↓rF_N, rO_m, rB_m, ↓rI_m, wI_m, ↓rB2_m, ↓rB3_m, wB2_m, wB3_m, ↓rL_m, wL_m, ↓rQ_m, wQ_m, ↓lI_m, pI_m, pL_m, pR_m, sI_m, sBy_m, sBo_m, sL_m, sQ_m, fst_m, true_and, and_true, tg_some, ln_some, uI_1, uI_2, uL_1, uL_2, uL_3, uQ_1, uQ_2, uQ_3, rv_i, rv_l, rv_n, rv_b0, rv_b1, RMR, ne_eq, reduceCtorEq, not_false_eq_true, Option.getD_some, if_true, if_false, and_self, false_and, and_false, Nat.add_left_cancel_iff, Nat.add_eq_left, Nat.left_eq_add, Nat.one_ne_zero, Nat.reduceAdd, Nat.reduceLT, Nat.reduceLeDiff, Nat.reduceEqDiff, true_implies, false_implies, implies_true, Option.some.injEq, forall_eq', forall_eq, reduceCtorEq, brT, brF, br_s, i_10, i_01, ib_0_2, ib_1_2, tn_0, tn_1, Int32.le_refl, eq_self, rv_bN, rv_iM, RCM 81, RLY, lit_at hw, g0, iB_f y, z00]
    exact hQ
theorem g_176 {w : mT} {σ : mS} {m p c : Nat} {x : Int32} {D : Nat} {K : Hp → Prop} (hw : lit w) (hx : x = Int32.ofNat m) (hm : m < 2) (hD : 1 ≤ D) : wpV D 176 [.ref 81, .int x, .int (Int32.ofNat p), .int (Int32.ofNat c)] (mW w σ) K ↔ K (mW w (uI σ 85 (2 + m) (Int32.ofNat (100 * p + c + 1)))) := by
  subst hx
  refine cV_of (m := 0) (fun d hd Q hQ => ?_) rfl hD
  refine b176_0 ?_
  have eb : inB (Int32.ofNat (2 + m)) 2471 = true := on_inB (by omega) (by omega)
  have en := on_nat (i := 2 + m) (by omega)
  simp only [↓br_pos, ↓br_neg, ↓rF_I, ↓rF_L, ↓rF_R, ↓rF_N, rO_m, rB_m, ↓rI_m, wI_m, ↓rB2_m, ↓rB3_m, wB2_m, wB3_m, ↓rL_m, wL_m, ↓rQ_m, wQ_m, ↓lI_m, pI_m, pL_m, pR_m, sI_m, sBy_m, sBo_m, sL_m, sQ_m, fst_m, true_and, and_true, tg_some, ln_some, uI_1, uI_2, uL_1, uL_2, uL_3, uQ_1, uQ_2, uQ_3, rv_i, rv_l, rv_n, rv_b0, rv_b1, RMR, ne_eq, reduceCtorEq, not_false_eq_true, Option.getD_some, if_true, if_false, and_self, false_and, and_false, Nat.add_left_cancel_iff, Nat.add_eq_left, Nat.left_eq_add, Nat.one_ne_zero, Nat.reduceAdd, Nat.reduceLT, Nat.reduceLeDiff, Nat.reduceEqDiff, true_implies, false_implies, implies_true, Option.some.injEq, forall_eq', forall_eq, reduceCtorEq, brT, brF, br_s, i_10, i_01, ib_0_2, ib_1_2, tn_0, tn_1, Int32.le_refl, eq_self, rv_bN, rv_iM, RCM 81, RLY, lit_at hw, ad_2, ad_4, ad_6, ad_8, ad_10, ad_12, ad_16, ad_24, ad_27, ad_28, ad_31, ad_35, ad_43, ad_51, ad_107, ad_131, ad_311, ml_3, ml_6, ml_7, ml_60, ml_100, ml_2471, mq_12, ar_2, ar_3, ar_4, ar_5, ar_6, of_add, of_mul, on_succ, eb, en]
  exact hQ
theorem g_178 {w : mT} {σ : mS} {τ : Rw} {p l a b t : Int32} {D : Nat} {K : Int32 → Hp → Prop} (hw : lit w) (hτ : mTold σ τ) (hv : vTold τ) (hD : 4 ≤ D) : wpI D 178 [.ref 81, .int p, .int l, .int a, .int b, .int t] (mW w σ) K ↔ K (iB (cbP τ p l a b t)) (mW w σ) := by
  refine cI_of (m := 3) (fun d hd Q hQ => ?_) rfl hD
  have hd1 : 1 ≤ d := by omega
  have hd2 : 2 ≤ d := by omega
  refine b178_0 ?_
  rcases bN_01 (a := l) (n := τ 0) with z | z
  · rw [iB_f (fun q => absurd (z.symm.trans q.1) (by decide))] at hQ
    simp only [↓br_pos, ↓br_neg, ↓rF_I, ↓rF_L, ↓rF_R, ↓rF_N, rO_m, rB_m, ↓rI_m, wI_m, ↓rB2_m, ↓rB3_m, wB2_m, wB3_m, ↓rL_m, wL_m, ↓rQ_m, wQ_m, ↓lI_m, pI_m, pL_m, pR_m, sI_m, sBy_m, sBo_m, sL_m, sQ_m, fst_m, true_and, and_true, tg_some, ln_some, uI_1, uI_2, uL_1, uL_2, uL_3, uQ_1, uQ_2, uQ_3, rv_i, rv_l, rv_n, rv_b0, rv_b1, RMR, ne_eq, reduceCtorEq, not_false_eq_true, Option.getD_some, if_true, if_false, and_self, false_and, and_false, Nat.add_left_cancel_iff, Nat.add_eq_left, Nat.left_eq_add, Nat.one_ne_zero, Nat.reduceAdd, Nat.reduceLT, Nat.reduceLeDiff, Nat.reduceEqDiff, true_implies, false_implies, implies_true, Option.some.injEq, forall_eq', forall_eq, reduceCtorEq, brT, brF, br_s, i_10, i_01, ib_0_2, ib_1_2, tn_0, tn_1, Int32.le_refl, eq_self, rv_bN, rv_iM, RCM 81, RLY, lit_at hw, g_151 hw hτ hv hd2, z, z00]
    exact hQ
  · rcases bC_01 (τ := τ) (p := p) (c := a) with y | y
    · rw [iB_f (fun q => absurd (y.symm.trans q.2.1) (by decide))] at hQ
      simp only [↓br_pos, ↓br_neg, ↓rF_I, ↓rF_L, ↓rF_R, ↓rF_N, rO_m, rB_m, ↓rI_m, wI_m, ↓rB2_m, ↓rB3_m, wB2_m, wB3_m, ↓rL_m, wL_m, ↓rQ_m, wQ_m, ↓lI_m, pI_m, pL_m, pR_m, sI_m, sBy_m, sBo_m, sL_m, sQ_m, fst_m, true_and, and_true, tg_some, ln_some, uI_1, uI_2, uL_1, uL_2, uL_3, uQ_1, uQ_2, uQ_3, rv_i, rv_l, rv_n, rv_b0, rv_b1, RMR, ne_eq, reduceCtorEq, not_false_eq_true, Option.getD_some, if_true, if_false, and_self, false_and, and_false, Nat.add_left_cancel_iff, Nat.add_eq_left, Nat.left_eq_add, Nat.one_ne_zero, Nat.reduceAdd, Nat.reduceLT, Nat.reduceLeDiff, Nat.reduceEqDiff, true_implies, false_implies, implies_true, Option.some.injEq, forall_eq', forall_eq, reduceCtorEq, brT, brF, br_s, i_10, i_01, ib_0_2, ib_1_2, tn_0, tn_1, Int32.le_refl, eq_self, rv_bN, rv_iM, RCM 81, RLY, lit_at hw, g_151 hw hτ hv hd2, z, z00, z10, g_154 hw hτ hv hd, y]
      exact hQ
    · rcases bC_01 (τ := τ) (p := p) (c := b) with x | x
      · rw [iB_f (fun q => absurd (x.symm.trans q.2.2.1) (by decide))] at hQ
        simp only [↓br_pos, ↓br_neg, ↓rF_I, ↓rF_L, ↓rF_R, ↓rF_N, rO_m, rB_m, ↓rI_m, wI_m, ↓rB2_m, ↓rB3_m, wB2_m, wB3_m, ↓rL_m, wL_m, ↓rQ_m, wQ_m, ↓lI_m, pI_m, pL_m, pR_m, sI_m, sBy_m, sBo_m, sL_m, sQ_m, fst_m, true_and, and_true, tg_some, ln_some, uI_1, uI_2, uL_1, uL_2, uL_3, uQ_1, uQ_2, uQ_3, rv_i, rv_l, rv_n, rv_b0, rv_b1, RMR, ne_eq, reduceCtorEq, not_false_eq_true, Option.getD_some, if_true, if_false, and_self, false_and, and_false, Nat.add_left_cancel_iff, Nat.add_eq_left, Nat.left_eq_add, Nat.one_ne_zero, Nat.reduceAdd, Nat.reduceLT, Nat.reduceLeDiff, Nat.reduceEqDiff, true_implies, false_implies, implies_true, Option.some.injEq, forall_eq', forall_eq, reduceCtorEq, brT, brF, br_s, i_10, i_01, ib_0_2, ib_1_2, tn_0, tn_1, Int32.le_refl, eq_self, rv_bN, rv_iM, RCM 81, RLY, lit_at hw, g_151 hw hτ hv hd2, z, z00, z10, g_154 hw hτ hv hd, y, x]
        exact hQ
      · by_cases c : 1 ≤ t.toInt ∧ t.toInt ≤ 99
        · rw [iB_t ⟨z, y, x, c⟩] at hQ
          simp only [↓br_pos, ↓br_neg, ↓rF_I, ↓rF_L, ↓rF_R, ↓rF_N, rO_m, rB_m, ↓rI_m, wI_m, ↓rB2_m, ↓rB3_m, wB2_m, wB3_m, ↓rL_m, wL_m, ↓rQ_m, wQ_m, ↓lI_m, pI_m, pL_m, pR_m, sI_m, sBy_m, sBo_m, sL_m, sQ_m, fst_m, true_and, and_true, tg_some, ln_some, uI_1, uI_2, uL_1, uL_2, uL_3, uQ_1, uQ_2, uQ_3, rv_i, rv_l, rv_n, rv_b0, rv_b1, RMR, ne_eq, reduceCtorEq, not_false_eq_true, Option.getD_some, if_true, if_false, and_self, false_and, and_false, Nat.add_left_cancel_iff, Nat.add_eq_left, Nat.left_eq_add, Nat.one_ne_zero, Nat.reduceAdd, Nat.reduceLT, Nat.reduceLeDiff, Nat.reduceEqDiff, true_implies, false_implies, implies_true, Option.some.injEq, forall_eq', forall_eq, reduceCtorEq, brT, brF, br_s, i_10, i_01, ib_0_2, ib_1_2, tn_0, tn_1, Int32.le_refl, eq_self, rv_bN, rv_iM, RCM 81, RLY, lit_at hw, g_151 hw hτ hv hd2, z, z00, z10, g_154 hw hτ hv hd, y, x, g_129 hd1, vin_99, iB_t c]
          exact hQ
        · rw [iB_f (fun q => c q.2.2.2)] at hQ
          simp only [↓br_pos, ↓br_neg, ↓rF_I, ↓rF_L, ↓rF_R, ↓rF_N, rO_m, rB_m, ↓rI_m, wI_m, ↓rB2_m, ↓rB3_m, wB2_m, wB3_m, ↓rL_m, wL_m, ↓rQ_m, wQ_m, ↓lI_m, pI_m, pL_m, pR_m, sI_m, sBy_m, sBo_m, sL_m, sQ_m, fst_m, true_and, and_true, tg_some, ln_some, uI_1, uI_2, uL_1, uL_2, uL_3, uQ_1, uQ_2, uQ_3, rv_i, rv_l, rv_n, rv_b0, rv_b1, RMR, ne_eq, reduceCtorEq, not_false_eq_true, Option.getD_some, if_true, if_false, and_self, false_and, and_false, Nat.add_left_cancel_iff, Nat.add_eq_left, Nat.left_eq_add, Nat.one_ne_zero, Nat.reduceAdd, Nat.reduceLT, Nat.reduceLeDiff, Nat.reduceEqDiff, true_implies, false_implies, implies_true, Option.some.injEq, forall_eq', forall_eq, reduceCtorEq, brT, brF, br_s, i_10, i_01, ib_0_2, ib_1_2, tn_0, tn_1, Int32.le_refl, eq_self, rv_bN, rv_iM, RCM 81, RLY, lit_at hw, g_151 hw hτ hv hd2, z, z00, z10, g_154 hw hτ hv hd, y, x, g_129 hd1, vin_99, iB_f c]
          exact hQ
theorem g_179 {w : mT} {σ : mS} {τ ρ : Rw} {p l a b t : Nat} {D : Nat} {K : Int32 → Hp → Prop} (hw : lit w) (hτ : mTold σ τ) (hρ : mRow σ 85 0 ρ) (hv : vTold τ) (hr : vRow τ ρ) (hc : cbP τ (Int32.ofNat p) (Int32.ofNat l) (Int32.ofNat a) (Int32.ofNat b) (Int32.ofNat t)) (hp : p < τ 1) (hl : l < τ 0) (ha : a < τ (28 + p)) (hb : b < τ (28 + p)) (ht : t ≤ 99) (hD : 5 ≤ D) : wpI D 179 [.ref 81, .int (Int32.ofNat p), .int (Int32.ofNat l), .int (Int32.ofNat a), .int (Int32.ofNat b), .int (Int32.ofNat t)] (mW w σ) K ↔ K (Int32.ofNat (wlN τ ρ p l a b t)) (mW w σ) := by
  refine cI_of (m := 4) (fun d hd Q hQ => ?_) rfl hD
  have v0 := hv.1
  have v1 := hv.2.1
  have v2 := (hv.2.2.2.2.2.1 p hp).2
  have hs0 := onP_lt hv (vR_on hr (by omega : 0 < 2))
  have hs1 := onP_lt hv (vR_on hr (by omega : 1 < 2))
  have hla := vR_la hr p (by omega)
  have hle : ρ (12 + l) < 1000000 := by have := left_lt hr hl; omega
  have hdi : dist b a < 12 := by unfold dist; omega
  have hmu : t * (dist b a + 1) ≤ 99 * 12 := Nat.mul_le_mul ht (by omega)
  refine b179_0 ?_
  have g1 := fun {K : Int32 → Hp → Prop} => g_178 (K := K) (p := Int32.ofNat p) (l := Int32.ofNat l) (a := Int32.ofNat a) (b := Int32.ofNat b) (t := Int32.ofNat t) hw hτ hv hd
  have g2 := fun {K : Int32 → Hp → Prop} => g_174 (K := K) (m := 0) (x := 0) (p := p) (a := a) (b := b) hw hτ hρ hv rfl (by omega) hs0 hs1 (by omega) (by omega) (by omega) hd
  have c' := on_le (i := t * (dist b a + 1)) (j := ρ (12 + l)) (by omega) (by omega)
  unfold wlN at hQ
  by_cases z : ρ (12 + l) < t * (dist b a + 1)
  · rw [if_pos z] at hQ
    have c1 := iff_false_intro (fun q => absurd (c'.mp q) (by omega))
    simp only [↓br_pos, ↓br_neg, ↓rF_I, ↓rF_L, ↓rF_R, ↓rF_N, rO_m, rB_m, ↓rI_m, wI_m, ↓rB2_m, ↓rB3_m, wB2_m, wB3_m, ↓rL_m, wL_m, ↓rQ_m, wQ_m, ↓lI_m, pI_m, pL_m, pR_m, sI_m, sBy_m, sBo_m, sL_m, sQ_m, fst_m, true_and, and_true, tg_some, ln_some, uI_1, uI_2, uL_1, uL_2, uL_3, uQ_1, uQ_2, uQ_3, rv_i, rv_l, rv_n, rv_b0, rv_b1, RMR, ne_eq, reduceCtorEq, not_false_eq_true, Option.getD_some, if_true, if_false, and_self, false_and, and_false, Nat.add_left_cancel_iff, Nat.add_eq_left, Nat.left_eq_add, Nat.one_ne_zero, Nat.reduceAdd, Nat.reduceLT, Nat.reduceLeDiff, Nat.reduceEqDiff, true_implies, false_implies, implies_true, Option.some.injEq, forall_eq', forall_eq, reduceCtorEq, brT, brF, br_s, i_10, i_01, ib_0_2, ib_1_2, tn_0, tn_1, Int32.le_refl, eq_self, rv_bN, rv_iM, RCM 81, RLY, lit_at hw, ad_2, ad_4, ad_6, ad_8, ad_10, ad_12, ad_16, ad_24, ad_27, ad_28, ad_31, ad_35, ad_43, ad_51, ad_107, ad_131, ad_311, ml_3, ml_6, ml_7, ml_60, ml_100, ml_2471, mq_12, ar_2, ar_3, ar_4, ar_5, ar_6, of_add, of_mul, on_succ, g1, iB_t hc, z10, mr hρ (by omega : 12 + l < 2471), abs_of (by omega : b < 2147483648) (by omega : a < 2147483648), c1]
    exact hQ
  · rw [if_neg z] at hQ
    have c1 := iff_true_intro (c'.mpr (by omega))
    by_cases y : apP τ ρ 0 p a b
    · rw [if_neg (fun q => q y)] at hQ
      by_cases x : 60 ≤ ρ (24 + p)
      · rw [if_pos x] at hQ
        have c2 : (Int32.ofNat (ρ (24 + p)) = (60 : Int32)) ↔ True := iff_true_intro ((of_inj (b := 60) (by omega) (by omega)).mpr (by omega))
        simp only [↓br_pos, ↓br_neg, ↓rF_I, ↓rF_L, ↓rF_R, ↓rF_N, rO_m, rB_m, ↓rI_m, wI_m, ↓rB2_m, ↓rB3_m, wB2_m, wB3_m, ↓rL_m, wL_m, ↓rQ_m, wQ_m, ↓lI_m, pI_m, pL_m, pR_m, sI_m, sBy_m, sBo_m, sL_m, sQ_m, fst_m, true_and, and_true, tg_some, ln_some, uI_1, uI_2, uL_1, uL_2, uL_3, uQ_1, uQ_2, uQ_3, rv_i, rv_l, rv_n, rv_b0, rv_b1, RMR, ne_eq, reduceCtorEq, not_false_eq_true, Option.getD_some, if_true, if_false, and_self, false_and, and_false, Nat.add_left_cancel_iff, Nat.add_eq_left, Nat.left_eq_add, Nat.one_ne_zero, Nat.reduceAdd, Nat.reduceLT, Nat.reduceLeDiff, Nat.reduceEqDiff, true_implies, false_implies, implies_true, Option.some.injEq, forall_eq', forall_eq, reduceCtorEq, brT, brF, br_s, i_10, i_01, ib_0_2, ib_1_2, tn_0, tn_1, Int32.le_refl, eq_self, rv_bN, rv_iM, RCM 81, RLY, lit_at hw, ad_2, ad_4, ad_6, ad_8, ad_10, ad_12, ad_16, ad_24, ad_27, ad_28, ad_31, ad_35, ad_43, ad_51, ad_107, ad_131, ad_311, ml_3, ml_6, ml_7, ml_60, ml_100, ml_2471, mq_12, ar_2, ar_3, ar_4, ar_5, ar_6, of_add, of_mul, on_succ, g1, iB_t hc, z10, mr hρ (by omega : 12 + l < 2471), abs_of (by omega : b < 2147483648) (by omega : a < 2147483648), c1, g2, iB_t y, mr hρ (by omega : 24 + p < 2471), c2]
        exact hQ
      · rw [if_neg x] at hQ
        have c2 : (Int32.ofNat (ρ (24 + p)) = (60 : Int32)) ↔ False := iff_false_intro (fun q => x (by rw [(of_inj (b := 60) (by omega) (by omega)).mp q]; exact Nat.le_refl _))
        simp only [↓br_pos, ↓br_neg, ↓rF_I, ↓rF_L, ↓rF_R, ↓rF_N, rO_m, rB_m, ↓rI_m, wI_m, ↓rB2_m, ↓rB3_m, wB2_m, wB3_m, ↓rL_m, wL_m, ↓rQ_m, wQ_m, ↓lI_m, pI_m, pL_m, pR_m, sI_m, sBy_m, sBo_m, sL_m, sQ_m, fst_m, true_and, and_true, tg_some, ln_some, uI_1, uI_2, uL_1, uL_2, uL_3, uQ_1, uQ_2, uQ_3, rv_i, rv_l, rv_n, rv_b0, rv_b1, RMR, ne_eq, reduceCtorEq, not_false_eq_true, Option.getD_some, if_true, if_false, and_self, false_and, and_false, Nat.add_left_cancel_iff, Nat.add_eq_left, Nat.left_eq_add, Nat.one_ne_zero, Nat.reduceAdd, Nat.reduceLT, Nat.reduceLeDiff, Nat.reduceEqDiff, true_implies, false_implies, implies_true, Option.some.injEq, forall_eq', forall_eq, reduceCtorEq, brT, brF, br_s, i_10, i_01, ib_0_2, ib_1_2, tn_0, tn_1, Int32.le_refl, eq_self, rv_bN, rv_iM, RCM 81, RLY, lit_at hw, ad_2, ad_4, ad_6, ad_8, ad_10, ad_12, ad_16, ad_24, ad_27, ad_28, ad_31, ad_35, ad_43, ad_51, ad_107, ad_131, ad_311, ml_3, ml_6, ml_7, ml_60, ml_100, ml_2471, mq_12, ar_2, ar_3, ar_4, ar_5, ar_6, of_add, of_mul, on_succ, g1, iB_t hc, z10, mr hρ (by omega : 12 + l < 2471), abs_of (by omega : b < 2147483648) (by omega : a < 2147483648), c1, g2, iB_t y, mr hρ (by omega : 24 + p < 2471), c2]
        exact hQ
    · rw [if_pos y] at hQ
      simp only [↓br_pos, ↓br_neg, ↓rF_I, ↓rF_L, ↓rF_R, ↓rF_N, rO_m, rB_m, ↓rI_m, wI_m, ↓rB2_m, ↓rB3_m, wB2_m, wB3_m, ↓rL_m, wL_m, ↓rQ_m, wQ_m, ↓lI_m, pI_m, pL_m, pR_m, sI_m, sBy_m, sBo_m, sL_m, sQ_m, fst_m, true_and, and_true, tg_some, ln_some, uI_1, uI_2, uL_1, uL_2, uL_3, uQ_1, uQ_2, uQ_3, rv_i, rv_l, rv_n, rv_b0, rv_b1, RMR, ne_eq, reduceCtorEq, not_false_eq_true, Option.getD_some, if_true, if_false, and_self, false_and, and_false, Nat.add_left_cancel_iff, Nat.add_eq_left, Nat.left_eq_add, Nat.one_ne_zero, Nat.reduceAdd, Nat.reduceLT, Nat.reduceLeDiff, Nat.reduceEqDiff, true_implies, false_implies, implies_true, Option.some.injEq, forall_eq', forall_eq, reduceCtorEq, brT, brF, br_s, i_10, i_01, ib_0_2, ib_1_2, tn_0, tn_1, Int32.le_refl, eq_self, rv_bN, rv_iM, RCM 81, RLY, lit_at hw, ad_2, ad_4, ad_6, ad_8, ad_10, ad_12, ad_16, ad_24, ad_27, ad_28, ad_31, ad_35, ad_43, ad_51, ad_107, ad_131, ad_311, ml_3, ml_6, ml_7, ml_60, ml_100, ml_2471, mq_12, ar_2, ar_3, ar_4, ar_5, ar_6, of_add, of_mul, on_succ, g1, iB_t hc, z10, z00, mr hρ (by omega : 12 + l < 2471), abs_of (by omega : b < 2147483648) (by omega : a < 2147483648), c1, g2, iB_f y]
      exact hQ
theorem g_179z {w : mT} {σ : mS} {τ : Rw} {p l a b t : Int32} {D : Nat} {K : Int32 → Hp → Prop} (hw : lit w) (hτ : mTold σ τ) (hv : vTold τ) (hc : ¬ cbP τ p l a b t) (hD : 5 ≤ D) : wpI D 179 [.ref 81, .int p, .int l, .int a, .int b, .int t] (mW w σ) K ↔ K 1 (mW w σ) := by
  refine cI_of (m := 4) (fun d hd Q hQ => ?_) rfl hD
  refine b179_0 ?_
  simp only [↓br_pos, ↓br_neg, ↓rF_I, ↓rF_L, ↓rF_R, ↓rF_N, rO_m, rB_m, ↓rI_m, wI_m, ↓rB2_m, ↓rB3_m, wB2_m, wB3_m, ↓rL_m, wL_m, ↓rQ_m, wQ_m, ↓lI_m, pI_m, pL_m, pR_m, sI_m, sBy_m, sBo_m, sL_m, sQ_m, fst_m, true_and, and_true, tg_some, ln_some, uI_1, uI_2, uL_1, uL_2, uL_3, uQ_1, uQ_2, uQ_3, rv_i, rv_l, rv_n, rv_b0, rv_b1, RMR, ne_eq, reduceCtorEq, not_false_eq_true, Option.getD_some, if_true, if_false, and_self, false_and, and_false, Nat.add_left_cancel_iff, Nat.add_eq_left, Nat.left_eq_add, Nat.one_ne_zero, Nat.reduceAdd, Nat.reduceLT, Nat.reduceLeDiff, Nat.reduceEqDiff, true_implies, false_implies, implies_true, Option.some.injEq, forall_eq', forall_eq, reduceCtorEq, brT, brF, br_s, i_10, i_01, ib_0_2, ib_1_2, tn_0, tn_1, Int32.le_refl, eq_self, rv_bN, rv_iM, RCM 81, RLY, lit_at hw, g_178 hw hτ hv hd, iB_f hc, z00]
  exact hQ
