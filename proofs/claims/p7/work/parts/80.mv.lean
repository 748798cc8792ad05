/-! the model's plain row, and its text -/
def zrG (σ : mS) (a n : Nat) : mS := uG σ a (fun j => if j < n then 0 else σ.1 a j)
theorem zrG_0 {σ : mS} {a : Nat} : zrG σ a 0 = σ := uG_s (fun j => if_neg (by omega))
theorem zrG_I {σ : mS} {a n : Nat} : uI (zrG σ a n) a n 0 = zrG σ a (n + 1) := by
  unfold zrG
  rw [uG_I]
  refine uG_c (fun j => ?_)
  by_cases e : j = n
  · rw [if_pos e, if_pos (by omega)]
  · rw [if_neg e]
    by_cases y : j < n
    · rw [if_pos y, if_pos (by omega)]
    · rw [if_neg y, if_neg (by omega)]
theorem zrG_o {σ : mS} {a n c : Nat} (h : c ≠ a) : (zrG σ a n).1 c = σ.1 c := by
  funext j
  unfold zrG
  rw [uG_1, if_neg h]
theorem zrG_a {σ : mS} {a n j : Nat} (h : j < n) : (zrG σ a n).1 a j = 0 := by
  unfold zrG
  rw [uG_1, if_pos rfl, if_pos h]
theorem lp_150a {w : mT} {σ : mS} {d : Nat} {Q : Option (Option Value) → Hp → Prop} (hw : lit w) (hQ : Wp 150 24 [.ref 81, .int 0] [] (mW w (zrG σ 85 2471)) Q d) : ∀ (r i : Nat), i + r = 2471 → Wp 150 2 [.ref 81, .int (Int32.ofNat i)] [] (mW w (zrG σ 85 i)) Q d := by
  intro r
  induction r with
  | zero =>
    intro i hi
    have hi' : i = 2471 := by omega
    subst hi'
    have c : ((2471 : Int32) ≤ Int32.ofNat 2471) ↔ True := by decide
    refine b150_2 ?_
    simp only [↓br_pos, ↓br_neg, ↓rF_I, ↓rF_L, ↓rF_R, ↓rF_N, rO_m, rB_m, ↓rI_m, wI_m, ↓rB2_m, ↓rB3_m, wB2_m, wB3_m, ↓rL_m, wL_m, ↓rQ_m, wQ_m, ↓lI_m, pI_m, pL_m, pR_m, sI_m, sBy_m, sBo_m, sL_m, sQ_m, fst_m, true_and, and_true, tg_some, ln_some, uI_1, uI_2, uL_1, uL_2, uL_3, uQ_1, uQ_2, uQ_3, rv_i, rv_l, rv_n, rv_b0, rv_b1, RMR, ne_eq, reduceCtorEq, not_false_eq_true, Option.getD_some, if_true, if_false, and_self, false_and, and_false, Nat.add_left_cancel_iff, Nat.add_eq_left, Nat.left_eq_add, Nat.one_ne_zero, Nat.reduceAdd, Nat.reduceLT, Nat.reduceLeDiff, Nat.reduceEqDiff, true_implies, false_implies, implies_true, Option.some.injEq, forall_eq', forall_eq, reduceCtorEq, brT, brF, br_s, i_10, i_01, ib_0_2, ib_1_2, tn_0, tn_1, Int32.le_refl, eq_self, rv_bN, rv_iM, RCM 81, RLY, lit_at hw, c]
    exact hQ
  | succ r ih =>
    intro i hi
    have c : ((2471 : Int32) ≤ Int32.ofNat i) ↔ False := iff_false_intro (fun q => absurd ((on_le (i := 2471) (by omega) (by omega)).mp q) (by omega))
    have ih := ih (i + 1) (by omega)
    rw [← zrG_I] at ih
    refine b150_2 ?_
    simp only [↓br_pos, ↓br_neg, ↓rF_I, ↓rF_L, ↓rF_R, ↓rF_N, rO_m, rB_m, ↓rI_m, wI_m, ↓rB2_m, ↓rB3_m, wB2_m, wB3_m, ↓rL_m, wL_m, ↓rQ_m, wQ_m, ↓lI_m, pI_m, pL_m, pR_m, sI_m, sBy_m, sBo_m, sL_m, sQ_m, fst_m, true_and, and_true, tg_some, ln_some, uI_1, uI_2, uL_1, uL_2, uL_3, uQ_1, uQ_2, uQ_3, rv_i, rv_l, rv_n, rv_b0, rv_b1, RMR, ne_eq, reduceCtorEq, not_false_eq_true, Option.getD_some, if_true, if_false, and_self, false_and, and_false, Nat.add_left_cancel_iff, Nat.add_eq_left, Nat.left_eq_add, Nat.one_ne_zero, Nat.reduceAdd, Nat.reduceLT, Nat.reduceLeDiff, Nat.reduceEqDiff, true_implies, false_implies, implies_true, Option.some.injEq, forall_eq', forall_eq, reduceCtorEq, brT, brF, br_s, i_10, i_01, ib_0_2, ib_1_2, tn_0, tn_1, Int32.le_refl, eq_self, rv_bN, rv_iM, RCM 81, RLY, lit_at hw, c, ix (by omega : i < 2471) (by omega), on_succ]
    exact ih
theorem lp_150b {w : mT} {σ : mS} {d : Nat} {Q : Option (Option Value) → Hp → Prop} (hw : lit w) (hQ : Q (some none) (mW w (cpG σ 83 4 85 12 12))) : ∀ (r i : Nat), i + r = 12 → Wp 150 24 [.ref 81, .int (Int32.ofNat i)] [] (mW w (cpG σ 83 4 85 12 i)) Q d := by
  intro r
  induction r with
  | zero =>
    intro i hi
    have hi' : i = 12 := by omega
    subst hi'
    have c : ((12 : Int32) ≤ Int32.ofNat 12) ↔ True := by decide
    refine b150_24 ?_
    simp only [↓br_pos, ↓br_neg, ↓rF_I, ↓rF_L, ↓rF_R, ↓rF_N, rO_m, rB_m, ↓rI_m, wI_m, ↓rB2_m, ↓rB3_m, wB2_m, wB3_m, ↓rL_m, wL_m, ↓rQ_m, wQ_m, ↓lI_m, pI_m, pL_m, pR_m, sI_m, sBy_m, sBo_m, sL_m, sQ_m, fst_m, true_and, and_true, tg_some, ln_some, uI_1, uI_2, uL_1, uL_2, uL_3, uQ_1, uQ_2, uQ_3, rv_i, rv_l, rv_n, rv_b0, rv_b1, RMR, ne_eq, reduceCtorEq, not_false_eq_true, Option.getD_some, if_true, if_false, and_self, false_and, and_false, Nat.add_left_cancel_iff, Nat.add_eq_left, Nat.left_eq_add, Nat.one_ne_zero, Nat.reduceAdd, Nat.reduceLT, Nat.reduceLeDiff, Nat.reduceEqDiff, true_implies, false_implies, implies_true, Option.some.injEq, forall_eq', forall_eq, reduceCtorEq, brT, brF, br_s, i_10, i_01, ib_0_2, ib_1_2, tn_0, tn_1, Int32.le_refl, eq_self, rv_bN, rv_iM, RCM 81, RLY, lit_at hw, c]
    exact hQ
  | succ r ih =>
    intro i hi
    have c : ((12 : Int32) ≤ Int32.ofNat i) ↔ False := iff_false_intro (fun q => absurd ((on_le (i := 12) (by omega) (by omega)).mp q) (by omega))
    have ih := ih (i + 1) (by omega)
    rw [← cpG_I] at ih
    have e3 : (cpG σ 83 4 85 12 i).1 83 (4 + i) = σ.1 83 (4 + i) := congrFun (cpG_o (by omega)) _
    refine b150_24 ?_
    simp only [↓br_pos, ↓br_neg, ↓rF_I, ↓rF_L, ↓rF_R, ↓rF_N, rO_m, rB_m, ↓rI_m, wI_m, ↓rB2_m, ↓rB3_m, wB2_m, wB3_m, ↓rL_m, wL_m, ↓rQ_m, wQ_m, ↓lI_m, pI_m, pL_m, pR_m, sI_m, sBy_m, sBo_m, sL_m, sQ_m, fst_m, true_and, and_true, tg_some, ln_some, uI_1, uI_2, uL_1, uL_2, uL_3, uQ_1, uQ_2, uQ_3, rv_i, rv_l, rv_n, rv_b0, rv_b1, RMR, ne_eq, reduceCtorEq, not_false_eq_true, Option.getD_some, if_true, if_false, and_self, false_and, and_false, Nat.add_left_cancel_iff, Nat.add_eq_left, Nat.left_eq_add, Nat.one_ne_zero, Nat.reduceAdd, Nat.reduceLT, Nat.reduceLeDiff, Nat.reduceEqDiff, true_implies, false_implies, implies_true, Option.some.injEq, forall_eq', forall_eq, reduceCtorEq, brT, brF, br_s, i_10, i_01, ib_0_2, ib_1_2, tn_0, tn_1, Int32.le_refl, eq_self, rv_bN, rv_iM, RCM 81, RLY, lit_at hw, c, ad_4, ad_12, ix (by omega : 4 + i < 102) (by omega), ix (by omega : 12 + i < 2471) (by omega), e3, on_succ]
    exact ih
def plS (σ : mS) : mS := cpG (zrG σ 85 2471) 83 4 85 12 12
theorem g_150 {w : mT} {σ : mS} {D : Nat} {K : Hp → Prop} (hw : lit w) (hD : 1 ≤ D) : wpV D 150 [.ref 81] (mW w σ) K ↔ K (mW w (plS σ)) := by
  refine cV_of (m := 0) (fun d hd Q hQ => ?_) rfl hD
  refine b150_0 ?_
  have h2 := lp_150b (σ := zrG σ 85 2471) (d := d) (Q := Q) hw hQ 12 0 (by omega)
  rw [cpG_0] at h2
  have h1 := lp_150a (σ := σ) (d := d) (Q := Q) hw h2 2471 0 (by omega)
  rw [zrG_0] at h1
  exact h1
theorem plS_o {σ : mS} {c : Nat} (h : c ≠ 85) : (plS σ).1 c = σ.1 c := (cpG_o h).trans (zrG_o h)
theorem plS_r {σ : mS} {τ : Rw} (h : mTold σ τ) : mRow (plS σ) 85 0 (sBeg τ) := fun j hj => by
  unfold plS cpG sBeg
  rw [uG_1, if_pos rfl, Nat.zero_add]
  by_cases c : 12 ≤ j ∧ j < 24
  · rw [if_pos (by omega), if_pos c, zrG_o (by omega), show 4 + (j - 12) = j - 8 by omega]
    exact h (j - 8) (by omega)
  · rw [if_neg (by omega), if_neg c, zrG_a hj]; rfl
theorem frA_G' {σ : mS} {a n : Nat} (h : 81 ≤ a ∧ a < 99) : frA σ (zrG σ a n) := frA_G h
theorem frA_cp {σ : mS} {a oa b ob n : Nat} (h : 81 ≤ b ∧ b < 99) : frA σ (cpG σ a oa b ob n) := frA_G h
theorem frA_pl {σ : mS} : frA σ (plS σ) := frA_tr (frA_G' (by omega)) (frA_cp (by omega))
theorem frA_Q {σ σ' : mS} (f : fQ σ σ') : frA σ σ' := ⟨fun a q => ⟨f.1 a (by omega) (by omega), by rw [f.2.2]⟩, by rw [f.2.2]⟩
/-- what is read is told -/
def txS (σ : mS) : mS := uI (uI (uI (plS (cpG σ 84 0 83 0 102)) 81 18 0) 87 0 0) 87 1 0
theorem lp_148c {w : mT} {σ : mS} {d : Nat} {x y : Int32} {Q : Option (Option Value) → Hp → Prop} (hw : lit w) (hd : 1 ≤ d) (hQ : Q (some (some (.int y))) (mW w (txS σ))) : ∀ (r i : Nat), i + r = 102 → Wp 148 150 [.ref 81, .int x, .int y, .int 1, .int (Int32.ofNat i)] [] (mW w (cpG σ 84 0 83 0 i)) Q d := by
  intro r
  induction r with
  | zero =>
    intro i hi
    have hi' : i = 102 := by omega
    subst hi'
    have c : ((102 : Int32) ≤ Int32.ofNat 102) ↔ True := by decide
    refine b148_150 ?_
    simp only [↓br_pos, ↓br_neg, ↓rF_I, ↓rF_L, ↓rF_R, ↓rF_N, rO_m, rB_m, ↓rI_m, wI_m, ↓rB2_m, ↓rB3_m, wB2_m, wB3_m, ↓rL_m, wL_m, ↓rQ_m, wQ_m, ↓lI_m, pI_m, pL_m, pR_m, sI_m, sBy_m, sBo_m, sL_m, sQ_m, fst_m, true_and, and_true, tg_some, ln_some, uI_1, uI_2, uL_1, uL_2, uL_3, uQ_1, uQ_2, uQ_3, rv_i, rv_l, rv_n, rv_b0, rv_b1, RMR, ne_eq, reduceCtorEq, not_false_eq_true, Option.getD_some, if_true, if_false, and_self, false_and, and_false, Nat.add_left_cancel_iff, Nat.add_eq_left, Nat.left_eq_add, Nat.one_ne_zero, Nat.reduceAdd, Nat.reduceLT, Nat.reduceLeDiff, Nat.reduceEqDiff, true_implies, false_implies, implies_true, Option.some.injEq, forall_eq', forall_eq, reduceCtorEq, brT, brF, br_s, i_10, i_01, ib_0_2, ib_1_2, tn_0, tn_1, Int32.le_refl, eq_self, rv_bN, rv_iM, RCM 81, RLY, lit_at hw, c, g_150 hw hd]
    exact hQ
  | succ r ih =>
    intro i hi
    have c : ((102 : Int32) ≤ Int32.ofNat i) ↔ False := iff_false_intro (fun q => absurd ((on_le (i := 102) (by omega) (by omega)).mp q) (by omega))
    have ih := ih (i + 1) (by omega)
    rw [← cpG_I, Nat.zero_add] at ih
    have e3 : (cpG σ 84 0 83 0 i).1 84 i = σ.1 84 i := congrFun (cpG_o (by omega)) _
    refine b148_150 ?_
    simp only [↓br_pos, ↓br_neg, ↓rF_I, ↓rF_L, ↓rF_R, ↓rF_N, rO_m, rB_m, ↓rI_m, wI_m, ↓rB2_m, ↓rB3_m, wB2_m, wB3_m, ↓rL_m, wL_m, ↓rQ_m, wQ_m, ↓lI_m, pI_m, pL_m, pR_m, sI_m, sBy_m, sBo_m, sL_m, sQ_m, fst_m, true_and, and_true, tg_some, ln_some, uI_1, uI_2, uL_1, uL_2, uL_3, uQ_1, uQ_2, uQ_3, rv_i, rv_l, rv_n, rv_b0, rv_b1, RMR, ne_eq, reduceCtorEq, not_false_eq_true, Option.getD_some, if_true, if_false, and_self, false_and, and_false, Nat.add_left_cancel_iff, Nat.add_eq_left, Nat.left_eq_add, Nat.one_ne_zero, Nat.reduceAdd, Nat.reduceLT, Nat.reduceLeDiff, Nat.reduceEqDiff, true_implies, false_implies, implies_true, Option.some.injEq, forall_eq', forall_eq, reduceCtorEq, brT, brF, br_s, i_10, i_01, ib_0_2, ib_1_2, tn_0, tn_1, Int32.le_refl, eq_self, rv_bN, rv_iM, RCM 81, RLY, lit_at hw, c, ix (by omega : i < 102) (by omega), e3, on_succ]
    exact ih
theorem mIn_tx {w : mT} {σ : mS} {t : Nat → Nat} {τ : Rw} (hw : lit w) (hD : mDr σ τ) (hv : vTold τ) (h2 : σ.1 81 2 = 0) (hb : ∀ i, i < 600 → (σ.1 82 i) &&& 255 = Int32.ofNat (t i)) (ht : ∀ i, t i < 256) : mIn w (txS σ) 0 t τ (sBeg τ) 0 (fun _ => τ00) (fun _ => false) (fun _ => τ00) := by
  have hT : mTold (cpG σ 84 0 83 0 102) τ := fun j hj => by
    unfold cpG
    rw [uG_1, if_pos rfl, if_pos (by omega), show 0 + (j - 0) = j by omega]
    exact hD j hj
  have o : ∀ c, c ≠ 81 → c ≠ 87 → (txS σ).1 c = (plS (cpG σ 84 0 83 0 102)).1 c := fun c h1 h2 => by
    unfold txS
    rw [uI_o (by omega), uI_o (by omega), uI_o (by omega)]
  have r := plS_r hT
  refine ⟨hw, mT_c hT (by rw [o 83 (by omega) (by omega), plS_o (by omega)]), mR_c r (o 85 (by omega) (by omega)), hv, vRow_beg hv, ?_, by omega, fun i hi => ?_, ht, ?_, by omega, fun i hi => absurd hi (Nat.not_lt_zero _), fun k hk => ⟨?_, fun q => absurd (show false = true from q) Bool.false_ne_true⟩⟩
  · unfold txS
    rw [uI_1, if_neg (by omega), uI_1, if_neg (by omega), uI_1, if_neg (by omega), plS_o (by omega), cpG_o (by omega)]; exact h2
  · rw [o 82 (by omega) (by omega), plS_o (by omega), cpG_o (by omega)]; exact hb i hi
  · unfold txS
    rw [uI_1, if_neg (by omega), uI_1, if_neg (by omega), uI_1, if_pos ⟨rfl, rfl⟩]; rfl
  · have e : k = 0 ∨ k = 1 := by omega
    rw [if_neg (show ¬ ((fun _ : Nat => false) k = true) from Bool.false_ne_true)]
    unfold txS
    rcases e with rfl | rfl
    · rw [uI_1, if_neg (by omega), uI_1, if_pos ⟨rfl, rfl⟩]
    · rw [uI_1, if_pos ⟨rfl, rfl⟩]
theorem frA_tx {σ : mS} : frA σ (txS σ) := frA_tr (frA_tr (frA_cp (by omega)) frA_pl) (frA_tr (frA_I (by omega)) (frA_tr (frA_I (by omega)) (frA_I (by omega))))
/-- what is kept when it isn't read -/
theorem mIn_Qt {w : mT} {σ σ' : mS} {tp n : Nat} {t : Nat → Nat} {τ ρ : Rw} {bk : Nat → Rw} {has : Nat → Bool} {im : Nat → Rw} (h : mIn w σ tp t τ ρ n bk has im) (f : ∀ a, a ≠ 81 → a ≠ 84 → σ'.1 a = σ.1 a) (h2 : σ'.1 81 2 = 0) (h18 : σ'.1 81 18 = σ.1 81 18) : mIn w σ' 0 t τ ρ n bk has im := by
  obtain ⟨hw, hτ, hρ, hv, hr, hp2, htp, htb, htl, hn, hn12, hbk, him⟩ := h
  refine ⟨hw, mT_c hτ (f 83 (by omega) (by omega)), mR_c hρ (f 85 (by omega) (by omega)), hv, hr, h2, by omega, fun i hi => by rw [f 82 (by omega) (by omega)]; exact htb i hi, htl, by rw [h18]; exact hn, hn12, fun i hi => ⟨mR_c (hbk i hi).1 (f 86 (by omega) (by omega)), (hbk i hi).2⟩, fun k hk => ?_⟩
  obtain ⟨a, b⟩ := him k hk
  exact ⟨by rw [f 87 (by omega) (by omega)]; exact a, fun q => ⟨mR_c (b q).1 (f 88 (by omega) (by omega)), (b q).2⟩⟩
theorem m_148z {w : mT} {σ : mS} {tp D : Nat} {a : Int32} {K : Int32 → Hp → Prop} (hw : lit w) (h2 : σ.1 81 2 = Int32.ofNat tp) (htp : tp ≤ 600) (ha : ¬ (0 ≤ a.toInt ∧ a.toInt ≤ (tp : Nat))) (hD : 8 ≤ D) : wpI D 148 [.ref 81, .int a] (mW w σ) K ↔ K (-1) (mW w (uI σ 81 0 0)) := by
  refine cI_of (m := 7) (fun d hd Q hQ => ?_) rfl hD
  have hd1 : 1 ≤ d := by omega
  have b0 : bN a (tp + 1) = 0 := if_neg (by omega)
  refine b148_0 ?_
  simp only [↓br_pos, ↓br_neg, ↓rF_I, ↓rF_L, ↓rF_R, ↓rF_N, rO_m, rB_m, ↓rI_m, wI_m, ↓rB2_m, ↓rB3_m, wB2_m, wB3_m, ↓rL_m, wL_m, ↓rQ_m, wQ_m, ↓lI_m, pI_m, pL_m, pR_m, sI_m, sBy_m, sBo_m, sL_m, sQ_m, fst_m, true_and, and_true, tg_some, ln_some, uI_1, uI_2, uL_1, uL_2, uL_3, uQ_1, uQ_2, uQ_3, rv_i, rv_l, rv_n, rv_b0, rv_b1, RMR, ne_eq, reduceCtorEq, not_false_eq_true, Option.getD_some, if_true, if_false, and_self, false_and, and_false, Nat.add_left_cancel_iff, Nat.add_eq_left, Nat.left_eq_add, Nat.one_ne_zero, Nat.reduceAdd, Nat.reduceLT, Nat.reduceLeDiff, Nat.reduceEqDiff, true_implies, false_implies, implies_true, Option.some.injEq, forall_eq', forall_eq, reduceCtorEq, brT, brF, br_s, i_10, i_01, ib_0_2, ib_1_2, tn_0, tn_1, Int32.le_refl, eq_self, rv_bN, rv_iM, RCM 81, RLY, lit_at hw, h2, g_129 hd1, vin_m (by omega : tp < 2147483648), b0]
  exact hQ
theorem lp_148b {w : mT} {σ : mS} {d : Nat} {x : Int32} {Q : Option (Option Value) → Hp → Prop} (hw : lit w) (hQ : wpV d 133 [.ref 81] (mW w (uI (zrG σ 84 102) 84 3 1)) (fun h2 => Wp 148 87 [.ref 81, .int x, .int (0 : Int32), .int (1 : Int32), jk] [] h2 Q d)) : ∀ (r i : Nat), i + r = 102 → Wp 148 53 [.ref 81, .int x, .int (Int32.ofNat i), jk, jk] [] (mW w (zrG σ 84 i)) Q d := by
  intro r
  induction r with
  | zero =>
    intro i hi
    have hi' : i = 102 := by omega
    subst hi'
    have c : ((102 : Int32) ≤ Int32.ofNat 102) ↔ True := by decide
    refine b148_53 ?_
    simp only [↓br_pos, ↓br_neg, ↓rF_I, ↓rF_L, ↓rF_R, ↓rF_N, rO_m, rB_m, ↓rI_m, wI_m, ↓rB2_m, ↓rB3_m, wB2_m, wB3_m, ↓rL_m, wL_m, ↓rQ_m, wQ_m, ↓lI_m, pI_m, pL_m, pR_m, sI_m, sBy_m, sBo_m, sL_m, sQ_m, fst_m, true_and, and_true, tg_some, ln_some, uI_1, uI_2, uL_1, uL_2, uL_3, uQ_1, uQ_2, uQ_3, rv_i, rv_l, rv_n, rv_b0, rv_b1, RMR, ne_eq, reduceCtorEq, not_false_eq_true, Option.getD_some, if_true, if_false, and_self, false_and, and_false, Nat.add_left_cancel_iff, Nat.add_eq_left, Nat.left_eq_add, Nat.one_ne_zero, Nat.reduceAdd, Nat.reduceLT, Nat.reduceLeDiff, Nat.reduceEqDiff, true_implies, false_implies, implies_true, Option.some.injEq, forall_eq', forall_eq, reduceCtorEq, brT, brF, br_s, i_10, i_01, ib_0_2, ib_1_2, tn_0, tn_1, Int32.le_refl, eq_self, rv_bN, rv_iM, RCM 81, RLY, lit_at hw, c, ix_3]
    exact hQ
  | succ r ih =>
    intro i hi
    have c : ((102 : Int32) ≤ Int32.ofNat i) ↔ False := iff_false_intro (fun q => absurd ((on_le (i := 102) (by omega) (by omega)).mp q) (by omega))
    have ih := ih (i + 1) (by omega)
    rw [← zrG_I] at ih
    refine b148_53 ?_
    simp only [↓br_pos, ↓br_neg, ↓rF_I, ↓rF_L, ↓rF_R, ↓rF_N, rO_m, rB_m, ↓rI_m, wI_m, ↓rB2_m, ↓rB3_m, wB2_m, wB3_m, ↓rL_m, wL_m, ↓rQ_m, wQ_m, ↓lI_m, pI_m, pL_m, pR_m, sI_m, sBy_m, sBo_m, sL_m, sQ_m, fst_m, true_and, and_true, tg_some, ln_some, uI_1, uI_2, uL_1, uL_2, uL_3, uQ_1, uQ_2, uQ_3, rv_i, rv_l, rv_n, rv_b0, rv_b1, RMR, ne_eq, reduceCtorEq, not_false_eq_true, Option.getD_some, if_true, if_false, and_self, false_and, and_false, Nat.add_left_cancel_iff, Nat.add_eq_left, Nat.left_eq_add, Nat.one_ne_zero, Nat.reduceAdd, Nat.reduceLT, Nat.reduceLeDiff, Nat.reduceEqDiff, true_implies, false_implies, implies_true, Option.some.injEq, forall_eq', forall_eq, reduceCtorEq, brT, brF, br_s, i_10, i_01, ib_0_2, ib_1_2, tn_0, tn_1, Int32.le_refl, eq_self, rv_bN, rv_iM, RCM 81, RLY, lit_at hw, c, ix (by omega : i < 102) (by omega), on_succ]
    exact ih
def tx0 (σ : mS) (m : Nat) : mS := uI (uI (uI (uI (uI (uI (uI σ 81 0 0) 81 3 (Int32.ofNat m)) 81 2 0) 81 5 0) 81 9 0) 81 13 0) 81 14 0
theorem tx0_o {σ : mS} {m a : Nat} (h : a ≠ 81) : (tx0 σ m).1 a = σ.1 a := by
  unfold tx0
  rw [uI_o h, uI_o h, uI_o h, uI_o h, uI_o h, uI_o h, uI_o h]
theorem tx0_f {σ : mS} {m j : Nat} : (tx0 σ m).1 81 j = if j = 14 then 0 else if j = 13 then 0 else if j = 9 then 0 else if j = 5 then 0 else if j = 2 then 0 else if j = 3 then Int32.ofNat m else if j = 0 then 0 else σ.1 81 j := by
  unfold tx0
  simp only [uI_1, true_and]
theorem frA_t0 {σ : mS} {m : Nat} : frA σ (tx0 σ m) := frA_tr (frA_I (by omega)) (frA_tr (frA_I (by omega)) (frA_tr (frA_I (by omega)) (frA_tr (frA_I (by omega)) (frA_tr (frA_I (by omega)) (frA_tr (frA_I (by omega)) (frA_I (by omega)))))))
theorem m_148 {w : mT} {σ : mS} {tp n m : Nat} {t : Nat → Nat} {τ ρ : Rw} {bk : Nat → Rw} {has : Nat → Bool} {im : Nat → Rw} (h : mIn w σ tp t τ ρ n bk has im) (hm : m ≤ tp) : ∃ σ', frA σ σ' ∧ (if (rAll t m).1 = 0 then mIn w σ' 0 t (rAll t m).2.1 (sBeg (rAll t m).2.1) 0 (fun _ => τ00) (fun _ => false) (fun _ => τ00) else mIn w σ' 0 t τ ρ n bk has im) ∧ ∀ {D : Nat} {K : Int32 → Hp → Prop}, 8 ≤ D → (wpI D 148 [.ref 81, .int (Int32.ofNat m)] (mW w σ) K ↔ K (if (rAll t m).1 = 0 then Int32.ofNat (rAll t m).2.2 else -2 - Int32.ofNat (rAll t m).1) (mW w σ')) := by
  have h' := h
  obtain ⟨hw, hτ, hρ, hv, hr, hp2, htp, htb, ht, hn, hn12, hbk, him⟩ := h
  have hm6 : m ≤ 600 := by omega
  have b1 : bN (Int32.ofNat m) (tp + 1) = 1 := if_pos (by rw [on_int (by omega)]; omega)
  have oS : ∀ a, a ≠ 84 → (uI (zrG (tx0 σ m) 84 102) 84 3 1).1 a = (tx0 σ m).1 a := fun a ha => by rw [uI_o ha, zrG_o ha]
  have B1 : mBy (uI (zrG (tx0 σ m) 84 102) 84 3 1) t m := ⟨fun i hi => by rw [oS 82 (by omega), tx0_o (by omega)]; exact htb i hi, by rw [oS 81 (by omega), tx0_f]; rfl⟩
  obtain ⟨σ1, f1, G1, q1⟩ := o_133 (g := g00) hw ht hm6 B1 (by rw [oS 81 (by omega), tx0_f]; rfl) (by rw [oS 81 (by omega), tx0_f]; rfl) (by rw [oS 81 (by omega), tx0_f]; rfl) (by rw [oS 81 (by omega), tx0_f]; rfl) (Nat.zero_le _)
  have vg1 := vG_w (t := t) (n := m) (g := g00) (Nat.zero_le _) hm6
  have D1 : mDr σ1 τ00 := fun j hj => by
    rw [f1.1 84 (by omega), uI_1]
    unfold τ00
    by_cases e : j = 3
    · rw [if_pos ⟨rfl, e⟩, if_pos e]; rfl
    · rw [if_neg (fun q => e q.2), if_neg e, zrG_a (by omega)]; rfl
  have V1 : rV m (adv t m g00) τ00 := ⟨vg1, by rw [adv_g (by omega)]; rfl, vT_00, by rw [adv_g (by omega)]; rfl⟩
  have S1 : rdS σ1 t m (adv t m g00) (fun _ => 0) τ00 := ⟨G1, D1, fun i hi => absurd hi (by rw [adv_g (by omega)]; show ¬ i < 0; omega)⟩
  have md := adv_1 (t := t) (n := m) (g := g00) (Nat.zero_le _)
  obtain ⟨σ2, f2, R2, q2⟩ := lp_148 (x := Int32.ofNat m) hw ht 600 σ1 (adv t m g00) τ00 (fun _ => 0) 0 S1 V1 (by rw [adv_g (by omega)]; exact Nat.zero_le _) (fun q => by have := md.2 q; omega)
  have eA : rLp t m 600 (adv t m g00) (fun _ => 0) τ00 0 = rAll t m := rfl
  rw [eA] at R2 q2
  have fA : frA σ σ2 := frA_tr (frA_tr (frA_tr frA_t0 (frA_tr (frA_G' (by omega)) (frA_I (by omega)))) (frA_Q (fQ_8 (f8_G f1)))) (frA_Q f2)
  have o2 : ∀ a, a ≠ 81 → a ≠ 84 → σ2.1 a = σ.1 a := fun a h1 h2 => by rw [f2.1 a h1 h2, f1.1 a h1, oS a h2, tx0_o h1]
  have p2 : ∀ j, j < 3 ∨ 14 < j → σ2.1 81 j = (tx0 σ m).1 81 j := fun j hj => by rw [f2.2.1 j hj, f1.2.1 j (by omega), oS 81 (by omega)]
  have z2 : σ2.1 81 2 = 0 := by rw [p2 2 (by omega), tx0_f]; rfl
  have n18 : σ2.1 81 18 = σ.1 81 18 := by rw [p2 18 (by omega), tx0_f]; rfl
  have start : ∀ {d : Nat} {Q : Option (Option Value) → Hp → Prop}, 7 ≤ d → Wp 148 87 [.ref 81, .int (Int32.ofNat m), .int (0 : Int32), .int (1 : Int32), jk] [] (mW w σ1) Q d → Wp 148 0 [.ref 81, .int (Int32.ofNat m), jk, jk, jk] [] (mW w σ) Q d := fun {d Q} hd hQ => by
    have hd1 : 1 ≤ d := by omega
    have hd2 : 2 ≤ d := by omega
    have L := lp_148b (σ := tx0 σ m) (d := d) (x := Int32.ofNat m) (Q := Q) hw ((q1 hd2).mpr hQ) 102 0 (by omega)
    rw [zrG_0] at L
    refine b148_0 ?_
    simp only [↓br_pos, ↓br_neg, ↓rF_I, ↓rF_L, ↓rF_R, ↓rF_N, rO_m, rB_m, ↓rI_m, wI_m, ↓rB2_m, ↓rB3_m, wB2_m, wB3_m, ↓rL_m, wL_m, ↓rQ_m, wQ_m, ↓lI_m, pI_m, pL_m, pR_m, sI_m, sBy_m, sBo_m, sL_m, sQ_m, fst_m, true_and, and_true, tg_some, ln_some, uI_1, uI_2, uL_1, uL_2, uL_3, uQ_1, uQ_2, uQ_3, rv_i, rv_l, rv_n, rv_b0, rv_b1, RMR, ne_eq, reduceCtorEq, not_false_eq_true, Option.getD_some, if_true, if_false, and_self, false_and, and_false, Nat.add_left_cancel_iff, Nat.add_eq_left, Nat.left_eq_add, Nat.one_ne_zero, Nat.reduceAdd, Nat.reduceLT, Nat.reduceLeDiff, Nat.reduceEqDiff, true_implies, false_implies, implies_true, Option.some.injEq, forall_eq', forall_eq, reduceCtorEq, brT, brF, br_s, i_10, i_01, ib_0_2, ib_1_2, tn_0, tn_1, Int32.le_refl, eq_self, rv_bN, rv_iM, RCM 81, RLY, lit_at hw, hp2, g_129 hd1, vin_m (by omega : tp < 2147483648), b1, z10]
    exact L
  by_cases z : (rAll t m).1 = 0
  · obtain ⟨D2, v2⟩ := R2 z
    refine ⟨txS σ2, frA_tr fA frA_tx, by rw [if_pos z]; exact mIn_tx hw D2 v2 z2 (fun i hi => by rw [o2 82 (by omega) (by omega)]; exact htb i hi) ht, fun hD => cI_of (m := 7) (fun d hd Q hQ => ?_) rfl hD⟩
    rw [if_pos z] at hQ
    refine start hd (q2 hd ?_)
    rw [if_pos z]
    have := lp_148c (σ := σ2) (d := d) (x := Int32.ofNat m) (y := Int32.ofNat (rAll t m).2.2) (Q := Q) hw (by omega) hQ 102 0 (by omega)
    rw [cpG_0] at this
    exact this
  · refine ⟨σ2, fA, by rw [if_neg z]; exact mIn_Qt h' o2 z2 n18, fun hD => cI_of (m := 7) (fun d hd Q hQ => ?_) rfl hD⟩
    rw [if_neg z] at hQ
    refine start hd (q2 hd ?_)
    rw [if_neg z]
    exact hQ
