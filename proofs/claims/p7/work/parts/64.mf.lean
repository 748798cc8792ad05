/-! the model's calls: cut, sail -/
def mzK (ρ : Rw) (p c : Nat) : Nat → Rw
  | 0 => ρ
  | n + 1 => rSet (mzK ρ p c n) (li p n c) 0
theorem mzK_1 {ρ : Rw} {p c : Nat} (hp : p < 3) (hc : c < 12) {n : Nat} (hn : n ≤ 60) (j : Nat) : mzK ρ p c n j = if 311 ≤ j ∧ (j - 311) / 720 = p ∧ (j - 311) % 12 = c ∧ (j - 311) / 12 % 60 < n then 0 else ρ j := by
  induction n with
  | zero => rw [if_neg (by omega)]; rfl
  | succ n ih =>
    have ih := ih (by omega)
    show rSet (mzK ρ p c n) (li p n c) 0 j = _
    rw [rSet_1, ih]
    by_cases e : j = li p n c
    · rw [if_pos e, if_pos (by unfold li at e; omega)]
    · rw [if_neg e]
      by_cases y : 311 ≤ j ∧ (j - 311) / 720 = p ∧ (j - 311) % 12 = c ∧ (j - 311) / 12 % 60 < n
      · rw [if_pos y, if_pos (by omega)]
      · rw [if_neg y, if_neg (by unfold li at e; omega)]
theorem lp_187 {w : mT} {τ ρ : Rw} {p c s N : Nat} {T : Int32} (hw : lit w) (hp : p < 3) (hc : c < 12) (hN : N ≤ 60) (hL : ρ (24 + p) = N) : ∀ (r j : Nat) (σ : mS), j + r = N → σ.1 81 16 = T → mRow σ 85 0 (mzK ρ p c j) → ∃ σ', frR 85 86 σ σ' ∧ mRow σ' 85 0 (mzK ρ p c N) ∧ ∀ {Q : Option (Option Value) → Hp → Prop} {d : Nat}, 1 ≤ d → Q (some (some (.int T))) (mW w σ') → Wp 187 42 [.ref 81, .int (Int32.ofNat p), .int (Int32.ofNat c), .int (Int32.ofNat s), .int (Int32.ofNat j)] [] (mW w σ) Q d := by
  intro r
  induction r with
  | zero =>
    intro j σ hj hT hρ
    have hj' : j = N := by omega
    subst hj'
    have eL : mzK ρ p c j (24 + p) = ρ (24 + p) := by rw [mzK_1 hp hc hN, if_neg (by omega)]
    have m1 := mr hρ (by omega : 24 + p < 2471)
    rw [eL, hL] at m1
    refine ⟨σ, frR_rf, hρ, fun hd hQ => ?_⟩
    refine b187_42 ?_
    simp only [↓br_pos, ↓br_neg, ↓rF_I, ↓rF_L, ↓rF_R, ↓rF_N, rO_m, rB_m, ↓rI_m, wI_m, ↓rB2_m, ↓rB3_m, wB2_m, wB3_m, ↓rL_m, wL_m, ↓rQ_m, wQ_m, ↓lI_m, pI_m, pL_m, pR_m, sI_m, sBy_m, sBo_m, sL_m, sQ_m, fst_m, true_and, and_true, tg_some, ln_some, uI_1, uI_2, uL_1, uL_2, uL_3, uQ_1, uQ_2, uQ_3, rv_i, rv_l, rv_n, rv_b0, rv_b1, RMR, ne_eq, reduceCtorEq, not_false_eq_true, Option.getD_some, if_true, if_false, and_self, false_and, and_false, Nat.add_left_cancel_iff, Nat.add_eq_left, Nat.left_eq_add, Nat.one_ne_zero, Nat.reduceAdd, Nat.reduceLT, Nat.reduceLeDiff, Nat.reduceEqDiff, true_implies, false_implies, implies_true, Option.some.injEq, forall_eq', forall_eq, reduceCtorEq, brT, brF, br_s, i_10, i_01, ib_0_2, ib_1_2, tn_0, tn_1, Int32.le_refl, eq_self, rv_bN, rv_iM, RCM 81, RLY, lit_at hw, ad_2, ad_4, ad_6, ad_8, ad_10, ad_12, ad_16, ad_24, ad_27, ad_28, ad_31, ad_35, ad_43, ad_51, ad_107, ad_131, ad_311, ml_3, ml_6, ml_7, ml_60, ml_100, ml_2471, mq_12, ar_2, ar_3, ar_4, ar_5, ar_6, of_add, of_mul, on_succ, m1, Int32.le_refl, hT]
    exact hQ
  | succ r ih =>
    intro j σ hj hT hρ
    have eL : mzK ρ p c j (24 + p) = ρ (24 + p) := by rw [mzK_1 hp hc (by omega), if_neg (by omega)]
    have m1 := mr hρ (by omega : 24 + p < 2471)
    rw [eL, hL] at m1
    have l1 : (Int32.ofNat N ≤ Int32.ofNat j) ↔ False := iff_false_intro (fun q => absurd ((on_le (by omega) (by omega)).mp q) (by omega))
    obtain ⟨σ2, f2, t2, e2⟩ := ih (j + 1) (uI σ 85 (li p j c) 0) (by omega) (by rw [uI_1, if_neg (by omega)]; exact hT) (mR_w (x := 0) hρ)
    refine ⟨σ2, frR_tr (frR_I (by omega)) f2, t2, fun hd hQ => ?_⟩
    refine b187_42 ?_
    simp only [↓br_pos, ↓br_neg, ↓rF_I, ↓rF_L, ↓rF_R, ↓rF_N, rO_m, rB_m, ↓rI_m, wI_m, ↓rB2_m, ↓rB3_m, wB2_m, wB3_m, ↓rL_m, wL_m, ↓rQ_m, wQ_m, ↓lI_m, pI_m, pL_m, pR_m, sI_m, sBy_m, sBo_m, sL_m, sQ_m, fst_m, true_and, and_true, tg_some, ln_some, uI_1, uI_2, uL_1, uL_2, uL_3, uQ_1, uQ_2, uQ_3, rv_i, rv_l, rv_n, rv_b0, rv_b1, RMR, ne_eq, reduceCtorEq, not_false_eq_true, Option.getD_some, if_true, if_false, and_self, false_and, and_false, Nat.add_left_cancel_iff, Nat.add_eq_left, Nat.left_eq_add, Nat.one_ne_zero, Nat.reduceAdd, Nat.reduceLT, Nat.reduceLeDiff, Nat.reduceEqDiff, true_implies, false_implies, implies_true, Option.some.injEq, forall_eq', forall_eq, reduceCtorEq, brT, brF, br_s, i_10, i_01, ib_0_2, ib_1_2, tn_0, tn_1, Int32.le_refl, eq_self, rv_bN, rv_iM, RCM 81, RLY, lit_at hw, ad_2, ad_4, ad_6, ad_8, ad_10, ad_12, ad_16, ad_24, ad_27, ad_28, ad_31, ad_35, ad_43, ad_51, ad_107, ad_131, ad_311, ml_3, ml_6, ml_7, ml_60, ml_100, ml_2471, mq_12, ar_2, ar_3, ar_4, ar_5, ar_6, of_add, of_mul, on_succ, m1, l1, g_156 hd, ix (by unfold li; omega : li p j c < 2471) (by omega)]
    exact e2 hd hQ
theorem sMove_mz {τ ρ : Rw} {p c s : Nat} (hp : p < 3) (hc : c < 12) (hs : s < 8) (hN : ρ (24 + p) ≤ 60) (j : Nat) : sMove τ ρ p c s j = mzK (rSet (rSet ρ (27 + s) (ρ (27 + s) + tOn ρ p c)) (35 + s) (ρ (35 + s) + gOn τ ρ p c)) p c (ρ (24 + p)) j := by
  rw [mzK_1 hp hc hN]
  unfold sMove
  by_cases y : 311 ≤ j ∧ (j - 311) / 720 = p ∧ (j - 311) % 12 = c ∧ (j - 311) / 12 % 60 < ρ (24 + p)
  · rw [if_pos y, if_pos y]
  · rw [if_neg y, if_neg y, rSet_1, rSet_1]
theorem o_187 {w : mT} {σ : mS} {τ ρ : Rw} {p c s : Nat} (hw : lit w) (hτ : mTold σ τ) (hρ : mRow σ 85 0 ρ) (hv : vTold τ) (hr : vRow τ ρ) (hp : p < 3) (hc : c < 12) (hs : s < τ 2) : ∃ σ' T G, frR 85 86 (su σ T G) σ' ∧ mRow σ' 85 0 (sMove τ ρ p c s) ∧ ∀ {D : Nat} {K : Int32 → Hp → Prop}, 3 ≤ D → (wpI D 187 [.ref 81, .int (Int32.ofNat p), .int (Int32.ofNat c), .int (Int32.ofNat s)] (mW w σ) K ↔ K (Int32.ofNat (tOn ρ p c)) (mW w σ')) := by
  have v2 := hv.2.2.1
  have v60 := vR_la hr p hp
  have hρS := mR_c hρ (su_a (σ := σ) (T := tOn ρ p c) (G := gOn τ ρ p c) (by omega : (85 : Nat) ≠ 81))
  have hρ2 := mR_w (j := 35 + s) (x := ρ (35 + s) + gOn τ ρ p c) (mR_w (j := 27 + s) (x := ρ (27 + s) + tOn ρ p c) hρS)
  obtain ⟨σ2, f2, t2, e2⟩ := lp_187 (w := w) (τ := τ) (ρ := rSet (rSet ρ (27 + s) (ρ (27 + s) + tOn ρ p c)) (35 + s) (ρ (35 + s) + gOn τ ρ p c)) (s := s) (p := p) (c := c) (N := ρ (24 + p)) (T := Int32.ofNat (tOn ρ p c)) hw hp hc v60 (by rw [rS_ne (by omega), rS_ne (by omega)]) (ρ (24 + p)) 0 (uI (uI (su σ (tOn ρ p c) (gOn τ ρ p c)) 85 (27 + s) (Int32.ofNat (ρ (27 + s) + tOn ρ p c))) 85 (35 + s) (Int32.ofNat (ρ (35 + s) + gOn τ ρ p c))) (by omega) (by rw [uI_1, if_neg (by omega), uI_1, if_neg (by omega)]; exact su_16) hρ2
  refine ⟨σ2, tOn ρ p c, gOn τ ρ p c, frR_tr (frR_tr (frR_I (by omega)) (frR_I (by omega))) f2, mR_e t2 (fun j hj => sMove_mz hp hc (by omega) v60 j), fun hD => cI_of (m := 2) (fun d hd Q hQ => ?_) rfl hD⟩
  have hd1 : 1 ≤ d := by omega
  have x1 : ((35 + s : Nat) = 27 + s) ↔ False := iff_false_intro (by omega)
  refine b187_0 ?_
  simp only [↓br_pos, ↓br_neg, ↓rF_I, ↓rF_L, ↓rF_R, ↓rF_N, rO_m, rB_m, ↓rI_m, wI_m, ↓rB2_m, ↓rB3_m, wB2_m, wB3_m, ↓rL_m, wL_m, ↓rQ_m, wQ_m, ↓lI_m, pI_m, pL_m, pR_m, sI_m, sBy_m, sBo_m, sL_m, sQ_m, fst_m, true_and, and_true, tg_some, ln_some, uI_1, uI_2, uL_1, uL_2, uL_3, uQ_1, uQ_2, uQ_3, rv_i, rv_l, rv_n, rv_b0, rv_b1, RMR, ne_eq, reduceCtorEq, not_false_eq_true, Option.getD_some, if_true, if_false, and_self, false_and, and_false, Nat.add_left_cancel_iff, Nat.add_eq_left, Nat.left_eq_add, Nat.one_ne_zero, Nat.reduceAdd, Nat.reduceLT, Nat.reduceLeDiff, Nat.reduceEqDiff, true_implies, false_implies, implies_true, Option.some.injEq, forall_eq', forall_eq, reduceCtorEq, brT, brF, br_s, i_10, i_01, ib_0_2, ib_1_2, tn_0, tn_1, Int32.le_refl, eq_self, rv_bN, rv_iM, RCM 81, RLY, lit_at hw, g_158c hw hτ hρ hv hr hp hc hd, ad_2, ad_4, ad_6, ad_8, ad_10, ad_12, ad_16, ad_24, ad_27, ad_28, ad_31, ad_35, ad_43, ad_51, ad_107, ad_131, ad_311, ml_3, ml_6, ml_7, ml_60, ml_100, ml_2471, mq_12, ar_2, ar_3, ar_4, ar_5, ar_6, of_add, of_mul, on_succ, mr hρS (by omega : 27 + s < 2471), mr hρS (by omega : 35 + s < 2471), su_16, su_17, x1]
  exact e2 hd1 hQ
theorem g_185 {w : mT} {σ : mS} {τ ρ : Rw} {p c s : Nat} {D : Nat} {K : Int32 → Hp → Prop} (hw : lit w) (hτ : mTold σ τ) (hρ : mRow σ 85 0 ρ) (hv : vTold τ) (hr : vRow τ ρ) (hp : p < τ 1) (hc : c < τ (28 + p)) (hs : s < τ 2) (hD : 5 ≤ D) : wpI D 185 [.ref 81, .int (Int32.ofNat p), .int (Int32.ofNat c), .int (Int32.ofNat s)] (mW w σ) K ↔ K (Int32.ofNat (wcN τ ρ p c s)) (mW w (su σ (tOn ρ p c) (gOn τ ρ p c))) := by
  refine cI_of (m := 4) (fun d hd Q hQ => ?_) rfl hD
  have v1 := hv.2.1
  have v2 := hv.2.2.1
  have v3 := (hv.2.2.2.2.2.1 p hp).2
  have vn := (hv.2.2.2.2.2.2 s hs).1
  have hs0 := onP_lt hv (vR_on hr (by omega : 0 < 2))
  have hs1 := onP_lt hv (vR_on hr (by omega : 1 < 2))
  have tl := tOn_lt (c := c) hr (by omega : p < 3) (by omega)
  have rs := vR_sa hr s hs
  have hh := hold_lt hr hs
  have hd2 : 2 ≤ d := by omega
  have hcb : bC τ (Int32.ofNat p) (Int32.ofNat c) = 1 ∧ bN (Int32.ofNat s) (τ 2) = 1 := ⟨bC_t hp hv hc, bN_on hs (by omega)⟩
  have hρS := mR_c hρ (su_a (σ := σ) (T := tOn ρ p c) (G := gOn τ ρ p c) (by omega : (85 : Nat) ≠ 81))
  have hτS := mT_c hτ (su_a (σ := σ) (T := tOn ρ p c) (G := gOn τ ρ p c) (by omega : (83 : Nat) ≠ 81))
  have g1 := fun {K : Hp → Prop} => g_158c (K := K) (c := c) hw hτ hρ hv hr (by omega : p < 3) (by omega) hd2
  have g2 := fun {K : Int32 → Hp → Prop} => g_159 (K := K) (s := s) hw hτS hρS hv hs hh hd2
  have g3 := fun {K : Int32 → Hp → Prop} => g_174 (K := K) (m := 1) (x := 1) (p := p) (a := c) (b := c) hw hτS hρS hv rfl (by omega) hs1 hs0 (by omega) (by omega) (by omega) hd
  unfold wcN at hQ
  refine b185_0 ?_
  by_cases z : tOn ρ p c = 0
  · rw [if_pos z] at hQ
    have c1 : (Int32.ofNat (tOn ρ p c) = 0) ↔ True := iff_true_intro (by rw [z]; rfl)
    simp only [↓br_pos, ↓br_neg, ↓rF_I, ↓rF_L, ↓rF_R, ↓rF_N, rO_m, rB_m, ↓rI_m, wI_m, ↓rB2_m, ↓rB3_m, wB2_m, wB3_m, ↓rL_m, wL_m, ↓rQ_m, wQ_m, ↓lI_m, pI_m, pL_m, pR_m, sI_m, sBy_m, sBo_m, sL_m, sQ_m, fst_m, true_and, and_true, tg_some, ln_some, uI_1, uI_2, uL_1, uL_2, uL_3, uQ_1, uQ_2, uQ_3, rv_i, rv_l, rv_n, rv_b0, rv_b1, RMR, ne_eq, reduceCtorEq, not_false_eq_true, Option.getD_some, if_true, if_false, and_self, false_and, and_false, Nat.add_left_cancel_iff, Nat.add_eq_left, Nat.left_eq_add, Nat.one_ne_zero, Nat.reduceAdd, Nat.reduceLT, Nat.reduceLeDiff, Nat.reduceEqDiff, true_implies, false_implies, implies_true, Option.some.injEq, forall_eq', forall_eq, reduceCtorEq, brT, brF, br_s, i_10, i_01, ib_0_2, ib_1_2, tn_0, tn_1, Int32.le_refl, eq_self, rv_bN, rv_iM, RCM 81, RLY, lit_at hw, g_184 hw hτ hv hd, iB_t hcb, z10, g1, su_16, c1]
    exact hQ
  · rw [if_neg z] at hQ
    have c1 : (Int32.ofNat (tOn ρ p c) = 0) ↔ False := iff_false_intro (fun q => z ((of_eq0 (by omega)).mp q))
    by_cases y : ρ (43 + s) = 0
    · have c2 : (0 < Int32.ofNat (ρ (43 + s))) ↔ False := iff_false_intro (fun q => absurd ((on_lt (i := 0) (by omega) (by omega)).mp q) (by omega))
      by_cases x : τ (31 + 6 * s) ≤ ρ (27 + s)
      · rw [if_pos (fun q => by have := q.2; omega)] at hQ
        simp only [↓br_pos, ↓br_neg, ↓rF_I, ↓rF_L, ↓rF_R, ↓rF_N, rO_m, rB_m, ↓rI_m, wI_m, ↓rB2_m, ↓rB3_m, wB2_m, wB3_m, ↓rL_m, wL_m, ↓rQ_m, wQ_m, ↓lI_m, pI_m, pL_m, pR_m, sI_m, sBy_m, sBo_m, sL_m, sQ_m, fst_m, true_and, and_true, tg_some, ln_some, uI_1, uI_2, uL_1, uL_2, uL_3, uQ_1, uQ_2, uQ_3, rv_i, rv_l, rv_n, rv_b0, rv_b1, RMR, ne_eq, reduceCtorEq, not_false_eq_true, Option.getD_some, if_true, if_false, and_self, false_and, and_false, Nat.add_left_cancel_iff, Nat.add_eq_left, Nat.left_eq_add, Nat.one_ne_zero, Nat.reduceAdd, Nat.reduceLT, Nat.reduceLeDiff, Nat.reduceEqDiff, true_implies, false_implies, implies_true, Option.some.injEq, forall_eq', forall_eq, reduceCtorEq, brT, brF, br_s, i_10, i_01, ib_0_2, ib_1_2, tn_0, tn_1, Int32.le_refl, eq_self, rv_bN, rv_iM, RCM 81, RLY, lit_at hw, g_184 hw hτ hv hd, iB_t hcb, z10, g1, su_16, c1, mr hρS (by omega : 43 + s < 2471), ad_2, ad_4, ad_6, ad_8, ad_10, ad_12, ad_16, ad_24, ad_27, ad_28, ad_31, ad_35, ad_43, ad_51, ad_107, ad_131, ad_311, ml_3, ml_6, ml_7, ml_60, ml_100, ml_2471, mq_12, ar_2, ar_3, ar_4, ar_5, ar_6, of_add, of_mul, on_succ, c2, g2, iB_t x]
        exact hQ
      · rw [if_neg (fun q => q ⟨y, by omega⟩)] at hQ
        by_cases u : apP τ ρ 1 p c c
        · rw [if_neg (fun q => q u)] at hQ
          simp only [↓br_pos, ↓br_neg, ↓rF_I, ↓rF_L, ↓rF_R, ↓rF_N, rO_m, rB_m, ↓rI_m, wI_m, ↓rB2_m, ↓rB3_m, wB2_m, wB3_m, ↓rL_m, wL_m, ↓rQ_m, wQ_m, ↓lI_m, pI_m, pL_m, pR_m, sI_m, sBy_m, sBo_m, sL_m, sQ_m, fst_m, true_and, and_true, tg_some, ln_some, uI_1, uI_2, uL_1, uL_2, uL_3, uQ_1, uQ_2, uQ_3, rv_i, rv_l, rv_n, rv_b0, rv_b1, RMR, ne_eq, reduceCtorEq, not_false_eq_true, Option.getD_some, if_true, if_false, and_self, false_and, and_false, Nat.add_left_cancel_iff, Nat.add_eq_left, Nat.left_eq_add, Nat.one_ne_zero, Nat.reduceAdd, Nat.reduceLT, Nat.reduceLeDiff, Nat.reduceEqDiff, true_implies, false_implies, implies_true, Option.some.injEq, forall_eq', forall_eq, reduceCtorEq, brT, brF, br_s, i_10, i_01, ib_0_2, ib_1_2, tn_0, tn_1, Int32.le_refl, eq_self, rv_bN, rv_iM, RCM 81, RLY, lit_at hw, g_184 hw hτ hv hd, iB_t hcb, z10, z00, g1, su_16, c1, mr hρS (by omega : 43 + s < 2471), ad_2, ad_4, ad_6, ad_8, ad_10, ad_12, ad_16, ad_24, ad_27, ad_28, ad_31, ad_35, ad_43, ad_51, ad_107, ad_131, ad_311, ml_3, ml_6, ml_7, ml_60, ml_100, ml_2471, mq_12, ar_2, ar_3, ar_4, ar_5, ar_6, of_add, of_mul, on_succ, c2, g2, iB_f x, g3, iB_t u]
          exact hQ
        · rw [if_pos u] at hQ
          simp only [↓br_pos, ↓br_neg, ↓rF_I, ↓rF_L, ↓rF_R, ↓rF_N, rO_m, rB_m, ↓rI_m, wI_m, ↓rB2_m, ↓rB3_m, wB2_m, wB3_m, ↓rL_m, wL_m, ↓rQ_m, wQ_m, ↓lI_m, pI_m, pL_m, pR_m, sI_m, sBy_m, sBo_m, sL_m, sQ_m, fst_m, true_and, and_true, tg_some, ln_some, uI_1, uI_2, uL_1, uL_2, uL_3, uQ_1, uQ_2, uQ_3, rv_i, rv_l, rv_n, rv_b0, rv_b1, RMR, ne_eq, reduceCtorEq, not_false_eq_true, Option.getD_some, if_true, if_false, and_self, false_and, and_false, Nat.add_left_cancel_iff, Nat.add_eq_left, Nat.left_eq_add, Nat.one_ne_zero, Nat.reduceAdd, Nat.reduceLT, Nat.reduceLeDiff, Nat.reduceEqDiff, true_implies, false_implies, implies_true, Option.some.injEq, forall_eq', forall_eq, reduceCtorEq, brT, brF, br_s, i_10, i_01, ib_0_2, ib_1_2, tn_0, tn_1, Int32.le_refl, eq_self, rv_bN, rv_iM, RCM 81, RLY, lit_at hw, g_184 hw hτ hv hd, iB_t hcb, z10, z00, g1, su_16, c1, mr hρS (by omega : 43 + s < 2471), ad_2, ad_4, ad_6, ad_8, ad_10, ad_12, ad_16, ad_24, ad_27, ad_28, ad_31, ad_35, ad_43, ad_51, ad_107, ad_131, ad_311, ml_3, ml_6, ml_7, ml_60, ml_100, ml_2471, mq_12, ar_2, ar_3, ar_4, ar_5, ar_6, of_add, of_mul, on_succ, c2, g2, iB_f x, g3, iB_f u]
          exact hQ
    · rw [if_pos (fun q => y q.1)] at hQ
      have c2 : (0 < Int32.ofNat (ρ (43 + s))) ↔ True := iff_true_intro ((on_lt (i := 0) (by omega) (by omega)).mpr (by omega))
      simp only [↓br_pos, ↓br_neg, ↓rF_I, ↓rF_L, ↓rF_R, ↓rF_N, rO_m, rB_m, ↓rI_m, wI_m, ↓rB2_m, ↓rB3_m, wB2_m, wB3_m, ↓rL_m, wL_m, ↓rQ_m, wQ_m, ↓lI_m, pI_m, pL_m, pR_m, sI_m, sBy_m, sBo_m, sL_m, sQ_m, fst_m, true_and, and_true, tg_some, ln_some, uI_1, uI_2, uL_1, uL_2, uL_3, uQ_1, uQ_2, uQ_3, rv_i, rv_l, rv_n, rv_b0, rv_b1, RMR, ne_eq, reduceCtorEq, not_false_eq_true, Option.getD_some, if_true, if_false, and_self, false_and, and_false, Nat.add_left_cancel_iff, Nat.add_eq_left, Nat.left_eq_add, Nat.one_ne_zero, Nat.reduceAdd, Nat.reduceLT, Nat.reduceLeDiff, Nat.reduceEqDiff, true_implies, false_implies, implies_true, Option.some.injEq, forall_eq', forall_eq, reduceCtorEq, brT, brF, br_s, i_10, i_01, ib_0_2, ib_1_2, tn_0, tn_1, Int32.le_refl, eq_self, rv_bN, rv_iM, RCM 81, RLY, lit_at hw, g_184 hw hτ hv hd, iB_t hcb, z10, g1, su_16, c1, mr hρS (by omega : 43 + s < 2471), ad_2, ad_4, ad_6, ad_8, ad_10, ad_12, ad_16, ad_24, ad_27, ad_28, ad_31, ad_35, ad_43, ad_51, ad_107, ad_131, ad_311, ml_3, ml_6, ml_7, ml_60, ml_100, ml_2471, mq_12, ar_2, ar_3, ar_4, ar_5, ar_6, of_add, of_mul, on_succ, c2]
      exact hQ
theorem g_185z {w : mT} {σ : mS} {τ : Rw} {p c s : Int32} {D : Nat} {K : Int32 → Hp → Prop} (hw : lit w) (hτ : mTold σ τ) (hv : vTold τ) (ha : ¬ (bC τ p c = 1 ∧ bN s (τ 2) = 1)) (hD : 5 ≤ D) : wpI D 185 [.ref 81, .int p, .int c, .int s] (mW w σ) K ↔ K 1 (mW w σ) := by
  refine cI_of (m := 4) (fun d hd Q hQ => ?_) rfl hD
  refine b185_0 ?_
  simp only [↓br_pos, ↓br_neg, ↓rF_I, ↓rF_L, ↓rF_R, ↓rF_N, rO_m, rB_m, ↓rI_m, wI_m, ↓rB2_m, ↓rB3_m, wB2_m, wB3_m, ↓rL_m, wL_m, ↓rQ_m, wQ_m, ↓lI_m, pI_m, pL_m, pR_m, sI_m, sBy_m, sBo_m, sL_m, sQ_m, fst_m, true_and, and_true, tg_some, ln_some, uI_1, uI_2, uL_1, uL_2, uL_3, uQ_1, uQ_2, uQ_3, rv_i, rv_l, rv_n, rv_b0, rv_b1, RMR, ne_eq, reduceCtorEq, not_false_eq_true, Option.getD_some, if_true, if_false, and_self, false_and, and_false, Nat.add_left_cancel_iff, Nat.add_eq_left, Nat.left_eq_add, Nat.one_ne_zero, Nat.reduceAdd, Nat.reduceLT, Nat.reduceLeDiff, Nat.reduceEqDiff, true_implies, false_implies, implies_true, Option.some.injEq, forall_eq', forall_eq, reduceCtorEq, brT, brF, br_s, i_10, i_01, ib_0_2, ib_1_2, tn_0, tn_1, Int32.le_refl, eq_self, rv_bN, rv_iM, RCM 81, RLY, lit_at hw, g_184 hw hτ hv hd, iB_f ha, z00]
  exact hQ
theorem uI_0s {σ : mS} {T G : Nat} : frZ σ (su (uI σ 81 0 0) T G) := frZ_tr (frZ_0 (by omega)) frZ_su
theorem m_186z {w : mT} {σ : mS} {tp n : Nat} {t : Nat → Nat} {τ ρ : Rw} {bk : Nat → Rw} {has : Nat → Bool} {im : Nat → Rw} {p c s : Int32} {D : Nat} {K : Int32 → Hp → Prop} (h : mIn w σ tp t τ ρ n bk has im) (ha : ¬ (bC τ p c = 1 ∧ bN s (τ 2) = 1)) (hD : 6 ≤ D) : wpI D 186 [.ref 81, .int p, .int c, .int s] (mW w σ) K ↔ K 1 (mW w (uI σ 81 0 0)) := by
  have M := h
  obtain ⟨hw, hτ, hρ, hv, hr, hp2, htp, htb, htl, hn, hn12, hbk, him⟩ := h
  have M0 := mIn_Z M (frZ_0 (j := 0) (x := 0) (by omega))
  obtain ⟨_, hτ0, hρ0, _, _, hp20, _, htb0, _, hn0, _, hbk0, him0⟩ := M0
  have M0 := mIn_Z M (frZ_0 (j := 0) (x := 0) (by omega))
  refine cI_of (m := 5) (fun d hd Q hQ => ?_) rfl hD
  refine b186_0 ?_
  simp only [↓br_pos, ↓br_neg, ↓rF_I, ↓rF_L, ↓rF_R, ↓rF_N, rO_m, rB_m, ↓rI_m, wI_m, ↓rB2_m, ↓rB3_m, wB2_m, wB3_m, ↓rL_m, wL_m, ↓rQ_m, wQ_m, ↓lI_m, pI_m, pL_m, pR_m, sI_m, sBy_m, sBo_m, sL_m, sQ_m, fst_m, true_and, and_true, tg_some, ln_some, uI_1, uI_2, uL_1, uL_2, uL_3, uQ_1, uQ_2, uQ_3, rv_i, rv_l, rv_n, rv_b0, rv_b1, RMR, ne_eq, reduceCtorEq, not_false_eq_true, Option.getD_some, if_true, if_false, and_self, false_and, and_false, Nat.add_left_cancel_iff, Nat.add_eq_left, Nat.left_eq_add, Nat.one_ne_zero, Nat.reduceAdd, Nat.reduceLT, Nat.reduceLeDiff, Nat.reduceEqDiff, true_implies, false_implies, implies_true, Option.some.injEq, forall_eq', forall_eq, reduceCtorEq, brT, brF, br_s, i_10, i_01, ib_0_2, ib_1_2, tn_0, tn_1, Int32.le_refl, eq_self, rv_bN, rv_iM, RCM 81, RLY, lit_at hw, g_185z hw hτ0 hv ha hd]
  exact hQ
theorem m_186 {w : mT} {σ : mS} {tp n : Nat} {t : Nat → Nat} {τ ρ : Rw} {bk : Nat → Rw} {has : Nat → Bool} {im : Nat → Rw} {p c s : Nat} (h : mIn w σ tp t τ ρ n bk has im) (hp : p < τ 1) (hc : c < τ (28 + p)) (hs : s < τ 2) : ∃ σ', frA σ σ' ∧ mIn w σ' tp t τ ρ n bk has im ∧ ∀ {D : Nat} {K : Int32 → Hp → Prop}, 6 ≤ D → (wpI D 186 [.ref 81, .int (Int32.ofNat p), .int (Int32.ofNat c), .int (Int32.ofNat s)] (mW w σ) K ↔ K (Int32.ofNat (wcN τ ρ p c s)) (mW w σ')) := by
  have M := h
  obtain ⟨hw, hτ, hρ, hv, hr, hp2, htp, htb, htl, hn, hn12, hbk, him⟩ := h
  have M0 := mIn_Z M (frZ_0 (j := 0) (x := 0) (by omega))
  obtain ⟨_, hτ0, hρ0, _, _, hp20, _, htb0, _, hn0, _, hbk0, him0⟩ := M0
  have M0 := mIn_Z M (frZ_0 (j := 0) (x := 0) (by omega))
  refine ⟨su (uI σ 81 0 0) (tOn ρ p c) (gOn τ ρ p c), frZ_A uI_0s, mIn_Z M uI_0s, fun hD => cI_of (m := 5) (fun d hd Q hQ => ?_) rfl hD⟩
  refine b186_0 ?_
  simp only [↓br_pos, ↓br_neg, ↓rF_I, ↓rF_L, ↓rF_R, ↓rF_N, rO_m, rB_m, ↓rI_m, wI_m, ↓rB2_m, ↓rB3_m, wB2_m, wB3_m, ↓rL_m, wL_m, ↓rQ_m, wQ_m, ↓lI_m, pI_m, pL_m, pR_m, sI_m, sBy_m, sBo_m, sL_m, sQ_m, fst_m, true_and, and_true, tg_some, ln_some, uI_1, uI_2, uL_1, uL_2, uL_3, uQ_1, uQ_2, uQ_3, rv_i, rv_l, rv_n, rv_b0, rv_b1, RMR, ne_eq, reduceCtorEq, not_false_eq_true, Option.getD_some, if_true, if_false, and_self, false_and, and_false, Nat.add_left_cancel_iff, Nat.add_eq_left, Nat.left_eq_add, Nat.one_ne_zero, Nat.reduceAdd, Nat.reduceLT, Nat.reduceLeDiff, Nat.reduceEqDiff, true_implies, false_implies, implies_true, Option.some.injEq, forall_eq', forall_eq, reduceCtorEq, brT, brF, br_s, i_10, i_01, ib_0_2, ib_1_2, tn_0, tn_1, Int32.le_refl, eq_self, rv_bN, rv_iM, RCM 81, RLY, lit_at hw, g_185 hw hτ0 hρ0 hv hr hp hc hs hd]
  exact hQ
theorem m_188z {w : mT} {σ : mS} {tp n : Nat} {t : Nat → Nat} {τ ρ : Rw} {bk : Nat → Rw} {has : Nat → Bool} {im : Nat → Rw} {p c s : Int32} {D : Nat} {K : Int32 → Hp → Prop} (h : mIn w σ tp t τ ρ n bk has im) (ha : ¬ (bC τ p c = 1 ∧ bN s (τ 2) = 1)) (hD : 6 ≤ D) : wpI D 188 [.ref 81, .int p, .int c, .int s] (mW w σ) K ↔ K (-1) (mW w (uI σ 81 0 0)) := by
  have M := h
  obtain ⟨hw, hτ, hρ, hv, hr, hp2, htp, htb, htl, hn, hn12, hbk, him⟩ := h
  have M0 := mIn_Z M (frZ_0 (j := 0) (x := 0) (by omega))
  obtain ⟨_, hτ0, hρ0, _, _, hp20, _, htb0, _, hn0, _, hbk0, him0⟩ := M0
  have M0 := mIn_Z M (frZ_0 (j := 0) (x := 0) (by omega))
  refine cI_of (m := 5) (fun d hd Q hQ => ?_) rfl hD
  have c1 : ((1 : Int32) ≤ 0) ↔ False := by decide
  refine b188_0 ?_
  simp only [↓br_pos, ↓br_neg, ↓rF_I, ↓rF_L, ↓rF_R, ↓rF_N, rO_m, rB_m, ↓rI_m, wI_m, ↓rB2_m, ↓rB3_m, wB2_m, wB3_m, ↓rL_m, wL_m, ↓rQ_m, wQ_m, ↓lI_m, pI_m, pL_m, pR_m, sI_m, sBy_m, sBo_m, sL_m, sQ_m, fst_m, true_and, and_true, tg_some, ln_some, uI_1, uI_2, uL_1, uL_2, uL_3, uQ_1, uQ_2, uQ_3, rv_i, rv_l, rv_n, rv_b0, rv_b1, RMR, ne_eq, reduceCtorEq, not_false_eq_true, Option.getD_some, if_true, if_false, and_self, false_and, and_false, Nat.add_left_cancel_iff, Nat.add_eq_left, Nat.left_eq_add, Nat.one_ne_zero, Nat.reduceAdd, Nat.reduceLT, Nat.reduceLeDiff, Nat.reduceEqDiff, true_implies, false_implies, implies_true, Option.some.injEq, forall_eq', forall_eq, reduceCtorEq, brT, brF, br_s, i_10, i_01, ib_0_2, ib_1_2, tn_0, tn_1, Int32.le_refl, eq_self, rv_bN, rv_iM, RCM 81, RLY, lit_at hw, g_185z hw hτ0 hv ha hd, c1]
  exact hQ
theorem m_188n {w : mT} {σ : mS} {tp n : Nat} {t : Nat → Nat} {τ ρ : Rw} {bk : Nat → Rw} {has : Nat → Bool} {im : Nat → Rw} {p c s : Nat} (h : mIn w σ tp t τ ρ n bk has im) (hp : p < τ 1) (hc : c < τ (28 + p)) (hs : s < τ 2) (hy0 : wcN τ ρ p c s ≠ 0) : ∃ σ', frA σ σ' ∧ mIn w σ' tp t τ ρ n bk has im ∧ ∀ {D : Nat} {K : Int32 → Hp → Prop}, 6 ≤ D → (wpI D 188 [.ref 81, .int (Int32.ofNat p), .int (Int32.ofNat c), .int (Int32.ofNat s)] (mW w σ) K ↔ K (-1) (mW w σ')) := by
  have M := h
  obtain ⟨hw, hτ, hρ, hv, hr, hp2, htp, htb, htl, hn, hn12, hbk, him⟩ := h
  have M0 := mIn_Z M (frZ_0 (j := 0) (x := 0) (by omega))
  obtain ⟨_, hτ0, hρ0, _, _, hp20, _, htb0, _, hn0, _, hbk0, him0⟩ := M0
  have M0 := mIn_Z M (frZ_0 (j := 0) (x := 0) (by omega))
  refine ⟨su (uI σ 81 0 0) (tOn ρ p c) (gOn τ ρ p c), frZ_A uI_0s, mIn_Z M uI_0s, fun hD => cI_of (m := 5) (fun d hd Q hQ => ?_) rfl hD⟩
  have lt := wc_lt (τ := τ) (ρ := ρ) (p := p) (c := c) (s := s)
  have c1 : (Int32.ofNat (wcN τ ρ p c s) ≤ 0) ↔ False := iff_false_intro (fun q => hy0 ((of_le0 (by omega)).mp q))
  refine b188_0 ?_
  simp only [↓br_pos, ↓br_neg, ↓rF_I, ↓rF_L, ↓rF_R, ↓rF_N, rO_m, rB_m, ↓rI_m, wI_m, ↓rB2_m, ↓rB3_m, wB2_m, wB3_m, ↓rL_m, wL_m, ↓rQ_m, wQ_m, ↓lI_m, pI_m, pL_m, pR_m, sI_m, sBy_m, sBo_m, sL_m, sQ_m, fst_m, true_and, and_true, tg_some, ln_some, uI_1, uI_2, uL_1, uL_2, uL_3, uQ_1, uQ_2, uQ_3, rv_i, rv_l, rv_n, rv_b0, rv_b1, RMR, ne_eq, reduceCtorEq, not_false_eq_true, Option.getD_some, if_true, if_false, and_self, false_and, and_false, Nat.add_left_cancel_iff, Nat.add_eq_left, Nat.left_eq_add, Nat.one_ne_zero, Nat.reduceAdd, Nat.reduceLT, Nat.reduceLeDiff, Nat.reduceEqDiff, true_implies, false_implies, implies_true, Option.some.injEq, forall_eq', forall_eq, reduceCtorEq, brT, brF, br_s, i_10, i_01, ib_0_2, ib_1_2, tn_0, tn_1, Int32.le_refl, eq_self, rv_bN, rv_iM, RCM 81, RLY, lit_at hw, g_185 hw hτ0 hρ0 hv hr hp hc hs hd, c1]
  exact hQ
theorem m_188 {w : mT} {σ : mS} {tp n : Nat} {t : Nat → Nat} {τ ρ : Rw} {bk : Nat → Rw} {has : Nat → Bool} {im : Nat → Rw} {p c s : Nat} (h : mIn w σ tp t τ ρ n bk has im) (hp : p < τ 1) (hc : c < τ (28 + p)) (hs : s < τ 2) (hy0 : wcN τ ρ p c s = 0) : ∃ σ', frA σ σ' ∧ mIn w σ' tp t τ (sCutA τ ρ p c s) (nPh n) (bkPh n bk ρ) has im ∧ ∀ {D : Nat} {K : Int32 → Hp → Prop}, 6 ≤ D → (wpI D 188 [.ref 81, .int (Int32.ofNat p), .int (Int32.ofNat c), .int (Int32.ofNat s)] (mW w σ) K ↔ K (Int32.ofNat (tOn ρ p c)) (mW w σ')) := by
  have M := h
  obtain ⟨hw, hτ, hρ, hv, hr, hp2, htp, htb, htl, hn, hn12, hbk, him⟩ := h
  have M0 := mIn_Z M (frZ_0 (j := 0) (x := 0) (by omega))
  obtain ⟨_, hτ0, hρ0, _, _, hp20, _, htb0, _, hn0, _, hbk0, him0⟩ := M0
  have M0 := mIn_Z M (frZ_0 (j := 0) (x := 0) (by omega))
  have v1 := hv.2.1
  have v3 := (hv.2.2.2.2.2.1 p hp).2
  have hs1 := onP_lt hv (vR_on hr (by omega : 1 < 2))
  have M0' := mIn_Z (σ' := su (uI σ 81 0 0) (tOn ρ p c) (gOn τ ρ p c)) M uI_0s
  obtain ⟨σ1, f1, M1, k1⟩ := k_177 M0'
  have hρ1 := M1.2.2.1
  have hτ1 := M1.2.1
  have r2 : vRow τ (rSet (sGo ρ 1 p c) 7 0) := vRow_s hv (vRow_go hv hr (by omega) hp hc) (by omega)
  have eD : ∀ j, j < 2471 → rSet (sGo ρ 1 p c) 7 0 j = rSet (rSet (rSet ρ 5 (ρ 5 + if onAtD ρ 1 p then dist (cellAt ρ 1) c else 10)) (2 + 1) (100 * p + c + 1)) 7 0 j := fun j _ => rfl
  have hρ2 := mR_e (mR_w (j := 7) (x := 0) (mR_w (j := 2 + 1) (x := 100 * p + c + 1) (mR_w (j := 5) (x := ρ 5 + if onAtD ρ 1 p then dist (cellAt ρ 1) c else 10) hρ1))) eD
  have hτ2 : mTold (uI (uI (uI σ1 85 5 (Int32.ofNat (ρ 5 + if onAtD ρ 1 p then dist (cellAt ρ 1) c else 10))) 85 (2 + 1) (Int32.ofNat (100 * p + c + 1))) 85 7 0) τ := mT_c hτ1 (by rw [uI_o (by omega), uI_o (by omega), uI_o (by omega)])
  obtain ⟨σ3, T, G, f3, r3, e3⟩ := o_187 (s := s) hw hτ2 hρ2 hv r2 (by omega : p < 3) (by omega : c < 12) hs
  have et : tOn (rSet (sGo ρ 1 p c) 7 0) p c = tOn ρ p c := tOn_c (by rw [rS_ne (by omega)]; unfold sGo; rw [rS_ne (by omega), rS_ne (by omega)]) (fun k _ => by rw [rS_ne (by unfold li; omega)]; unfold sGo; rw [rS_ne (by unfold li; omega), rS_ne (by unfold li; omega)])
  rw [et] at e3
  have f4 : frR 85 86 σ1 (uI (uI (uI σ1 85 5 (Int32.ofNat (ρ 5 + if onAtD ρ 1 p then dist (cellAt ρ 1) c else 10))) 85 (2 + 1) (Int32.ofNat (100 * p + c + 1))) 85 7 0) := frR_tr (frR_I (by omega)) (frR_tr (frR_I (by omega)) (frR_I (by omega)))
  have M4 := mIn_row M1 f4 hρ2 r2
  have M5 := mIn_Z (σ' := su (uI (uI (uI σ1 85 5 (Int32.ofNat (ρ 5 + if onAtD ρ 1 p then dist (cellAt ρ 1) c else 10))) 85 (2 + 1) (Int32.ofNat (100 * p + c + 1))) 85 7 0) T G) M4 frZ_su
  refine ⟨σ3, frA_tr (frZ_A uI_0s) (frA_tr f1 (frA_tr (frA_R f4 (by omega)) (frA_tr (frZ_A frZ_su) (frA_R f3 (by omega))))), mIn_row M5 f3 r3 (vRow_move hv r2 (by omega) (by omega) hs), fun hD => cI_of (m := 5) (fun d hd Q hQ => ?_) rfl hD⟩
  have hd1 : 1 ≤ d := by omega
  have hd2 : 2 ≤ d := by omega
  have hd3 : 3 ≤ d := by omega
  have lt := wc_lt (τ := τ) (ρ := ρ) (p := p) (c := c) (s := s)
  have c1 : (Int32.ofNat (wcN τ ρ p c s) ≤ 0) ↔ True := iff_true_intro ((of_le0 (by omega)).mpr hy0)
  have g5 := fun {K : Int32 → Hp → Prop} => g_175 (K := K) (σ := σ1) (m := 1) (x := 1) (p := p) (c := c) hw hρ1 rfl (by omega) hs1 (by omega) (by omega) hd2
  have g6 := fun {y : Int32} {K : Hp → Prop} => g_176 (K := K) (σ := uI σ1 85 5 y) (m := 1) (x := 1) (p := p) (c := c) hw rfl (by omega) hd1
  refine b188_0 ?_
  simp only [↓br_pos, ↓br_neg, ↓rF_I, ↓rF_L, ↓rF_R, ↓rF_N, rO_m, rB_m, ↓rI_m, wI_m, ↓rB2_m, ↓rB3_m, wB2_m, wB3_m, ↓rL_m, wL_m, ↓rQ_m, wQ_m, ↓lI_m, pI_m, pL_m, pR_m, sI_m, sBy_m, sBo_m, sL_m, sQ_m, fst_m, true_and, and_true, tg_some, ln_some, uI_1, uI_2, uL_1, uL_2, uL_3, uQ_1, uQ_2, uQ_3, rv_i, rv_l, rv_n, rv_b0, rv_b1, RMR, ne_eq, reduceCtorEq, not_false_eq_true, Option.getD_some, if_true, if_false, and_self, false_and, and_false, Nat.add_left_cancel_iff, Nat.add_eq_left, Nat.left_eq_add, Nat.one_ne_zero, Nat.reduceAdd, Nat.reduceLT, Nat.reduceLeDiff, Nat.reduceEqDiff, true_implies, false_implies, implies_true, Option.some.injEq, forall_eq', forall_eq, reduceCtorEq, brT, brF, br_s, i_10, i_01, ib_0_2, ib_1_2, tn_0, tn_1, Int32.le_refl, eq_self, rv_bN, rv_iM, RCM 81, RLY, lit_at hw, g_185 hw hτ0 hρ0 hv hr hp hc hs hd, c1, k1 hd2, mr_5l hρ1, g5, g6, inB_2471_7, tn7, ad_2, ad_4, ad_6, ad_8, ad_10, ad_12, ad_16, ad_24, ad_27, ad_28, ad_31, ad_35, ad_43, ad_51, ad_107, ad_131, ad_311, ml_3, ml_6, ml_7, ml_60, ml_100, ml_2471, mq_12, ar_2, ar_3, ar_4, ar_5, ar_6, of_add, of_mul, on_succ]
  exact (e3 hd3).mpr hQ
theorem lg0n {a b : Nat} (ha : a < 9223372036854775808) (hb : b < 9223372036854775808) : (0 < lg_cmp (Int64.ofNat a) (Int64.ofNat b)) ↔ b < a := by
  rw [← Int32.not_le, lgq ha hb, Nat.not_le]
theorem g_190 {w : mT} {σ : mS} {τ : Rw} {s T O : Nat} {D : Nat} {K : Int32 → Hp → Prop} (hw : lit w) (hτ : mTold σ τ) (hv : vTold τ) (hs : s < τ 2) (hT : T ≤ 2000000) (hO : O < 2147483648) (hD : 2 ≤ D) : wpI D 190 [.ref 81, .int (Int32.ofNat s), .int (Int32.ofNat T), .int (Int32.ofNat O)] (mW w σ) K ↔ K (iB (wiP τ s T O)) (mW w σ) := by
  refine cI_of (m := 1) (fun d hd Q hQ => ?_) rfl hD
  have v2 := hv.2.2.1
  obtain ⟨_, v3, v4, _⟩ := hv.2.2.2.2.2.2 s hs
  have g1 := fun {K : Int32 → Hp → Prop} => g_155 (K := K) (s := s) (x := 1) (a := 1) hw hτ rfl (by omega) hd
  have g2 := fun {K : Int32 → Hp → Prop} => g_155 (K := K) (s := s) (x := 2) (a := 2) hw hτ rfl (by omega) hd
  have m1 : τ (31 + 6 * s + 1) * T ≤ 999 * 2000000 := Nat.mul_le_mul v3 hT
  have m2 : τ (31 + 6 * s + 2) * T ≤ 999 * 2000000 := Nat.mul_le_mul v4 hT
  have c1 := lg0n (a := τ (31 + 6 * s + 1) * T) (b := O) (by omega) (by omega)
  have c2 := lg0n (a := O) (b := τ (31 + 6 * s + 2) * T) (by omega) (by omega)
  refine b190_0 ?_
  by_cases z : τ (31 + 6 * s + 1) * T ≤ O
  · have c1' := iff_false_intro (fun q => absurd (c1.mp q) (by omega))
    by_cases y : O ≤ τ (31 + 6 * s + 2) * T
    · have c2' := iff_false_intro (fun q => absurd (c2.mp q) (by omega))
      rw [iB_t ⟨z, y⟩] at hQ
      simp only [↓br_pos, ↓br_neg, ↓rF_I, ↓rF_L, ↓rF_R, ↓rF_N, rO_m, rB_m, ↓rI_m, wI_m, ↓rB2_m, ↓rB3_m, wB2_m, wB3_m, ↓rL_m, wL_m, ↓rQ_m, wQ_m, ↓lI_m, pI_m, pL_m, pR_m, sI_m, sBy_m, sBo_m, sL_m, sQ_m, fst_m, true_and, and_true, tg_some, ln_some, uI_1, uI_2, uL_1, uL_2, uL_3, uQ_1, uQ_2, uQ_3, rv_i, rv_l, rv_n, rv_b0, rv_b1, RMR, ne_eq, reduceCtorEq, not_false_eq_true, Option.getD_some, if_true, if_false, and_self, false_and, and_false, Nat.add_left_cancel_iff, Nat.add_eq_left, Nat.left_eq_add, Nat.one_ne_zero, Nat.reduceAdd, Nat.reduceLT, Nat.reduceLeDiff, Nat.reduceEqDiff, true_implies, false_implies, implies_true, Option.some.injEq, forall_eq', forall_eq, reduceCtorEq, brT, brF, br_s, i_10, i_01, ib_0_2, ib_1_2, tn_0, tn_1, Int32.le_refl, eq_self, rv_bN, rv_iM, RCM 81, RLY, lit_at hw, g1, g2, i64_of (by omega : τ (31 + 6 * s + 1) < 2147483648), i64_of (by omega : τ (31 + 6 * s + 2) < 2147483648), i64_of (by omega : T < 2147483648), i64_of hO, ol_mul, c1', c2']
      exact hQ
    · have c2' := iff_true_intro (c2.mpr (by omega))
      rw [iB_f (fun q => y q.2)] at hQ
      simp only [↓br_pos, ↓br_neg, ↓rF_I, ↓rF_L, ↓rF_R, ↓rF_N, rO_m, rB_m, ↓rI_m, wI_m, ↓rB2_m, ↓rB3_m, wB2_m, wB3_m, ↓rL_m, wL_m, ↓rQ_m, wQ_m, ↓lI_m, pI_m, pL_m, pR_m, sI_m, sBy_m, sBo_m, sL_m, sQ_m, fst_m, true_and, and_true, tg_some, ln_some, uI_1, uI_2, uL_1, uL_2, uL_3, uQ_1, uQ_2, uQ_3, rv_i, rv_l, rv_n, rv_b0, rv_b1, RMR, ne_eq, reduceCtorEq, not_false_eq_true, Option.getD_some, if_true, if_false, and_self, false_and, and_false, Nat.add_left_cancel_iff, Nat.add_eq_left, Nat.left_eq_add, Nat.one_ne_zero, Nat.reduceAdd, Nat.reduceLT, Nat.reduceLeDiff, Nat.reduceEqDiff, true_implies, false_implies, implies_true, Option.some.injEq, forall_eq', forall_eq, reduceCtorEq, brT, brF, br_s, i_10, i_01, ib_0_2, ib_1_2, tn_0, tn_1, Int32.le_refl, eq_self, rv_bN, rv_iM, RCM 81, RLY, lit_at hw, g1, g2, i64_of (by omega : τ (31 + 6 * s + 1) < 2147483648), i64_of (by omega : τ (31 + 6 * s + 2) < 2147483648), i64_of (by omega : T < 2147483648), i64_of hO, ol_mul, c1', c2']
      exact hQ
  · have c1' := iff_true_intro (c1.mpr (by omega))
    rw [iB_f (fun q => z q.1)] at hQ
    simp only [↓br_pos, ↓br_neg, ↓rF_I, ↓rF_L, ↓rF_R, ↓rF_N, rO_m, rB_m, ↓rI_m, wI_m, ↓rB2_m, ↓rB3_m, wB2_m, wB3_m, ↓rL_m, wL_m, ↓rQ_m, wQ_m, ↓lI_m, pI_m, pL_m, pR_m, sI_m, sBy_m, sBo_m, sL_m, sQ_m, fst_m, true_and, and_true, tg_some, ln_some, uI_1, uI_2, uL_1, uL_2, uL_3, uQ_1, uQ_2, uQ_3, rv_i, rv_l, rv_n, rv_b0, rv_b1, RMR, ne_eq, reduceCtorEq, not_false_eq_true, Option.getD_some, if_true, if_false, and_self, false_and, and_false, Nat.add_left_cancel_iff, Nat.add_eq_left, Nat.left_eq_add, Nat.one_ne_zero, Nat.reduceAdd, Nat.reduceLT, Nat.reduceLeDiff, Nat.reduceEqDiff, true_implies, false_implies, implies_true, Option.some.injEq, forall_eq', forall_eq, reduceCtorEq, brT, brF, br_s, i_10, i_01, ib_0_2, ib_1_2, tn_0, tn_1, Int32.le_refl, eq_self, rv_bN, rv_iM, RCM 81, RLY, lit_at hw, g1, i64_of (by omega : τ (31 + 6 * s + 1) < 2147483648), i64_of (by omega : T < 2147483648), i64_of hO, ol_mul, c1']
    exact hQ
theorem m_191z {w : mT} {σ : mS} {tp n : Nat} {t : Nat → Nat} {τ ρ : Rw} {bk : Nat → Rw} {has : Nat → Bool} {im : Nat → Rw} {a : Int32} {D : Nat} {K : Int32 → Hp → Prop} (h : mIn w σ tp t τ ρ n bk has im) (ha : ¬ (bN a (τ 2) = 1 ∧ saP τ ρ a.toNatClampNeg)) (hD : 3 ≤ D) : wpI D 191 [.ref 81, .int a] (mW w σ) K ↔ K (-1) (mW w (uI σ 81 0 0)) := by
  have M := h
  obtain ⟨hw, hτ, hρ, hv, hr, hp2, htp, htb, htl, hn, hn12, hbk, him⟩ := h
  have M0 := mIn_Z M (frZ_0 (j := 0) (x := 0) (by omega))
  obtain ⟨_, hτ0, hρ0, _, _, hp20, _, htb0, _, hn0, _, hbk0, him0⟩ := M0
  have M0 := mIn_Z M (frZ_0 (j := 0) (x := 0) (by omega))
  refine cI_of (m := 2) (fun d hd Q hQ => ?_) rfl hD
  have v2 := hv.2.2.1
  refine b191_0 ?_
  by_cases z : bN a (τ 2) = 1
  · obtain ⟨s, rfl, hs⟩ := bN_ex z
    rw [on_nat (by omega)] at ha
    have rs := vR_sa hr s hs
    have hh := hold_lt hr hs
    have ho := vR_ore hr s hs
    by_cases y : ρ (43 + s) = 0
    · have c2 : (0 < Int32.ofNat (ρ (43 + s))) ↔ False := iff_false_intro (fun q => absurd ((on_lt (i := 0) (by omega) (by omega)).mp q) (by omega))
      by_cases x : τ (31 + 6 * s) ≤ ρ (27 + s)
      · have u : ¬ wiP τ s (ρ (27 + s)) (ρ (35 + s)) := fun q => ha ⟨z, y, fun r => by have := r.2; omega, q⟩
        simp only [↓br_pos, ↓br_neg, ↓rF_I, ↓rF_L, ↓rF_R, ↓rF_N, rO_m, rB_m, ↓rI_m, wI_m, ↓rB2_m, ↓rB3_m, wB2_m, wB3_m, ↓rL_m, wL_m, ↓rQ_m, wQ_m, ↓lI_m, pI_m, pL_m, pR_m, sI_m, sBy_m, sBo_m, sL_m, sQ_m, fst_m, true_and, and_true, tg_some, ln_some, uI_1, uI_2, uL_1, uL_2, uL_3, uQ_1, uQ_2, uQ_3, rv_i, rv_l, rv_n, rv_b0, rv_b1, RMR, ne_eq, reduceCtorEq, not_false_eq_true, Option.getD_some, if_true, if_false, and_self, false_and, and_false, Nat.add_left_cancel_iff, Nat.add_eq_left, Nat.left_eq_add, Nat.one_ne_zero, Nat.reduceAdd, Nat.reduceLT, Nat.reduceLeDiff, Nat.reduceEqDiff, true_implies, false_implies, implies_true, Option.some.injEq, forall_eq', forall_eq, reduceCtorEq, brT, brF, br_s, i_10, i_01, ib_0_2, ib_1_2, tn_0, tn_1, Int32.le_refl, eq_self, rv_bN, rv_iM, RCM 81, RLY, lit_at hw, g_153 hw hτ0 hv hd, z, z10, z00, mr hρ (by omega : 43 + s < 2471), ad_2, ad_4, ad_6, ad_8, ad_10, ad_12, ad_16, ad_24, ad_27, ad_28, ad_31, ad_35, ad_43, ad_51, ad_107, ad_131, ad_311, ml_3, ml_6, ml_7, ml_60, ml_100, ml_2471, mq_12, ar_2, ar_3, ar_4, ar_5, ar_6, of_add, of_mul, on_succ, c2, g_159 hw hτ0 hρ0 hv hs hh hd, iB_t x, mr hρ (by omega : 27 + s < 2471), mr hρ (by omega : 35 + s < 2471), g_190 hw hτ0 hv hs (by omega : ρ (27 + s) ≤ 2000000) (by omega : ρ (35 + s) < 2147483648) hd, iB_f u]
        exact hQ
      · simp only [↓br_pos, ↓br_neg, ↓rF_I, ↓rF_L, ↓rF_R, ↓rF_N, rO_m, rB_m, ↓rI_m, wI_m, ↓rB2_m, ↓rB3_m, wB2_m, wB3_m, ↓rL_m, wL_m, ↓rQ_m, wQ_m, ↓lI_m, pI_m, pL_m, pR_m, sI_m, sBy_m, sBo_m, sL_m, sQ_m, fst_m, true_and, and_true, tg_some, ln_some, uI_1, uI_2, uL_1, uL_2, uL_3, uQ_1, uQ_2, uQ_3, rv_i, rv_l, rv_n, rv_b0, rv_b1, RMR, ne_eq, reduceCtorEq, not_false_eq_true, Option.getD_some, if_true, if_false, and_self, false_and, and_false, Nat.add_left_cancel_iff, Nat.add_eq_left, Nat.left_eq_add, Nat.one_ne_zero, Nat.reduceAdd, Nat.reduceLT, Nat.reduceLeDiff, Nat.reduceEqDiff, true_implies, false_implies, implies_true, Option.some.injEq, forall_eq', forall_eq, reduceCtorEq, brT, brF, br_s, i_10, i_01, ib_0_2, ib_1_2, tn_0, tn_1, Int32.le_refl, eq_self, rv_bN, rv_iM, RCM 81, RLY, lit_at hw, g_153 hw hτ0 hv hd, z, z10, z00, mr hρ (by omega : 43 + s < 2471), ad_2, ad_4, ad_6, ad_8, ad_10, ad_12, ad_16, ad_24, ad_27, ad_28, ad_31, ad_35, ad_43, ad_51, ad_107, ad_131, ad_311, ml_3, ml_6, ml_7, ml_60, ml_100, ml_2471, mq_12, ar_2, ar_3, ar_4, ar_5, ar_6, of_add, of_mul, on_succ, c2, g_159 hw hτ0 hρ0 hv hs hh hd, iB_f x]
        exact hQ
    · have c2 : (0 < Int32.ofNat (ρ (43 + s))) ↔ True := iff_true_intro ((on_lt (i := 0) (by omega) (by omega)).mpr (by omega))
      simp only [↓br_pos, ↓br_neg, ↓rF_I, ↓rF_L, ↓rF_R, ↓rF_N, rO_m, rB_m, ↓rI_m, wI_m, ↓rB2_m, ↓rB3_m, wB2_m, wB3_m, ↓rL_m, wL_m, ↓rQ_m, wQ_m, ↓lI_m, pI_m, pL_m, pR_m, sI_m, sBy_m, sBo_m, sL_m, sQ_m, fst_m, true_and, and_true, tg_some, ln_some, uI_1, uI_2, uL_1, uL_2, uL_3, uQ_1, uQ_2, uQ_3, rv_i, rv_l, rv_n, rv_b0, rv_b1, RMR, ne_eq, reduceCtorEq, not_false_eq_true, Option.getD_some, if_true, if_false, and_self, false_and, and_false, Nat.add_left_cancel_iff, Nat.add_eq_left, Nat.left_eq_add, Nat.one_ne_zero, Nat.reduceAdd, Nat.reduceLT, Nat.reduceLeDiff, Nat.reduceEqDiff, true_implies, false_implies, implies_true, Option.some.injEq, forall_eq', forall_eq, reduceCtorEq, brT, brF, br_s, i_10, i_01, ib_0_2, ib_1_2, tn_0, tn_1, Int32.le_refl, eq_self, rv_bN, rv_iM, RCM 81, RLY, lit_at hw, g_153 hw hτ0 hv hd, z, z10, mr hρ (by omega : 43 + s < 2471), ad_2, ad_4, ad_6, ad_8, ad_10, ad_12, ad_16, ad_24, ad_27, ad_28, ad_31, ad_35, ad_43, ad_51, ad_107, ad_131, ad_311, ml_3, ml_6, ml_7, ml_60, ml_100, ml_2471, mq_12, ar_2, ar_3, ar_4, ar_5, ar_6, of_add, of_mul, on_succ, c2]
      exact hQ
  · have z' : bN a (τ 2) = 0 := bN_01.resolve_right z
    simp only [↓br_pos, ↓br_neg, ↓rF_I, ↓rF_L, ↓rF_R, ↓rF_N, rO_m, rB_m, ↓rI_m, wI_m, ↓rB2_m, ↓rB3_m, wB2_m, wB3_m, ↓rL_m, wL_m, ↓rQ_m, wQ_m, ↓lI_m, pI_m, pL_m, pR_m, sI_m, sBy_m, sBo_m, sL_m, sQ_m, fst_m, true_and, and_true, tg_some, ln_some, uI_1, uI_2, uL_1, uL_2, uL_3, uQ_1, uQ_2, uQ_3, rv_i, rv_l, rv_n, rv_b0, rv_b1, RMR, ne_eq, reduceCtorEq, not_false_eq_true, Option.getD_some, if_true, if_false, and_self, false_and, and_false, Nat.add_left_cancel_iff, Nat.add_eq_left, Nat.left_eq_add, Nat.one_ne_zero, Nat.reduceAdd, Nat.reduceLT, Nat.reduceLeDiff, Nat.reduceEqDiff, true_implies, false_implies, implies_true, Option.some.injEq, forall_eq', forall_eq, reduceCtorEq, brT, brF, br_s, i_10, i_01, ib_0_2, ib_1_2, tn_0, tn_1, Int32.le_refl, eq_self, rv_bN, rv_iM, RCM 81, RLY, lit_at hw, g_153 hw hτ0 hv hd, z', z00]
    exact hQ
theorem m_191 {w : mT} {σ : mS} {tp n : Nat} {t : Nat → Nat} {τ ρ : Rw} {bk : Nat → Rw} {has : Nat → Bool} {im : Nat → Rw} {s : Nat} (h : mIn w σ tp t τ ρ n bk has im) (hs : s < τ 2) (hy : saP τ ρ s) : ∃ σ', frA σ σ' ∧ mIn w σ' tp t τ (rSet ρ (43 + s) (ρ 0 + 1)) (nPh n) (bkPh n bk ρ) has im ∧ ∀ {D : Nat} {K : Int32 → Hp → Prop}, 3 ≤ D → (wpI D 191 [.ref 81, .int (Int32.ofNat s)] (mW w σ) K ↔ K (Int32.ofNat (lateD τ (rSet ρ (43 + s) (ρ 0 + 1)) s)) (mW w σ')) := by
  have M := h
  obtain ⟨hw, hτ, hρ, hv, hr, hp2, htp, htb, htl, hn, hn12, hbk, him⟩ := h
  have M0 := mIn_Z M (frZ_0 (j := 0) (x := 0) (by omega))
  obtain ⟨_, hτ0, hρ0, _, _, hp20, _, htb0, _, hn0, _, hbk0, him0⟩ := M0
  have M0 := mIn_Z M (frZ_0 (j := 0) (x := 0) (by omega))
  obtain ⟨σ1, f1, M1, k1⟩ := k_177 M0
  have hρ1 := M1.2.2.1
  have hτ1 := M1.2.1
  have F1 := frA_tr (frA_I (σ := σ) (a := 81) (j := 0) (x := 0) (by omega)) f1
  have v2 := hv.2.2.1
  have v0 := vR_day hr
  have rs := vR_sa hr s hs
  have hh := hold_lt hr hs
  have ho := vR_ore hr s hs
  have vr : vRow τ (rSet ρ (43 + s) (ρ 0 + 1)) := vRow_sa hv hr hs (by omega)
  have hρ2 := mR_w (j := 43 + s) (x := ρ 0 + 1) hρ1
  have hτ2 : mTold (uI σ1 85 (43 + s) (Int32.ofNat (ρ 0 + 1))) τ := mT_c hτ1 (uI_o (by omega))
  refine ⟨uI σ1 85 (43 + s) (Int32.ofNat (ρ 0 + 1)), frA_tr F1 (frA_I (by omega)), mIn_row M1 (frR_I (by omega)) hρ2 vr, fun hD => cI_of (m := 2) (fun d hd Q hQ => ?_) rfl hD⟩
  obtain ⟨y1, y2, y3⟩ := hy
  have z := bN_on hs (by omega)
  have x : τ (31 + 6 * s) ≤ ρ (27 + s) := by
    apply Decidable.byContradiction
    intro q
    exact y2 ⟨y1, by omega⟩
  have c2 : (0 < Int32.ofNat (ρ (43 + s))) ↔ False := iff_false_intro (fun q => absurd ((on_lt (i := 0) (by omega) (by omega)).mp q) (by omega))
  refine b191_0 ?_
  simp only [↓br_pos, ↓br_neg, ↓rF_I, ↓rF_L, ↓rF_R, ↓rF_N, rO_m, rB_m, ↓rI_m, wI_m, ↓rB2_m, ↓rB3_m, wB2_m, wB3_m, ↓rL_m, wL_m, ↓rQ_m, wQ_m, ↓lI_m, pI_m, pL_m, pR_m, sI_m, sBy_m, sBo_m, sL_m, sQ_m, fst_m, true_and, and_true, tg_some, ln_some, uI_1, uI_2, uL_1, uL_2, uL_3, uQ_1, uQ_2, uQ_3, rv_i, rv_l, rv_n, rv_b0, rv_b1, RMR, ne_eq, reduceCtorEq, not_false_eq_true, Option.getD_some, if_true, if_false, and_self, false_and, and_false, Nat.add_left_cancel_iff, Nat.add_eq_left, Nat.left_eq_add, Nat.one_ne_zero, Nat.reduceAdd, Nat.reduceLT, Nat.reduceLeDiff, Nat.reduceEqDiff, true_implies, false_implies, implies_true, Option.some.injEq, forall_eq', forall_eq, reduceCtorEq, brT, brF, br_s, i_10, i_01, ib_0_2, ib_1_2, tn_0, tn_1, Int32.le_refl, eq_self, rv_bN, rv_iM, RCM 81, RLY, lit_at hw, g_153 hw hτ0 hv hd, z, z10, z00, mr hρ (by omega : 43 + s < 2471), ad_2, ad_4, ad_6, ad_8, ad_10, ad_12, ad_16, ad_24, ad_27, ad_28, ad_31, ad_35, ad_43, ad_51, ad_107, ad_131, ad_311, ml_3, ml_6, ml_7, ml_60, ml_100, ml_2471, mq_12, ar_2, ar_3, ar_4, ar_5, ar_6, of_add, of_mul, on_succ, c2, g_159 hw hτ0 hρ0 hv hs hh hd, iB_t x, mr hρ (by omega : 27 + s < 2471), mr hρ (by omega : 35 + s < 2471), g_190 hw hτ0 hv hs (by omega : ρ (27 + s) ≤ 2000000) (by omega : ρ (35 + s) < 2147483648) hd, iB_t y3, k1 hd, mr_0l hρ1, ix (by omega : 43 + s < 2471) (by omega), g_160 hw hτ2 hρ2 hv vr hs hd]
  exact hQ
