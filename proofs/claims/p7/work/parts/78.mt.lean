/-! the model's Reader: lines -/
def mDr (σ : mS) (τ : Rw) : Prop := ∀ j, j < 79 → σ.1 84 j = Int32.ofNat (τ j)
theorem mDr_S {σ : mS} {τ : Rw} {A a : Nat} {x : Int32} (h : mDr σ τ) (hx : x = Int32.ofNat a) : mDr (uI σ 84 A x) (rSet τ A a) := fun j hj => by
  subst hx
  rw [uI_1, rSet_1]
  by_cases e : j = A
  · rw [if_pos ⟨rfl, e⟩, if_pos e]
  · rw [if_neg (fun q => e q.2), if_neg e]; exact h j hj
theorem mDr_c {σ σ' : mS} {τ : Rw} (h : mDr σ τ) (f : ∀ j, j < 79 → σ'.1 84 j = σ.1 84 j) : mDr σ' τ := fun j hj => by rw [f j hj]; exact h j hj
theorem mDr_8 {σ σ' : mS} {τ : Rw} (h : mDr σ τ) (f : f8 σ σ') : mDr σ' τ := mDr_c h (fun j _ => by rw [f.1 84 (by omega)])
theorem nmR_8 {σ σ' : mS} {t : Nat → Nat} {k : Nat} {nm : Nat → Int32} (h : nmR σ t k nm) (f : f8 σ σ') : nmR σ' t k nm := nmR_c h (fun j _ => by rw [f.1 84 (by omega)])
theorem nmR_D {σ : mS} {t : Nat → Nat} {k A : Nat} {x : Int32} {nm : Nat → Int32} (h : nmR σ t k nm) (hA : A < 79) : nmR (uI σ 84 A x) t k nm := nmR_c h (fun j _ => by rw [uI_1, if_neg (by omega)])
theorem rSet_2 {τ : Rw} {A a b : Nat} : rSet (rSet τ A a) A b = rSet τ A b := by
  funext j
  rw [rSet_1, rSet_1, rSet_1]
  by_cases e : j = A
  · rw [if_pos e, if_pos e]
  · rw [if_neg e, if_neg e, if_neg e]
def rdS (σ : mS) (t : Nat → Nat) (n : Nat) (g : Rw) (nm : Nat → Int32) (τ : Rw) : Prop := mG σ t n g ∧ mDr σ τ ∧ nmR σ t (g 5) nm
theorem ix_0 : inB (0 : Int32) 102 = true ∧ (0 : Int32).toNatClampNeg = 0 := by decide
theorem ix_1 : inB (1 : Int32) 102 = true ∧ (1 : Int32).toNatClampNeg = 1 := by decide
theorem ix_2 : inB (2 : Int32) 102 = true ∧ (2 : Int32).toNatClampNeg = 2 := by decide
theorem ix_3 : inB (3 : Int32) 102 = true ∧ (3 : Int32).toNatClampNeg = 3 := by decide
def begF (t : Nat → Nat) (n : Nat) (g : Rw) (nm : Nat → Int32) (τ : Rw) (c M : Nat) : Nat := if M ≤ τ c then 8 * g 0 + 4 else nameF t (adv t n g) nm
theorem o_140 {w : mT} {σ : mS} {t : Nat → Nat} {n c M : Nat} {g τ : Rw} {nm : Nat → Int32} {x y : Int32} (hw : lit w) (ht : ∀ i, t i < 256) (hS : rdS σ t n g nm τ) (hV : rV n g τ) (hc : c < 3) (hM : τ c ≤ M) (hM' : M ≤ 12) (h22 : τ c < M → g 5 ≤ 22) (hx : x = Int32.ofNat c) (hy : y = Int32.ofNat M) : ∃ σ', fQ σ σ' ∧ (∀ j, j < 79 → σ'.1 84 j = σ.1 84 j) ∧ (begF t n g nm τ c M ≠ 0 → σ'.1 81 9 = Int32.ofNat (begF t n g nm τ c M)) ∧ (begF t n g nm τ c M = 0 → mG σ' t n (gNm t n (adv t n g)) ∧ nmR σ' t (g 5 + 1) (nmS nm (adv t n g 5) (cdN t (adv t n g)))) ∧ ∀ {D : Nat} {K : Int32 → Hp → Prop}, 4 ≤ D → (wpI D 140 [.ref 81, .int x, .int y] (mW w σ) K ↔ K (if begF t n g nm τ c M = 0 then 1 else 0) (mW w σ')) := by
  subst hx
  subst hy
  obtain ⟨hG, hD, hN⟩ := hS
  obtain ⟨vg, h03, hv, h5⟩ := hV
  have h90 : σ.1 81 9 = 0 := by rw [hG.2.2.2.2.2.2.1, h03]; rfl
  have dc := hD c (by omega)
  unfold begF
  by_cases a : M ≤ τ c
  · rw [if_pos a]
    have n0 : ¬ (8 * g 0 + 4 = 0) := by omega
    have c1 : (Int32.ofNat (τ c) = Int32.ofNat M) ↔ True := iff_true_intro (by rw [show τ c = M by omega])
    refine ⟨uI σ 81 9 (Int32.ofNat (8 * g 0 + 4)), fQ_8 (f8_I (by omega)), fun j _ => by rw [uI_1, if_neg (by omega)], fun _ => by rw [uI_1, if_pos ⟨rfl, rfl⟩], fun q => absurd q n0, fun hD => cI_of (m := 3) (fun d hd Q hQ => ?_) rfl hD⟩
    have hd1 : 1 ≤ d := by omega
    have hd2 : 2 ≤ d := by omega
    have hd3 : 3 ≤ d := by omega
    rw [if_neg n0] at hQ
    refine b140_0 ?_
    simp only [↓br_pos, ↓br_neg, ↓rF_I, ↓rF_L, ↓rF_R, ↓rF_N, rO_m, rB_m, ↓rI_m, wI_m, ↓rB2_m, ↓rB3_m, wB2_m, wB3_m, ↓rL_m, wL_m, ↓rQ_m, wQ_m, ↓lI_m, pI_m, pL_m, pR_m, sI_m, sBy_m, sBo_m, sL_m, sQ_m, fst_m, true_and, and_true, tg_some, ln_some, uI_1, uI_2, uL_1, uL_2, uL_3, uQ_1, uQ_2, uQ_3, rv_i, rv_l, rv_n, rv_b0, rv_b1, RMR, ne_eq, reduceCtorEq, not_false_eq_true, Option.getD_some, if_true, if_false, and_self, false_and, and_false, Nat.add_left_cancel_iff, Nat.add_eq_left, Nat.left_eq_add, Nat.one_ne_zero, Nat.reduceAdd, Nat.reduceLT, Nat.reduceLeDiff, Nat.reduceEqDiff, true_implies, false_implies, implies_true, Option.some.injEq, forall_eq', forall_eq, reduceCtorEq, brT, brF, br_s, i_10, i_01, ib_0_2, ib_1_2, tn_0, tn_1, Int32.le_refl, eq_self, rv_bN, rv_iM, RCM 81, RLY, lit_at hw, ix (by omega : c < 102) (by omega), dc, c1, g_136 (a := 4) (x := 4) hw h90 hG.2.1 rfl hd1]
    exact hQ
  · rw [if_neg a]
    have c1 : (Int32.ofNat (τ c) = Int32.ofNat M) ↔ False := iff_false_intro (fun q => a (by rw [(of_inj (by omega) (by omega)).mp q]; exact Nat.le_refl _))
    obtain ⟨σ1, f1, G1, q1⟩ := o_133g hw ht hG vg
    have a5 : adv t n g 5 = g 5 := adv_g (by omega)
    obtain ⟨σ2, f2, k2, F2, G2, q2⟩ := o_139 (nm := nm) hw ht G1 (vG_adv vg) (by rw [adv_g (by omega)]; exact h03) (by rw [a5]; exact h22 (by omega)) (by rw [a5]; exact nmR_8 hN (f8_G f1))
    refine ⟨σ2, fQ_tr (fQ_8 (f8_G f1)) f2, fun j hj => by rw [k2 j hj, f1.1 84 (by omega)], F2, fun z => ⟨(G2 z).1, by have := (G2 z).2; rw [a5] at this; rw [a5]; exact this⟩, fun hD => cI_of (m := 3) (fun d hd Q hQ => ?_) rfl hD⟩
    have hd1 : 1 ≤ d := by omega
    have hd2 : 2 ≤ d := by omega
    have hd3 : 3 ≤ d := by omega
    refine b140_0 ?_
    simp only [↓br_pos, ↓br_neg, ↓rF_I, ↓rF_L, ↓rF_R, ↓rF_N, rO_m, rB_m, ↓rI_m, wI_m, ↓rB2_m, ↓rB3_m, wB2_m, wB3_m, ↓rL_m, wL_m, ↓rQ_m, wQ_m, ↓lI_m, pI_m, pL_m, pR_m, sI_m, sBy_m, sBo_m, sL_m, sQ_m, fst_m, true_and, and_true, tg_some, ln_some, uI_1, uI_2, uL_1, uL_2, uL_3, uQ_1, uQ_2, uQ_3, rv_i, rv_l, rv_n, rv_b0, rv_b1, RMR, ne_eq, reduceCtorEq, not_false_eq_true, Option.getD_some, if_true, if_false, and_self, false_and, and_false, Nat.add_left_cancel_iff, Nat.add_eq_left, Nat.left_eq_add, Nat.one_ne_zero, Nat.reduceAdd, Nat.reduceLT, Nat.reduceLeDiff, Nat.reduceEqDiff, true_implies, false_implies, implies_true, Option.some.injEq, forall_eq', forall_eq, reduceCtorEq, brT, brF, br_s, i_10, i_01, ib_0_2, ib_1_2, tn_0, tn_1, Int32.le_refl, eq_self, rv_bN, rv_iM, RCM 81, RLY, lit_at hw, ix (by omega : c < 102) (by omega), dc, c1, q1 hd2, q2 hd3]
    exact ⟨by split <;> rfl, hQ⟩
theorem o_143 {w : mT} {σ : mS} {t : Nat → Nat} {n i A : Nat} {g : Rw} {y x low high : Int32} (hw : lit w) (ht : ∀ i, t i < 256) (hG : mG σ t n g) (hv : vG n g) (h0 : g 3 = 0) (hi : i < 13) (hA : A < 79) (hy : y = Int32.ofNat A) (hx : x = WC i) : ∃ σ', fQ σ σ' ∧ (toldF t n g i low high ≠ 0 → σ'.1 81 9 = Int32.ofNat (toldF t n g i low high)) ∧ (toldF t n g i low high = 0 → mG σ' t n (gTd t n g) ∧ σ'.1 84 = (uI σ 84 A (numV t (adv t n g))).1 84) ∧ ∀ {D : Nat} {K : Int32 → Hp → Prop}, 5 ≤ D → (wpI D 143 [.ref 81, .int y, .int x, .int low, .int high] (mW w σ) K ↔ K (if toldF t n g i low high = 0 then 1 else 0) (mW w σ')) := by
  subst hy
  obtain ⟨σ1, f1, F1, G1, q1⟩ := o_138 (low := low) (high := high) hw ht hG hv h0 hi hx
  by_cases z : toldF t n g i low high = 0
  · obtain ⟨K1, v1⟩ := G1 z
    refine ⟨uI σ1 84 A (numV t (adv t n g)), fQ_tr (fQ_8 f1) fQ_D, fun q => absurd z q, fun _ => ⟨mG_D K1, funext fun j => by rw [uI_1, uI_1, f1.1 84 (by omega)]⟩, fun hD => cI_of (m := 4) (fun d hd Q hQ => ?_) rfl hD⟩
    rw [if_pos z] at hQ
    refine b143_0 ?_
    simp only [↓br_pos, ↓br_neg, ↓rF_I, ↓rF_L, ↓rF_R, ↓rF_N, rO_m, rB_m, ↓rI_m, wI_m, ↓rB2_m, ↓rB3_m, wB2_m, wB3_m, ↓rL_m, wL_m, ↓rQ_m, wQ_m, ↓lI_m, pI_m, pL_m, pR_m, sI_m, sBy_m, sBo_m, sL_m, sQ_m, fst_m, true_and, and_true, tg_some, ln_some, uI_1, uI_2, uL_1, uL_2, uL_3, uQ_1, uQ_2, uQ_3, rv_i, rv_l, rv_n, rv_b0, rv_b1, RMR, ne_eq, reduceCtorEq, not_false_eq_true, Option.getD_some, if_true, if_false, and_self, false_and, and_false, Nat.add_left_cancel_iff, Nat.add_eq_left, Nat.left_eq_add, Nat.one_ne_zero, Nat.reduceAdd, Nat.reduceLT, Nat.reduceLeDiff, Nat.reduceEqDiff, true_implies, false_implies, implies_true, Option.some.injEq, forall_eq', forall_eq, reduceCtorEq, brT, brF, br_s, i_10, i_01, ib_0_2, ib_1_2, tn_0, tn_1, Int32.le_refl, eq_self, rv_bN, rv_iM, RCM 81, RLY, lit_at hw, q1 hd, z, v1, ix (by omega : A < 102) (by omega)]
    exact hQ
  · refine ⟨σ1, fQ_8 f1, F1, fun q => absurd q z, fun hD => cI_of (m := 4) (fun d hd Q hQ => ?_) rfl hD⟩
    rw [if_neg z] at hQ
    refine b143_0 ?_
    simp only [↓br_pos, ↓br_neg, ↓rF_I, ↓rF_L, ↓rF_R, ↓rF_N, rO_m, rB_m, ↓rI_m, wI_m, ↓rB2_m, ↓rB3_m, wB2_m, wB3_m, ↓rL_m, wL_m, ↓rQ_m, wQ_m, ↓lI_m, pI_m, pL_m, pR_m, sI_m, sBy_m, sBo_m, sL_m, sQ_m, fst_m, true_and, and_true, tg_some, ln_some, uI_1, uI_2, uL_1, uL_2, uL_3, uQ_1, uQ_2, uQ_3, rv_i, rv_l, rv_n, rv_b0, rv_b1, RMR, ne_eq, reduceCtorEq, not_false_eq_true, Option.getD_some, if_true, if_false, and_self, false_and, and_false, Nat.add_left_cancel_iff, Nat.add_eq_left, Nat.left_eq_add, Nat.one_ne_zero, Nat.reduceAdd, Nat.reduceLT, Nat.reduceLeDiff, Nat.reduceEqDiff, true_implies, false_implies, implies_true, Option.some.injEq, forall_eq', forall_eq, reduceCtorEq, brT, brF, br_s, i_10, i_01, ib_0_2, ib_1_2, tn_0, tn_1, Int32.le_refl, eq_self, rv_bN, rv_iM, RCM 81, RLY, lit_at hw, q1 hd, z]
    exact hQ
theorem tLot_e {τ : Rw} {a b : Nat} : tLot τ a b = rSet (rSet (rSet τ (4 + τ 0) a) (16 + τ 0) b) 0 (τ 0 + 1) := rfl
theorem o_141 {w : mT} {σ : mS} {t : Nat → Nat} {n : Nat} {g τ : Rw} {nm : Nat → Int32} (hw : lit w) (ht : ∀ i, t i < 256) (hS : rdS σ t n g nm τ) (hV : rV n g τ) : ∃ σ', fQ σ σ' ∧ ((rLot t n g nm τ).1 ≠ 0 → σ'.1 81 9 = Int32.ofNat (rLot t n g nm τ).1) ∧ ((rLot t n g nm τ).1 = 0 → rdS σ' t n (rLot t n g nm τ).2.1 (rLot t n g nm τ).2.2.1 (rLot t n g nm τ).2.2.2) ∧ ∀ {D : Nat} {K : Int32 → Hp → Prop}, 5 ≤ D → (wpI D 141 [.ref 81] (mW w σ) K ↔ K (if (rLot t n g nm τ).1 = 0 then 1 else 0) (mW w σ')) := by
  have hS' := hS
  have hV' := hV
  obtain ⟨hG, hDr, hN⟩ := hS
  obtain ⟨vg, h03, hv, h5⟩ := hV
  have v0 := hv.1
  have v1 := hv.2.1
  have v2 := hv.2.2.1
  have d0 := hDr 0 (by omega)
  obtain ⟨σ1, f1, k1, F1, G1, q1⟩ := o_140 (c := 0) (M := 12) (x := 0) (y := 12) hw ht hS' hV' (by omega) (by omega) (by omega) (fun _ => by omega) rfl rfl
  by_cases z1 : begF t n g nm τ 0 12 = 0
  case neg =>
    have eR : (rLot t n g nm τ) = (begF t n g nm τ 0 12, g, nm, τ) := by
      unfold rLot begF
      unfold begF at z1
      by_cases a : 12 ≤ τ 0
      · rw [if_pos a, if_pos a]
      · rw [if_neg a] at z1
        rw [if_neg a, if_neg a, if_pos z1]
    rw [eR]
    refine ⟨σ1, f1, F1, fun q => absurd q z1, fun hD => cI_of (m := 4) (fun d hd Q hQ => ?_) rfl hD⟩
    have hd1 : 1 ≤ d := by omega
    have hd2 : 2 ≤ d := by omega
    have hd3 : 3 ≤ d := by omega
    have hd4 : 4 ≤ d := by omega
    rw [if_neg z1] at hQ
    refine b141_0 ?_
    simp only [↓br_pos, ↓br_neg, ↓rF_I, ↓rF_L, ↓rF_R, ↓rF_N, rO_m, rB_m, ↓rI_m, wI_m, ↓rB2_m, ↓rB3_m, wB2_m, wB3_m, ↓rL_m, wL_m, ↓rQ_m, wQ_m, ↓lI_m, pI_m, pL_m, pR_m, sI_m, sBy_m, sBo_m, sL_m, sQ_m, fst_m, true_and, and_true, tg_some, ln_some, uI_1, uI_2, uL_1, uL_2, uL_3, uQ_1, uQ_2, uQ_3, rv_i, rv_l, rv_n, rv_b0, rv_b1, RMR, ne_eq, reduceCtorEq, not_false_eq_true, Option.getD_some, if_true, if_false, and_self, false_and, and_false, Nat.add_left_cancel_iff, Nat.add_eq_left, Nat.left_eq_add, Nat.one_ne_zero, Nat.reduceAdd, Nat.reduceLT, Nat.reduceLeDiff, Nat.reduceEqDiff, true_implies, false_implies, implies_true, Option.some.injEq, forall_eq', forall_eq, reduceCtorEq, brT, brF, br_s, i_10, i_01, ib_0_2, ib_1_2, tn_0, tn_1, Int32.le_refl, eq_self, rv_bN, rv_iM, RCM 81, RLY, lit_at hw, ix_0, ix_1, ix_2, ix_3, d0, q1 hd4, z1]
    exact hQ
  obtain ⟨K1, N1⟩ := G1 z1
  have a1 : ¬ 12 ≤ τ 0 := fun q => by unfold begF at z1; rw [if_pos q] at z1; omega
  have b1 : nameF t (adv t n g) nm = 0 := by unfold begF at z1; rw [if_neg a1] at z1; exact z1
  have D1 : mDr σ1 τ := mDr_c hDr k1
  have V1 : vG n (gNm t n (adv t n g)) := vG_nm (vG_adv vg)
  have Z1 : (gNm t n (adv t n g)) 3 = 0 := by rw [gNm_3, adv_g (by omega)]; exact h03
  obtain ⟨σ2, f2, F2, G2, q2⟩ := o_138 (x := 687290547) (i := 4) (low := 1) (high := 9999) hw ht K1 V1 Z1 (by omega) (by decide)
  by_cases z2 : toldF t n (gNm t n (adv t n g)) 4 1 9999 = 0
  case neg =>
    have eR : (rLot t n g nm τ) = (toldF t n (gNm t n (adv t n g)) 4 1 9999, g, nm, τ) := by
      unfold rLot
      rw [if_neg a1, if_neg (fun q => q b1), if_pos z2]
    rw [eR]
    refine ⟨σ2, fQ_tr f1 (fQ_8 f2), F2, fun q => absurd q z2, fun hD => cI_of (m := 4) (fun d hd Q hQ => ?_) rfl hD⟩
    have hd1 : 1 ≤ d := by omega
    have hd2 : 2 ≤ d := by omega
    have hd3 : 3 ≤ d := by omega
    have hd4 : 4 ≤ d := by omega
    rw [if_neg z2] at hQ
    refine b141_0 ?_
    simp only [↓br_pos, ↓br_neg, ↓rF_I, ↓rF_L, ↓rF_R, ↓rF_N, rO_m, rB_m, ↓rI_m, wI_m, ↓rB2_m, ↓rB3_m, wB2_m, wB3_m, ↓rL_m, wL_m, ↓rQ_m, wQ_m, ↓lI_m, pI_m, pL_m, pR_m, sI_m, sBy_m, sBo_m, sL_m, sQ_m, fst_m, true_and, and_true, tg_some, ln_some, uI_1, uI_2, uL_1, uL_2, uL_3, uQ_1, uQ_2, uQ_3, rv_i, rv_l, rv_n, rv_b0, rv_b1, RMR, ne_eq, reduceCtorEq, not_false_eq_true, Option.getD_some, if_true, if_false, and_self, false_and, and_false, Nat.add_left_cancel_iff, Nat.add_eq_left, Nat.left_eq_add, Nat.one_ne_zero, Nat.reduceAdd, Nat.reduceLT, Nat.reduceLeDiff, Nat.reduceEqDiff, true_implies, false_implies, implies_true, Option.some.injEq, forall_eq', forall_eq, reduceCtorEq, brT, brF, br_s, i_10, i_01, ib_0_2, ib_1_2, tn_0, tn_1, Int32.le_refl, eq_self, rv_bN, rv_iM, RCM 81, RLY, lit_at hw, ix_0, ix_1, ix_2, ix_3, d0, q1 hd4, z1, q2 hd4, z2]
    exact hQ
  obtain ⟨K2, v2'⟩ := G2 z2
  have w2 := told_v (lo := 1) (hi := 9999) rfl rfl (by omega) (by omega) z2
  have D2 : mDr (uI σ2 84 (4 + τ 0) (numV t (adv t n (gNm t n (adv t n g))))) (rSet τ (4 + τ 0) (nN t (adv t n (gNm t n (adv t n g))))) := mDr_S (mDr_8 D1 f2) w2.1
  have V2 : vG n (gTd t n (gNm t n (adv t n g))) := vG_td V1
  have Z2 : (gTd t n (gNm t n (adv t n g))) 3 = 0 := by rw [gTd_g (by omega)]; exact Z1
  obtain ⟨σ3, f3, F3, G3, q3⟩ := o_138 (x := 7931013) (i := 5) (low := 0) (high := 999) hw ht (mG_D (j := 4 + τ 0) (x := numV t (adv t n (gNm t n (adv t n g)))) K2) V2 Z2 (by omega) (by decide)
  by_cases z3 : toldF t n (gTd t n (gNm t n (adv t n g))) 5 0 999 = 0
  case neg =>
    have eR : (rLot t n g nm τ) = (toldF t n (gTd t n (gNm t n (adv t n g))) 5 0 999, g, nm, τ) := by
      unfold rLot
      rw [if_neg a1, if_neg (fun q => q b1), if_neg (fun q => q z2), if_pos z3]
    rw [eR]
    refine ⟨σ3, fQ_tr f1 (fQ_tr (fQ_8 f2) (fQ_tr fQ_D (fQ_8 f3))), F3, fun q => absurd q z3, fun hD => cI_of (m := 4) (fun d hd Q hQ => ?_) rfl hD⟩
    have hd1 : 1 ≤ d := by omega
    have hd2 : 2 ≤ d := by omega
    have hd3 : 3 ≤ d := by omega
    have hd4 : 4 ≤ d := by omega
    rw [if_neg z3] at hQ
    refine b141_0 ?_
    simp only [↓br_pos, ↓br_neg, ↓rF_I, ↓rF_L, ↓rF_R, ↓rF_N, rO_m, rB_m, ↓rI_m, wI_m, ↓rB2_m, ↓rB3_m, wB2_m, wB3_m, ↓rL_m, wL_m, ↓rQ_m, wQ_m, ↓lI_m, pI_m, pL_m, pR_m, sI_m, sBy_m, sBo_m, sL_m, sQ_m, fst_m, true_and, and_true, tg_some, ln_some, uI_1, uI_2, uL_1, uL_2, uL_3, uQ_1, uQ_2, uQ_3, rv_i, rv_l, rv_n, rv_b0, rv_b1, RMR, ne_eq, reduceCtorEq, not_false_eq_true, Option.getD_some, if_true, if_false, and_self, false_and, and_false, Nat.add_left_cancel_iff, Nat.add_eq_left, Nat.left_eq_add, Nat.one_ne_zero, Nat.reduceAdd, Nat.reduceLT, Nat.reduceLeDiff, Nat.reduceEqDiff, true_implies, false_implies, implies_true, Option.some.injEq, forall_eq', forall_eq, reduceCtorEq, brT, brF, br_s, i_10, i_01, ib_0_2, ib_1_2, tn_0, tn_1, Int32.le_refl, eq_self, rv_bN, rv_iM, RCM 81, RLY, lit_at hw, ix_0, ix_1, ix_2, ix_3, d0, q1 hd4, z1, q2 hd4, z2, v2', ad_4, ix (by omega : 4 + τ 0 < 102) (by omega), q3 hd4, z3]
    exact hQ
  obtain ⟨K3, v3'⟩ := G3 z3
  have w3 := told_v (lo := 0) (hi := 999) rfl rfl (by omega) (by omega) z3
  have D3 : mDr (uI σ3 84 (16 + τ 0) (numV t (adv t n (gTd t n (gNm t n (adv t n g)))))) (rSet (rSet τ (4 + τ 0) (nN t (adv t n (gNm t n (adv t n g))))) (16 + τ 0) (nN t (adv t n (gTd t n (gNm t n (adv t n g)))))) := mDr_S (mDr_8 D2 f3) w3.1
  have eR : (rLot t n g nm τ) = (0, (gTd t n (gTd t n (gNm t n (adv t n g)))), nmS nm (adv t n g 5) (cdN t (adv t n g)), tLot τ (nN t (adv t n (gNm t n (adv t n g)))) (nN t (adv t n (gTd t n (gNm t n (adv t n g)))))) := by
    unfold rLot
    rw [if_neg a1, if_neg (fun q => q b1), if_neg (fun q => q z2), if_neg (fun q => q z3)]
  rw [eR]
  have c0 : σ3.1 84 0 = Int32.ofNat (τ 0) := by
    have := (mDr_8 D2 f3) 0 (by omega)
    rw [rS_ne (by omega)] at this; exact this
  have n0 : (0 = 16 + τ 0) ↔ False := iff_false_intro (by omega)
  refine ⟨uI (uI σ3 84 (16 + τ 0) (numV t (adv t n (gTd t n (gNm t n (adv t n g)))))) 84 0 (Int32.ofNat (τ 0 + 1)), fQ_tr f1 (fQ_tr (fQ_8 f2) (fQ_tr fQ_D (fQ_tr (fQ_8 f3) (fQ_tr fQ_D fQ_D)))), fun q => absurd rfl q, fun _ => ⟨mG_D (mG_D K3), mDr_S D3 rfl, ?_⟩, fun hD => cI_of (m := 4) (fun d hd Q hQ => ?_) rfl hD⟩
  · show nmR _ t ((gTd t n (gTd t n (gNm t n (adv t n g)))) 5) _
    rw [show (gTd t n (gTd t n (gNm t n (adv t n g)))) 5 = g 5 + 1 by rw [gTd_g (by omega), gTd_g (by omega), gNm_5, adv_g (by omega)]]
    exact nmR_D (nmR_D (nmR_8 (nmR_D (nmR_8 N1 f2) (by omega)) f3) (by omega)) (by omega)
  · have hd1 : 1 ≤ d := by omega
    have hd2 : 2 ≤ d := by omega
    have hd3 : 3 ≤ d := by omega
    have hd4 : 4 ≤ d := by omega
    rw [if_pos rfl] at hQ
    refine b141_0 ?_
    simp only [↓br_pos, ↓br_neg, ↓rF_I, ↓rF_L, ↓rF_R, ↓rF_N, rO_m, rB_m, ↓rI_m, wI_m, ↓rB2_m, ↓rB3_m, wB2_m, wB3_m, ↓rL_m, wL_m, ↓rQ_m, wQ_m, ↓lI_m, pI_m, pL_m, pR_m, sI_m, sBy_m, sBo_m, sL_m, sQ_m, fst_m, true_and, and_true, tg_some, ln_some, uI_1, uI_2, uL_1, uL_2, uL_3, uQ_1, uQ_2, uQ_3, rv_i, rv_l, rv_n, rv_b0, rv_b1, RMR, ne_eq, reduceCtorEq, not_false_eq_true, Option.getD_some, if_true, if_false, and_self, false_and, and_false, Nat.add_left_cancel_iff, Nat.add_eq_left, Nat.left_eq_add, Nat.one_ne_zero, Nat.reduceAdd, Nat.reduceLT, Nat.reduceLeDiff, Nat.reduceEqDiff, true_implies, false_implies, implies_true, Option.some.injEq, forall_eq', forall_eq, reduceCtorEq, brT, brF, br_s, i_10, i_01, ib_0_2, ib_1_2, tn_0, tn_1, Int32.le_refl, eq_self, rv_bN, rv_iM, RCM 81, RLY, lit_at hw, ix_0, ix_1, ix_2, ix_3, d0, q1 hd4, z1, q2 hd4, z2, v2', ad_4, ix (by omega : 4 + τ 0 < 102) (by omega), q3 hd4, z3, v3', ad_16, ix (by omega : 16 + τ 0 < 102) (by omega), n0, c0, on_succ]
    exact hQ
theorem o_142 {w : mT} {σ : mS} {t : Nat → Nat} {n : Nat} {g τ : Rw} {nm : Nat → Int32} (hw : lit w) (ht : ∀ i, t i < 256) (hS : rdS σ t n g nm τ) (hV : rV n g τ) : ∃ σ', fQ σ σ' ∧ ((rPil t n g nm τ).1 ≠ 0 → σ'.1 81 9 = Int32.ofNat (rPil t n g nm τ).1) ∧ ((rPil t n g nm τ).1 = 0 → rdS σ' t n (rPil t n g nm τ).2.1 (rPil t n g nm τ).2.2.1 (rPil t n g nm τ).2.2.2) ∧ ∀ {D : Nat} {K : Int32 → Hp → Prop}, 5 ≤ D → (wpI D 142 [.ref 81] (mW w σ) K ↔ K (if (rPil t n g nm τ).1 = 0 then 1 else 0) (mW w σ')) := by
  have hS' := hS
  have hV' := hV
  obtain ⟨hG, hDr, hN⟩ := hS
  obtain ⟨vg, h03, hv, h5⟩ := hV
  have v0 := hv.1
  have v1 := hv.2.1
  have v2 := hv.2.2.1
  have d0 := hDr 1 (by omega)
  obtain ⟨σ1, f1, k1, F1, G1, q1⟩ := o_140 (c := 1) (M := 3) (x := 1) (y := 3) hw ht hS' hV' (by omega) (by omega) (by omega) (fun _ => by omega) rfl rfl
  by_cases z1 : begF t n g nm τ 1 3 = 0
  case neg =>
    have eR : (rPil t n g nm τ) = (begF t n g nm τ 1 3, g, nm, τ) := by
      unfold rPil begF
      unfold begF at z1
      by_cases a : 3 ≤ τ 1
      · rw [if_pos a, if_pos a]
      · rw [if_neg a] at z1
        rw [if_neg a, if_neg a, if_pos z1]
    rw [eR]
    refine ⟨σ1, f1, F1, fun q => absurd q z1, fun hD => cI_of (m := 4) (fun d hd Q hQ => ?_) rfl hD⟩
    have hd1 : 1 ≤ d := by omega
    have hd2 : 2 ≤ d := by omega
    have hd3 : 3 ≤ d := by omega
    have hd4 : 4 ≤ d := by omega
    rw [if_neg z1] at hQ
    refine b142_0 ?_
    simp only [↓br_pos, ↓br_neg, ↓rF_I, ↓rF_L, ↓rF_R, ↓rF_N, rO_m, rB_m, ↓rI_m, wI_m, ↓rB2_m, ↓rB3_m, wB2_m, wB3_m, ↓rL_m, wL_m, ↓rQ_m, wQ_m, ↓lI_m, pI_m, pL_m, pR_m, sI_m, sBy_m, sBo_m, sL_m, sQ_m, fst_m, true_and, and_true, tg_some, ln_some, uI_1, uI_2, uL_1, uL_2, uL_3, uQ_1, uQ_2, uQ_3, rv_i, rv_l, rv_n, rv_b0, rv_b1, RMR, ne_eq, reduceCtorEq, not_false_eq_true, Option.getD_some, if_true, if_false, and_self, false_and, and_false, Nat.add_left_cancel_iff, Nat.add_eq_left, Nat.left_eq_add, Nat.one_ne_zero, Nat.reduceAdd, Nat.reduceLT, Nat.reduceLeDiff, Nat.reduceEqDiff, true_implies, false_implies, implies_true, Option.some.injEq, forall_eq', forall_eq, reduceCtorEq, brT, brF, br_s, i_10, i_01, ib_0_2, ib_1_2, tn_0, tn_1, Int32.le_refl, eq_self, rv_bN, rv_iM, RCM 81, RLY, lit_at hw, ix_0, ix_1, ix_2, ix_3, d0, q1 hd4, z1]
    exact hQ
  obtain ⟨K1, N1⟩ := G1 z1
  have a1 : ¬ 3 ≤ τ 1 := fun q => by unfold begF at z1; rw [if_pos q] at z1; omega
  have b1 : nameF t (adv t n g) nm = 0 := by unfold begF at z1; rw [if_neg a1] at z1; exact z1
  have D1 : mDr σ1 τ := mDr_c hDr k1
  have V1 : vG n (gNm t n (adv t n g)) := vG_nm (vG_adv vg)
  have Z1 : (gNm t n (adv t n g)) 3 = 0 := by rw [gNm_3, adv_g (by omega)]; exact h03
  obtain ⟨σ2, f2, F2, G2, q2⟩ := o_138 (x := 3322259) (i := 6) (low := 2) (high := 12) hw ht K1 V1 Z1 (by omega) (by decide)
  by_cases z2 : toldF t n (gNm t n (adv t n g)) 6 2 12 = 0
  case neg =>
    have eR : (rPil t n g nm τ) = (toldF t n (gNm t n (adv t n g)) 6 2 12, g, nm, τ) := by
      unfold rPil
      rw [if_neg a1, if_neg (fun q => q b1), if_pos z2]
    rw [eR]
    refine ⟨σ2, fQ_tr f1 (fQ_8 f2), F2, fun q => absurd q z2, fun hD => cI_of (m := 4) (fun d hd Q hQ => ?_) rfl hD⟩
    have hd1 : 1 ≤ d := by omega
    have hd2 : 2 ≤ d := by omega
    have hd3 : 3 ≤ d := by omega
    have hd4 : 4 ≤ d := by omega
    rw [if_neg z2] at hQ
    refine b142_0 ?_
    simp only [↓br_pos, ↓br_neg, ↓rF_I, ↓rF_L, ↓rF_R, ↓rF_N, rO_m, rB_m, ↓rI_m, wI_m, ↓rB2_m, ↓rB3_m, wB2_m, wB3_m, ↓rL_m, wL_m, ↓rQ_m, wQ_m, ↓lI_m, pI_m, pL_m, pR_m, sI_m, sBy_m, sBo_m, sL_m, sQ_m, fst_m, true_and, and_true, tg_some, ln_some, uI_1, uI_2, uL_1, uL_2, uL_3, uQ_1, uQ_2, uQ_3, rv_i, rv_l, rv_n, rv_b0, rv_b1, RMR, ne_eq, reduceCtorEq, not_false_eq_true, Option.getD_some, if_true, if_false, and_self, false_and, and_false, Nat.add_left_cancel_iff, Nat.add_eq_left, Nat.left_eq_add, Nat.one_ne_zero, Nat.reduceAdd, Nat.reduceLT, Nat.reduceLeDiff, Nat.reduceEqDiff, true_implies, false_implies, implies_true, Option.some.injEq, forall_eq', forall_eq, reduceCtorEq, brT, brF, br_s, i_10, i_01, ib_0_2, ib_1_2, tn_0, tn_1, Int32.le_refl, eq_self, rv_bN, rv_iM, RCM 81, RLY, lit_at hw, ix_0, ix_1, ix_2, ix_3, d0, q1 hd4, z1, q2 hd4, z2]
    exact hQ
  obtain ⟨K2, v2'⟩ := G2 z2
  have w2 := told_v (lo := 2) (hi := 12) rfl rfl (by omega) (by omega) z2
  have D2 : mDr (uI σ2 84 (28 + τ 1) (numV t (adv t n (gNm t n (adv t n g))))) (rSet τ (28 + τ 1) (nN t (adv t n (gNm t n (adv t n g))))) := mDr_S (mDr_8 D1 f2) w2.1
  have eR : (rPil t n g nm τ) = (0, (gTd t n (gNm t n (adv t n g))), nmS nm (adv t n g 5) (cdN t (adv t n g)), tPil τ (nN t (adv t n (gNm t n (adv t n g))))) := by
    unfold rPil
    rw [if_neg a1, if_neg (fun q => q b1), if_neg (fun q => q z2)]
  rw [eR]
  have c0 : σ2.1 84 1 = Int32.ofNat (τ 1) := (mDr_8 D1 f2) 1 (by omega)
  have n0 : (1 = 28 + τ 1) ↔ False := iff_false_intro (by omega)
  refine ⟨uI (uI σ2 84 (28 + τ 1) (numV t (adv t n (gNm t n (adv t n g))))) 84 1 (Int32.ofNat (τ 1 + 1)), fQ_tr f1 (fQ_tr (fQ_8 f2) (fQ_tr fQ_D fQ_D)), fun q => absurd rfl q, fun _ => ⟨mG_D (mG_D K2), mDr_S D2 rfl, ?_⟩, fun hD => cI_of (m := 4) (fun d hd Q hQ => ?_) rfl hD⟩
  · show nmR _ t ((gTd t n (gNm t n (adv t n g))) 5) _
    rw [show (gTd t n (gNm t n (adv t n g))) 5 = g 5 + 1 by rw [gTd_g (by omega), gNm_5, adv_g (by omega)]]
    exact nmR_D (nmR_D (nmR_8 N1 f2) (by omega)) (by omega)
  · have hd1 : 1 ≤ d := by omega
    have hd2 : 2 ≤ d := by omega
    have hd3 : 3 ≤ d := by omega
    have hd4 : 4 ≤ d := by omega
    rw [if_pos rfl] at hQ
    refine b142_0 ?_
    simp only [↓br_pos, ↓br_neg, ↓rF_I, ↓rF_L, ↓rF_R, ↓rF_N, rO_m, rB_m, ↓rI_m, wI_m, ↓rB2_m, ↓rB3_m, wB2_m, wB3_m, ↓rL_m, wL_m, ↓rQ_m, wQ_m, ↓lI_m, pI_m, pL_m, pR_m, sI_m, sBy_m, sBo_m, sL_m, sQ_m, fst_m, true_and, and_true, tg_some, ln_some, uI_1, uI_2, uL_1, uL_2, uL_3, uQ_1, uQ_2, uQ_3, rv_i, rv_l, rv_n, rv_b0, rv_b1, RMR, ne_eq, reduceCtorEq, not_false_eq_true, Option.getD_some, if_true, if_false, and_self, false_and, and_false, Nat.add_left_cancel_iff, Nat.add_eq_left, Nat.left_eq_add, Nat.one_ne_zero, Nat.reduceAdd, Nat.reduceLT, Nat.reduceLeDiff, Nat.reduceEqDiff, true_implies, false_implies, implies_true, Option.some.injEq, forall_eq', forall_eq, reduceCtorEq, brT, brF, br_s, i_10, i_01, ib_0_2, ib_1_2, tn_0, tn_1, Int32.le_refl, eq_self, rv_bN, rv_iM, RCM 81, RLY, lit_at hw, ix_0, ix_1, ix_2, ix_3, d0, q1 hd4, z1, q2 hd4, z2, v2', ad_28, ix (by omega : 28 + τ 1 < 102) (by omega), n0, c0, on_succ]
    exact hQ
theorem dr_143 {σ σ' : mS} {τ : Rw} {A a : Nat} {x : Int32} (e : σ'.1 84 = (uI σ 84 A x).1 84) (h : mDr σ τ) (hx : x = Int32.ofNat a) : mDr σ' (rSet τ A a) := mDr_c (mDr_S h hx) (fun j _ => by rw [e])
theorem nm_143 {σ σ' : mS} {t : Nat → Nat} {k A : Nat} {nm : Nat → Int32} {x : Int32} (e : σ'.1 84 = (uI σ 84 A x).1 84) (h : nmR σ t k nm) (hA : A < 79) : nmR σ' t k nm := nmR_c (nmR_D (x := x) h hA) (fun j _ => by rw [e])
theorem at_143 {σ σ' : mS} {A : Nat} {x : Int32} (e : σ'.1 84 = (uI σ 84 A x).1 84) : σ'.1 84 A = x := by rw [e, uI_1, if_pos ⟨rfl, rfl⟩]
theorem sx_0 {a : Nat} : ((31 : Int32) + (6 : Int32) * Int32.ofNat a) + (0 : Int32) = Int32.ofNat (31 + 6 * a) := by
  rw [show (6 : Int32) = Int32.ofNat 6 from rfl, of_mul, show (31 : Int32) = Int32.ofNat 31 from rfl, of_add, show (0 : Int32) = Int32.ofNat 0 from rfl, of_add, Nat.add_zero]
theorem sx_1 {a : Nat} : ((31 : Int32) + (6 : Int32) * Int32.ofNat a) + (1 : Int32) = Int32.ofNat (31 + 6 * a + 1) := by
  rw [show (6 : Int32) = Int32.ofNat 6 from rfl, of_mul, show (31 : Int32) = Int32.ofNat 31 from rfl, of_add, show (1 : Int32) = Int32.ofNat 1 from rfl, of_add]
theorem sx_2 {a : Nat} : ((31 : Int32) + (6 : Int32) * Int32.ofNat a) + (2 : Int32) = Int32.ofNat (31 + 6 * a + 2) := by
  rw [show (6 : Int32) = Int32.ofNat 6 from rfl, of_mul, show (31 : Int32) = Int32.ofNat 31 from rfl, of_add, show (2 : Int32) = Int32.ofNat 2 from rfl, of_add]
theorem sx_3 {a : Nat} : ((31 : Int32) + (6 : Int32) * Int32.ofNat a) + (3 : Int32) = Int32.ofNat (31 + 6 * a + 3) := by
  rw [show (6 : Int32) = Int32.ofNat 6 from rfl, of_mul, show (31 : Int32) = Int32.ofNat 31 from rfl, of_add, show (3 : Int32) = Int32.ofNat 3 from rfl, of_add]
theorem sx_4 {a : Nat} : ((31 : Int32) + (6 : Int32) * Int32.ofNat a) + (4 : Int32) = Int32.ofNat (31 + 6 * a + 4) := by
  rw [show (6 : Int32) = Int32.ofNat 6 from rfl, of_mul, show (31 : Int32) = Int32.ofNat 31 from rfl, of_add, show (4 : Int32) = Int32.ofNat 4 from rfl, of_add]
theorem sx_5 {a : Nat} : ((31 : Int32) + (6 : Int32) * Int32.ofNat a) + (5 : Int32) = Int32.ofNat (31 + 6 * a + 5) := by
  rw [show (6 : Int32) = Int32.ofNat 6 from rfl, of_mul, show (31 : Int32) = Int32.ofNat 31 from rfl, of_add, show (5 : Int32) = Int32.ofNat 5 from rfl, of_add]
theorem o_144 {w : mT} {σ : mS} {t : Nat → Nat} {n : Nat} {g τ : Rw} {nm : Nat → Int32} (hw : lit w) (ht : ∀ i, t i < 256) (hS : rdS σ t n g nm τ) (hV : rV n g τ) : ∃ σ', fQ σ σ' ∧ ((rShp t n g nm τ).1 ≠ 0 → σ'.1 81 9 = Int32.ofNat (rShp t n g nm τ).1) ∧ ((rShp t n g nm τ).1 = 0 → rdS σ' t n (rShp t n g nm τ).2.1 (rShp t n g nm τ).2.2.1 (rShp t n g nm τ).2.2.2) ∧ ∀ {D : Nat} {K : Int32 → Hp → Prop}, 6 ≤ D → (wpI D 144 [.ref 81] (mW w σ) K ↔ K (if (rShp t n g nm τ).1 = 0 then 1 else 0) (mW w σ')) := by
  have hS' := hS
  have hV' := hV
  obtain ⟨hG, hDr, hN⟩ := hS
  obtain ⟨vg, h03, hv, h5⟩ := hV
  have v0 := hv.1
  have v1 := hv.2.1
  have v2 := hv.2.2.1
  have d0 := hDr 2 (by omega)
  obtain ⟨σ1, f1, k1, F1, G1, q1⟩ := o_140 (c := 2) (M := 8) (x := 2) (y := 8) hw ht hS' hV' (by omega) (by omega) (by omega) (fun _ => by omega) rfl rfl
  by_cases z1 : begF t n g nm τ 2 8 = 0
  case neg =>
    have eR : (rShp t n g nm τ) = (begF t n g nm τ 2 8, g, nm, τ) := by
      unfold rShp begF
      unfold begF at z1
      by_cases a : 8 ≤ τ 2
      · rw [if_pos a, if_pos a]
      · rw [if_neg a] at z1
        rw [if_neg a, if_neg a, if_pos z1]
    rw [eR]
    refine ⟨σ1, f1, F1, fun q => absurd q z1, fun hD => cI_of (m := 5) (fun d hd Q hQ => ?_) rfl hD⟩
    have hd1 : 1 ≤ d := by omega
    have hd2 : 2 ≤ d := by omega
    have hd3 : 3 ≤ d := by omega
    have hd4 : 4 ≤ d := by omega
    have hd5 : 5 ≤ d := by omega
    rw [if_neg z1] at hQ
    refine b144_0 ?_
    simp only [↓br_pos, ↓br_neg, ↓rF_I, ↓rF_L, ↓rF_R, ↓rF_N, rO_m, rB_m, ↓rI_m, wI_m, ↓rB2_m, ↓rB3_m, wB2_m, wB3_m, ↓rL_m, wL_m, ↓rQ_m, wQ_m, ↓lI_m, pI_m, pL_m, pR_m, sI_m, sBy_m, sBo_m, sL_m, sQ_m, fst_m, true_and, and_true, tg_some, ln_some, uI_1, uI_2, uL_1, uL_2, uL_3, uQ_1, uQ_2, uQ_3, rv_i, rv_l, rv_n, rv_b0, rv_b1, RMR, ne_eq, reduceCtorEq, not_false_eq_true, Option.getD_some, if_true, if_false, and_self, false_and, and_false, Nat.add_left_cancel_iff, Nat.add_eq_left, Nat.left_eq_add, Nat.one_ne_zero, Nat.reduceAdd, Nat.reduceLT, Nat.reduceLeDiff, Nat.reduceEqDiff, true_implies, false_implies, implies_true, Option.some.injEq, forall_eq', forall_eq, reduceCtorEq, brT, brF, br_s, i_10, i_01, ib_0_2, ib_1_2, tn_0, tn_1, Int32.le_refl, eq_self, rv_bN, rv_iM, RCM 81, RLY, lit_at hw, ix_0, ix_1, ix_2, ix_3, d0, q1 hd4, z1]
    exact hQ
  obtain ⟨K1, N1⟩ := G1 z1
  have a1 : ¬ 8 ≤ τ 2 := fun q => by unfold begF at z1; rw [if_pos q] at z1; omega
  have b1 : nameF t (adv t n g) nm = 0 := by unfold begF at z1; rw [if_neg a1] at z1; exact z1
  have D1 : mDr σ1 τ := mDr_c hDr k1
  have V1 : vG n (gNm t n (adv t n g)) := vG_nm (vG_adv vg)
  have Z1 : (gNm t n (adv t n g)) 3 = 0 := by rw [gNm_3, adv_g (by omega)]; exact h03
  obtain ⟨σ2, f2, F2, G2, q2⟩ := o_143 (A := 31 + 6 * τ 2) (y := Int32.ofNat (31 + 6 * τ 2)) (x := 14849171) (i := 7) (low := 1) (high := 999) hw ht K1 V1 Z1 (by omega) (by omega) rfl (by decide)
  by_cases z2 : toldF t n (gNm t n (adv t n g)) 7 1 999 = 0
  case neg =>
    have eR : (rShp t n g nm τ) = (toldF t n (gNm t n (adv t n g)) 7 1 999, g, nm, τ) := by
      unfold rShp
      rw [if_neg a1, if_neg (fun q => q b1), if_pos z2]
    rw [eR]
    refine ⟨σ2, (fQ_tr f1 f2), F2, fun q => absurd q z2, fun hD => cI_of (m := 5) (fun d hd Q hQ => ?_) rfl hD⟩
    have hd1 : 1 ≤ d := by omega
    have hd2 : 2 ≤ d := by omega
    have hd3 : 3 ≤ d := by omega
    have hd4 : 4 ≤ d := by omega
    have hd5 : 5 ≤ d := by omega
    rw [if_neg z2] at hQ
    refine b144_0 ?_
    simp only [↓br_pos, ↓br_neg, ↓rF_I, ↓rF_L, ↓rF_R, ↓rF_N, rO_m, rB_m, ↓rI_m, wI_m, ↓rB2_m, ↓rB3_m, wB2_m, wB3_m, ↓rL_m, wL_m, ↓rQ_m, wQ_m, ↓lI_m, pI_m, pL_m, pR_m, sI_m, sBy_m, sBo_m, sL_m, sQ_m, fst_m, true_and, and_true, tg_some, ln_some, uI_1, uI_2, uL_1, uL_2, uL_3, uQ_1, uQ_2, uQ_3, rv_i, rv_l, rv_n, rv_b0, rv_b1, RMR, ne_eq, reduceCtorEq, not_false_eq_true, Option.getD_some, if_true, if_false, and_self, false_and, and_false, Nat.add_left_cancel_iff, Nat.add_eq_left, Nat.left_eq_add, Nat.one_ne_zero, Nat.reduceAdd, Nat.reduceLT, Nat.reduceLeDiff, Nat.reduceEqDiff, true_implies, false_implies, implies_true, Option.some.injEq, forall_eq', forall_eq, reduceCtorEq, brT, brF, br_s, i_10, i_01, ib_0_2, ib_1_2, tn_0, tn_1, Int32.le_refl, eq_self, rv_bN, rv_iM, RCM 81, RLY, lit_at hw, sx_0, sx_1, sx_2, sx_3, sx_4, sx_5, ix_2, d0, q1 hd4, z1, q2 hd5, z2]
    exact hQ
  obtain ⟨K2, e2⟩ := G2 z2
  have w2 := told_v (lo := 1) (hi := 999) rfl rfl (by omega) (by omega) z2
  have D2 := dr_143 e2 D1 w2.1
  have N2 := nm_143 e2 N1 (by omega)
  have V2 : vG n (gTd t n (gNm t n (adv t n g))) := vG_td V1
  have Z2 : (gTd t n (gNm t n (adv t n g))) 3 = 0 := by rw [gTd_g (by omega)]; exact Z1
  obtain ⟨σ3, f3, F3, G3, q3⟩ := o_143 (A := 31 + 6 * τ 2 + 1) (y := Int32.ofNat (31 + 6 * τ 2 + 1)) (x := 12791) (i := 8) (low := 0) (high := 999) hw ht K2 V2 Z2 (by omega) (by omega) rfl (by decide)
  by_cases z3 : toldF t n (gTd t n (gNm t n (adv t n g))) 8 0 999 = 0
  case neg =>
    have eR : (rShp t n g nm τ) = (toldF t n (gTd t n (gNm t n (adv t n g))) 8 0 999, g, nm, τ) := by
      unfold rShp
      rw [if_neg a1, if_neg (fun q => q b1), if_neg (fun q => q z2), if_pos z3]
    rw [eR]
    refine ⟨σ3, (fQ_tr (fQ_tr f1 f2) f3), F3, fun q => absurd q z3, fun hD => cI_of (m := 5) (fun d hd Q hQ => ?_) rfl hD⟩
    have hd1 : 1 ≤ d := by omega
    have hd2 : 2 ≤ d := by omega
    have hd3 : 3 ≤ d := by omega
    have hd4 : 4 ≤ d := by omega
    have hd5 : 5 ≤ d := by omega
    rw [if_neg z3] at hQ
    refine b144_0 ?_
    simp only [↓br_pos, ↓br_neg, ↓rF_I, ↓rF_L, ↓rF_R, ↓rF_N, rO_m, rB_m, ↓rI_m, wI_m, ↓rB2_m, ↓rB3_m, wB2_m, wB3_m, ↓rL_m, wL_m, ↓rQ_m, wQ_m, ↓lI_m, pI_m, pL_m, pR_m, sI_m, sBy_m, sBo_m, sL_m, sQ_m, fst_m, true_and, and_true, tg_some, ln_some, uI_1, uI_2, uL_1, uL_2, uL_3, uQ_1, uQ_2, uQ_3, rv_i, rv_l, rv_n, rv_b0, rv_b1, RMR, ne_eq, reduceCtorEq, not_false_eq_true, Option.getD_some, if_true, if_false, and_self, false_and, and_false, Nat.add_left_cancel_iff, Nat.add_eq_left, Nat.left_eq_add, Nat.one_ne_zero, Nat.reduceAdd, Nat.reduceLT, Nat.reduceLeDiff, Nat.reduceEqDiff, true_implies, false_implies, implies_true, Option.some.injEq, forall_eq', forall_eq, reduceCtorEq, brT, brF, br_s, i_10, i_01, ib_0_2, ib_1_2, tn_0, tn_1, Int32.le_refl, eq_self, rv_bN, rv_iM, RCM 81, RLY, lit_at hw, sx_0, sx_1, sx_2, sx_3, sx_4, sx_5, ix_2, d0, q1 hd4, z1, q2 hd5, z2, q3 hd5, z3]
    exact hQ
  obtain ⟨K3, e3⟩ := G3 z3
  have w3 := told_v (lo := 0) (hi := 999) rfl rfl (by omega) (by omega) z3
  have D3 := dr_143 e3 D2 w3.1
  have N3 := nm_143 e3 N2 (by omega)
  have V3 : vG n (gTd t n (gTd t n (gNm t n (adv t n g)))) := vG_td V2
  have Z3 : (gTd t n (gTd t n (gNm t n (adv t n g)))) 3 = 0 := by rw [gTd_g (by omega)]; exact Z2
  have c3 : σ3.1 84 (31 + 6 * τ 2 + 1) = (numV t (adv t n (gTd t n (gNm t n (adv t n g))))) := at_143 e3
  obtain ⟨σ4, f4, F4, G4, q4⟩ := o_143 (A := 31 + 6 * τ 2 + 2) (y := Int32.ofNat (31 + 6 * τ 2 + 2)) (x := 271592) (i := 9) (low := (numV t (adv t n (gTd t n (gNm t n (adv t n g)))))) (high := 999) hw ht K3 V3 Z3 (by omega) (by omega) rfl (by decide)
  by_cases z4 : toldF t n (gTd t n (gTd t n (gNm t n (adv t n g)))) 9 (numV t (adv t n (gTd t n (gNm t n (adv t n g))))) 999 = 0
  case neg =>
    have eR : (rShp t n g nm τ) = (toldF t n (gTd t n (gTd t n (gNm t n (adv t n g)))) 9 (numV t (adv t n (gTd t n (gNm t n (adv t n g))))) 999, g, nm, τ) := by
      unfold rShp
      rw [if_neg a1, if_neg (fun q => q b1), if_neg (fun q => q z2), if_neg (fun q => q z3), if_pos z4]
    rw [eR]
    refine ⟨σ4, (fQ_tr (fQ_tr (fQ_tr f1 f2) f3) f4), F4, fun q => absurd q z4, fun hD => cI_of (m := 5) (fun d hd Q hQ => ?_) rfl hD⟩
    have hd1 : 1 ≤ d := by omega
    have hd2 : 2 ≤ d := by omega
    have hd3 : 3 ≤ d := by omega
    have hd4 : 4 ≤ d := by omega
    have hd5 : 5 ≤ d := by omega
    rw [if_neg z4] at hQ
    refine b144_0 ?_
    simp only [↓br_pos, ↓br_neg, ↓rF_I, ↓rF_L, ↓rF_R, ↓rF_N, rO_m, rB_m, ↓rI_m, wI_m, ↓rB2_m, ↓rB3_m, wB2_m, wB3_m, ↓rL_m, wL_m, ↓rQ_m, wQ_m, ↓lI_m, pI_m, pL_m, pR_m, sI_m, sBy_m, sBo_m, sL_m, sQ_m, fst_m, true_and, and_true, tg_some, ln_some, uI_1, uI_2, uL_1, uL_2, uL_3, uQ_1, uQ_2, uQ_3, rv_i, rv_l, rv_n, rv_b0, rv_b1, RMR, ne_eq, reduceCtorEq, not_false_eq_true, Option.getD_some, if_true, if_false, and_self, false_and, and_false, Nat.add_left_cancel_iff, Nat.add_eq_left, Nat.left_eq_add, Nat.one_ne_zero, Nat.reduceAdd, Nat.reduceLT, Nat.reduceLeDiff, Nat.reduceEqDiff, true_implies, false_implies, implies_true, Option.some.injEq, forall_eq', forall_eq, reduceCtorEq, brT, brF, br_s, i_10, i_01, ib_0_2, ib_1_2, tn_0, tn_1, Int32.le_refl, eq_self, rv_bN, rv_iM, RCM 81, RLY, lit_at hw, sx_0, sx_1, sx_2, sx_3, sx_4, sx_5, ix_2, d0, q1 hd4, z1, q2 hd5, z2, q3 hd5, z3, ix (by omega : 31 + 6 * τ 2 + 1 < 102) (by omega), c3, q4 hd5, z4]
    exact hQ
  obtain ⟨K4, e4⟩ := G4 z4
  have w4 := told_v (lo := (nN t (adv t n (gTd t n (gNm t n (adv t n g)))))) (hi := 999) w3.1 rfl (by omega) (by omega) z4
  have D4 := dr_143 e4 D3 w4.1
  have N4 := nm_143 e4 N3 (by omega)
  have V4 : vG n (gTd t n (gTd t n (gTd t n (gNm t n (adv t n g))))) := vG_td V3
  have Z4 : (gTd t n (gTd t n (gTd t n (gNm t n (adv t n g))))) 3 = 0 := by rw [gTd_g (by omega)]; exact Z3
  obtain ⟨σ5, f5, F5, G5, q5⟩ := o_143 (A := 31 + 6 * τ 2 + 3) (y := Int32.ofNat (31 + 6 * τ 2 + 3)) (x := 4773) (i := 10) (low := 1) (high := 99) hw ht K4 V4 Z4 (by omega) (by omega) rfl (by decide)
  by_cases z5 : toldF t n (gTd t n (gTd t n (gTd t n (gNm t n (adv t n g))))) 10 1 99 = 0
  case neg =>
    have eR : (rShp t n g nm τ) = (toldF t n (gTd t n (gTd t n (gTd t n (gNm t n (adv t n g))))) 10 1 99, g, nm, τ) := by
      unfold rShp
      rw [if_neg a1, if_neg (fun q => q b1), if_neg (fun q => q z2), if_neg (fun q => q z3), if_neg (fun q => q z4), if_pos z5]
    rw [eR]
    refine ⟨σ5, (fQ_tr (fQ_tr (fQ_tr (fQ_tr f1 f2) f3) f4) f5), F5, fun q => absurd q z5, fun hD => cI_of (m := 5) (fun d hd Q hQ => ?_) rfl hD⟩
    have hd1 : 1 ≤ d := by omega
    have hd2 : 2 ≤ d := by omega
    have hd3 : 3 ≤ d := by omega
    have hd4 : 4 ≤ d := by omega
    have hd5 : 5 ≤ d := by omega
    rw [if_neg z5] at hQ
    refine b144_0 ?_
    simp only [↓br_pos, ↓br_neg, ↓rF_I, ↓rF_L, ↓rF_R, ↓rF_N, rO_m, rB_m, ↓rI_m, wI_m, ↓rB2_m, ↓rB3_m, wB2_m, wB3_m, ↓rL_m, wL_m, ↓rQ_m, wQ_m, ↓lI_m, pI_m, pL_m, pR_m, sI_m, sBy_m, sBo_m, sL_m, sQ_m, fst_m, true_and, and_true, tg_some, ln_some, uI_1, uI_2, uL_1, uL_2, uL_3, uQ_1, uQ_2, uQ_3, rv_i, rv_l, rv_n, rv_b0, rv_b1, RMR, ne_eq, reduceCtorEq, not_false_eq_true, Option.getD_some, if_true, if_false, and_self, false_and, and_false, Nat.add_left_cancel_iff, Nat.add_eq_left, Nat.left_eq_add, Nat.one_ne_zero, Nat.reduceAdd, Nat.reduceLT, Nat.reduceLeDiff, Nat.reduceEqDiff, true_implies, false_implies, implies_true, Option.some.injEq, forall_eq', forall_eq, reduceCtorEq, brT, brF, br_s, i_10, i_01, ib_0_2, ib_1_2, tn_0, tn_1, Int32.le_refl, eq_self, rv_bN, rv_iM, RCM 81, RLY, lit_at hw, sx_0, sx_1, sx_2, sx_3, sx_4, sx_5, ix_2, d0, q1 hd4, z1, q2 hd5, z2, q3 hd5, z3, ix (by omega : 31 + 6 * τ 2 + 1 < 102) (by omega), c3, q4 hd5, z4, ix (by omega : 31 + 6 * τ 2 + 1 < 102) (by omega), c3, q5 hd5, z5]
    exact hQ
  obtain ⟨K5, e5⟩ := G5 z5
  have w5 := told_v (lo := 1) (hi := 99) rfl rfl (by omega) (by omega) z5
  have D5 := dr_143 e5 D4 w5.1
  have N5 := nm_143 e5 N4 (by omega)
  have V5 : vG n (gTd t n (gTd t n (gTd t n (gTd t n (gNm t n (adv t n g)))))) := vG_td V4
  have Z5 : (gTd t n (gTd t n (gTd t n (gTd t n (gNm t n (adv t n g)))))) 3 = 0 := by rw [gTd_g (by omega)]; exact Z4
  obtain ⟨σ6, f6, F6, G6, q6⟩ := o_143 (A := 31 + 6 * τ 2 + 4) (y := Int32.ofNat (31 + 6 * τ 2 + 4)) (x := 408612) (i := 11) (low := 1) (high := 20) hw ht K5 V5 Z5 (by omega) (by omega) rfl (by decide)
  by_cases z6 : toldF t n (gTd t n (gTd t n (gTd t n (gTd t n (gNm t n (adv t n g)))))) 11 1 20 = 0
  case neg =>
    have eR : (rShp t n g nm τ) = (toldF t n (gTd t n (gTd t n (gTd t n (gTd t n (gNm t n (adv t n g)))))) 11 1 20, g, nm, τ) := by
      unfold rShp
      rw [if_neg a1, if_neg (fun q => q b1), if_neg (fun q => q z2), if_neg (fun q => q z3), if_neg (fun q => q z4), if_neg (fun q => q z5), if_pos z6]
    rw [eR]
    refine ⟨σ6, (fQ_tr (fQ_tr (fQ_tr (fQ_tr (fQ_tr f1 f2) f3) f4) f5) f6), F6, fun q => absurd q z6, fun hD => cI_of (m := 5) (fun d hd Q hQ => ?_) rfl hD⟩
    have hd1 : 1 ≤ d := by omega
    have hd2 : 2 ≤ d := by omega
    have hd3 : 3 ≤ d := by omega
    have hd4 : 4 ≤ d := by omega
    have hd5 : 5 ≤ d := by omega
    rw [if_neg z6] at hQ
    refine b144_0 ?_
    simp only [↓br_pos, ↓br_neg, ↓rF_I, ↓rF_L, ↓rF_R, ↓rF_N, rO_m, rB_m, ↓rI_m, wI_m, ↓rB2_m, ↓rB3_m, wB2_m, wB3_m, ↓rL_m, wL_m, ↓rQ_m, wQ_m, ↓lI_m, pI_m, pL_m, pR_m, sI_m, sBy_m, sBo_m, sL_m, sQ_m, fst_m, true_and, and_true, tg_some, ln_some, uI_1, uI_2, uL_1, uL_2, uL_3, uQ_1, uQ_2, uQ_3, rv_i, rv_l, rv_n, rv_b0, rv_b1, RMR, ne_eq, reduceCtorEq, not_false_eq_true, Option.getD_some, if_true, if_false, and_self, false_and, and_false, Nat.add_left_cancel_iff, Nat.add_eq_left, Nat.left_eq_add, Nat.one_ne_zero, Nat.reduceAdd, Nat.reduceLT, Nat.reduceLeDiff, Nat.reduceEqDiff, true_implies, false_implies, implies_true, Option.some.injEq, forall_eq', forall_eq, reduceCtorEq, brT, brF, br_s, i_10, i_01, ib_0_2, ib_1_2, tn_0, tn_1, Int32.le_refl, eq_self, rv_bN, rv_iM, RCM 81, RLY, lit_at hw, sx_0, sx_1, sx_2, sx_3, sx_4, sx_5, ix_2, d0, q1 hd4, z1, q2 hd5, z2, q3 hd5, z3, ix (by omega : 31 + 6 * τ 2 + 1 < 102) (by omega), c3, q4 hd5, z4, ix (by omega : 31 + 6 * τ 2 + 1 < 102) (by omega), c3, q5 hd5, z5, ix (by omega : 31 + 6 * τ 2 + 1 < 102) (by omega), c3, q6 hd5, z6]
    exact hQ
  obtain ⟨K6, e6⟩ := G6 z6
  have w6 := told_v (lo := 1) (hi := 20) rfl rfl (by omega) (by omega) z6
  have D6 := dr_143 e6 D5 w6.1
  have N6 := nm_143 e6 N5 (by omega)
  have V6 : vG n (gTd t n (gTd t n (gTd t n (gTd t n (gTd t n (gNm t n (adv t n g))))))) := vG_td V5
  have Z6 : (gTd t n (gTd t n (gTd t n (gTd t n (gTd t n (gNm t n (adv t n g))))))) 3 = 0 := by rw [gTd_g (by omega)]; exact Z5
  have c6 : σ6.1 84 2 = Int32.ofNat (τ 2) := by
    have := D6 2 (by omega)
    rw [rS_ne (by omega), rS_ne (by omega), rS_ne (by omega), rS_ne (by omega), rS_ne (by omega)] at this; exact this
  have n2 : (2 = 31 + 6 * τ 2 + 5) ↔ False := iff_false_intro (by omega)
  have K7 : mG (uI σ6 84 (31 + 6 * τ 2 + 5) 0) t n (gTd t n (gTd t n (gTd t n (gTd t n (gTd t n (gNm t n (adv t n g))))))) := mG_D K6
  have e134 := fun {d : Nat} (hd : 1 ≤ d) {K : Int32 → Hp → Prop} => g_134 (K := K) (D := d) (x := 206277) (i := 12) hw K7 V6 (by omega) (by decide) hd
  have D7 := mDr_S (A := 31 + 6 * τ 2 + 5) (a := 0) (x := 0) D6 rfl
  have N7 := nmR_D (A := 31 + 6 * τ 2 + 5) (x := 0) N6 (by omega)
  by_cases y : sayP t (gTd t n (gTd t n (gTd t n (gTd t n (gTd t n (gNm t n (adv t n g))))))) 12
  case neg =>
    have eR : (rShp t n g nm τ) = (0, (gTd t n (gTd t n (gTd t n (gTd t n (gTd t n (gNm t n (adv t n g))))))), nmS nm (adv t n g 5) (cdN t (adv t n g)), tShp τ (nN t (adv t n (gNm t n (adv t n g)))) (nN t (adv t n (gTd t n (gNm t n (adv t n g))))) (nN t (adv t n (gTd t n (gTd t n (gNm t n (adv t n g)))))) (nN t (adv t n (gTd t n (gTd t n (gTd t n (gNm t n (adv t n g))))))) (nN t (adv t n (gTd t n (gTd t n (gTd t n (gTd t n (gNm t n (adv t n g)))))))) 0) := by
      unfold rShp
      rw [if_neg a1, if_neg (fun q => q b1), if_neg (fun q => q z2), if_neg (fun q => q z3), if_neg (fun q => q z4), if_neg (fun q => q z5), if_neg (fun q => q z6), if_pos y]
    rw [eR]
    refine ⟨uI (uI σ6 84 (31 + 6 * τ 2 + 5) 0) 84 2 (Int32.ofNat (τ 2 + 1)), fQ_tr (fQ_tr (fQ_tr (fQ_tr (fQ_tr (fQ_tr f1 f2) f3) f4) f5) f6) (fQ_tr fQ_D fQ_D), fun q => absurd rfl q, fun _ => ⟨mG_D K7, mDr_S D7 rfl, ?_⟩, fun hD => cI_of (m := 5) (fun d hd Q hQ => ?_) rfl hD⟩
    · show nmR _ t ((gTd t n (gTd t n (gTd t n (gTd t n (gTd t n (gNm t n (adv t n g))))))) 5) _
      rw [show (gTd t n (gTd t n (gTd t n (gTd t n (gTd t n (gNm t n (adv t n g))))))) 5 = g 5 + 1 by rw [gTd_g (by omega), gTd_g (by omega), gTd_g (by omega), gTd_g (by omega), gTd_g (by omega), gNm_5, adv_g (by omega)]]
      exact nmR_D N7 (by omega)
    · have hd1 : 1 ≤ d := by omega
      have hd2 : 2 ≤ d := by omega
      have hd3 : 3 ≤ d := by omega
      have hd4 : 4 ≤ d := by omega
      have hd5 : 5 ≤ d := by omega
      rw [if_pos rfl] at hQ
      refine b144_0 ?_
      simp only [↓br_pos, ↓br_neg, ↓rF_I, ↓rF_L, ↓rF_R, ↓rF_N, rO_m, rB_m, ↓rI_m, wI_m, ↓rB2_m, ↓rB3_m, wB2_m, wB3_m, ↓rL_m, wL_m, ↓rQ_m, wQ_m, ↓lI_m, pI_m, pL_m, pR_m, sI_m, sBy_m, sBo_m, sL_m, sQ_m, fst_m, true_and, and_true, tg_some, ln_some, uI_1, uI_2, uL_1, uL_2, uL_3, uQ_1, uQ_2, uQ_3, rv_i, rv_l, rv_n, rv_b0, rv_b1, RMR, ne_eq, reduceCtorEq, not_false_eq_true, Option.getD_some, if_true, if_false, and_self, false_and, and_false, Nat.add_left_cancel_iff, Nat.add_eq_left, Nat.left_eq_add, Nat.one_ne_zero, Nat.reduceAdd, Nat.reduceLT, Nat.reduceLeDiff, Nat.reduceEqDiff, true_implies, false_implies, implies_true, Option.some.injEq, forall_eq', forall_eq, reduceCtorEq, brT, brF, br_s, i_10, i_01, ib_0_2, ib_1_2, tn_0, tn_1, Int32.le_refl, eq_self, rv_bN, rv_iM, RCM 81, RLY, lit_at hw, sx_0, sx_1, sx_2, sx_3, sx_4, sx_5, ix_2, d0, q1 hd4, z1, q2 hd5, z2, q3 hd5, z3, ix (by omega : 31 + 6 * τ 2 + 1 < 102) (by omega), c3, q4 hd5, z4, ix (by omega : 31 + 6 * τ 2 + 1 < 102) (by omega), c3, q5 hd5, z5, ix (by omega : 31 + 6 * τ 2 + 1 < 102) (by omega), c3, q6 hd5, z6, ix (by omega : 31 + 6 * τ 2 + 5 < 102) (by omega), e134 hd1, iB_f y, n2, c6, on_succ]
      exact hQ
  obtain ⟨σ8, f8', F8, G8, q8⟩ := o_143 (A := 31 + 6 * τ 2 + 5) (y := Int32.ofNat (31 + 6 * τ 2 + 5)) (x := 206277) (i := 12) (low := 0) (high := 999) hw ht K7 V6 Z6 (by omega) (by omega) rfl (by decide)
  by_cases z8 : toldF t n (gTd t n (gTd t n (gTd t n (gTd t n (gTd t n (gNm t n (adv t n g))))))) 12 0 999 = 0
  case neg =>
    have eR : (rShp t n g nm τ) = (toldF t n (gTd t n (gTd t n (gTd t n (gTd t n (gTd t n (gNm t n (adv t n g))))))) 12 0 999, g, nm, τ) := by
      unfold rShp
      rw [if_neg a1, if_neg (fun q => q b1), if_neg (fun q => q z2), if_neg (fun q => q z3), if_neg (fun q => q z4), if_neg (fun q => q z5), if_neg (fun q => q z6), if_neg (fun q => q y), if_pos z8]
    rw [eR]
    refine ⟨σ8, fQ_tr (fQ_tr (fQ_tr (fQ_tr (fQ_tr (fQ_tr f1 f2) f3) f4) f5) f6) (fQ_tr fQ_D f8'), F8, fun q => absurd q z8, fun hD => cI_of (m := 5) (fun d hd Q hQ => ?_) rfl hD⟩
    have hd1 : 1 ≤ d := by omega
    have hd2 : 2 ≤ d := by omega
    have hd3 : 3 ≤ d := by omega
    have hd4 : 4 ≤ d := by omega
    have hd5 : 5 ≤ d := by omega
    rw [if_neg z8] at hQ
    refine b144_0 ?_
    simp only [↓br_pos, ↓br_neg, ↓rF_I, ↓rF_L, ↓rF_R, ↓rF_N, rO_m, rB_m, ↓rI_m, wI_m, ↓rB2_m, ↓rB3_m, wB2_m, wB3_m, ↓rL_m, wL_m, ↓rQ_m, wQ_m, ↓lI_m, pI_m, pL_m, pR_m, sI_m, sBy_m, sBo_m, sL_m, sQ_m, fst_m, true_and, and_true, tg_some, ln_some, uI_1, uI_2, uL_1, uL_2, uL_3, uQ_1, uQ_2, uQ_3, rv_i, rv_l, rv_n, rv_b0, rv_b1, RMR, ne_eq, reduceCtorEq, not_false_eq_true, Option.getD_some, if_true, if_false, and_self, false_and, and_false, Nat.add_left_cancel_iff, Nat.add_eq_left, Nat.left_eq_add, Nat.one_ne_zero, Nat.reduceAdd, Nat.reduceLT, Nat.reduceLeDiff, Nat.reduceEqDiff, true_implies, false_implies, implies_true, Option.some.injEq, forall_eq', forall_eq, reduceCtorEq, brT, brF, br_s, i_10, i_01, ib_0_2, ib_1_2, tn_0, tn_1, Int32.le_refl, eq_self, rv_bN, rv_iM, RCM 81, RLY, lit_at hw, sx_0, sx_1, sx_2, sx_3, sx_4, sx_5, ix_2, d0, q1 hd4, z1, q2 hd5, z2, q3 hd5, z3, ix (by omega : 31 + 6 * τ 2 + 1 < 102) (by omega), c3, q4 hd5, z4, ix (by omega : 31 + 6 * τ 2 + 1 < 102) (by omega), c3, q5 hd5, z5, ix (by omega : 31 + 6 * τ 2 + 1 < 102) (by omega), c3, q6 hd5, z6, ix (by omega : 31 + 6 * τ 2 + 5 < 102) (by omega), e134 hd1, iB_t y, z10, q8 hd5, z8]
    exact hQ
  obtain ⟨K8, e8⟩ := G8 z8
  have w8 := told_v (lo := 0) (hi := 999) rfl rfl (by omega) (by omega) z8
  have D8 := dr_143 e8 D7 w8.1
  have N8 := nm_143 e8 N7 (by omega)
  rw [rSet_2] at D8
  have eR : (rShp t n g nm τ) = (0, (gTd t n (gTd t n (gTd t n (gTd t n (gTd t n (gTd t n (gNm t n (adv t n g)))))))), nmS nm (adv t n g 5) (cdN t (adv t n g)), tShp τ (nN t (adv t n (gNm t n (adv t n g)))) (nN t (adv t n (gTd t n (gNm t n (adv t n g))))) (nN t (adv t n (gTd t n (gTd t n (gNm t n (adv t n g)))))) (nN t (adv t n (gTd t n (gTd t n (gTd t n (gNm t n (adv t n g))))))) (nN t (adv t n (gTd t n (gTd t n (gTd t n (gTd t n (gNm t n (adv t n g)))))))) (nN t (adv t n (gTd t n (gTd t n (gTd t n (gTd t n (gTd t n (gNm t n (adv t n g)))))))))) := by
    unfold rShp
    rw [if_neg a1, if_neg (fun q => q b1), if_neg (fun q => q z2), if_neg (fun q => q z3), if_neg (fun q => q z4), if_neg (fun q => q z5), if_neg (fun q => q z6), if_neg (fun q => q y), if_neg (fun q => q z8)]
  rw [eR]
  have c8 : σ8.1 84 2 = Int32.ofNat (τ 2) := by
    have := D8 2 (by omega)
    rw [rS_ne (by omega), rS_ne (by omega), rS_ne (by omega), rS_ne (by omega), rS_ne (by omega), rS_ne (by omega)] at this; exact this
  refine ⟨uI σ8 84 2 (Int32.ofNat (τ 2 + 1)), fQ_tr (fQ_tr (fQ_tr (fQ_tr (fQ_tr (fQ_tr f1 f2) f3) f4) f5) f6) (fQ_tr fQ_D (fQ_tr f8' fQ_D)), fun q => absurd rfl q, fun _ => ⟨mG_D K8, mDr_S D8 rfl, ?_⟩, fun hD => cI_of (m := 5) (fun d hd Q hQ => ?_) rfl hD⟩
  · show nmR _ t ((gTd t n (gTd t n (gTd t n (gTd t n (gTd t n (gTd t n (gNm t n (adv t n g)))))))) 5) _
    rw [show (gTd t n (gTd t n (gTd t n (gTd t n (gTd t n (gTd t n (gNm t n (adv t n g)))))))) 5 = g 5 + 1 by rw [gTd_g (by omega), gTd_g (by omega), gTd_g (by omega), gTd_g (by omega), gTd_g (by omega), gTd_g (by omega), gNm_5, adv_g (by omega)]]
    exact nmR_D N8 (by omega)
  · have hd1 : 1 ≤ d := by omega
    have hd2 : 2 ≤ d := by omega
    have hd3 : 3 ≤ d := by omega
    have hd4 : 4 ≤ d := by omega
    have hd5 : 5 ≤ d := by omega
    rw [if_pos rfl] at hQ
    refine b144_0 ?_
    simp only [↓br_pos, ↓br_neg, ↓rF_I, ↓rF_L, ↓rF_R, ↓rF_N, rO_m, rB_m, ↓rI_m, wI_m, ↓rB2_m, ↓rB3_m, wB2_m, wB3_m, ↓rL_m, wL_m, ↓rQ_m, wQ_m, ↓lI_m, pI_m, pL_m, pR_m, sI_m, sBy_m, sBo_m, sL_m, sQ_m, fst_m, true_and, and_true, tg_some, ln_some, uI_1, uI_2, uL_1, uL_2, uL_3, uQ_1, uQ_2, uQ_3, rv_i, rv_l, rv_n, rv_b0, rv_b1, RMR, ne_eq, reduceCtorEq, not_false_eq_true, Option.getD_some, if_true, if_false, and_self, false_and, and_false, Nat.add_left_cancel_iff, Nat.add_eq_left, Nat.left_eq_add, Nat.one_ne_zero, Nat.reduceAdd, Nat.reduceLT, Nat.reduceLeDiff, Nat.reduceEqDiff, true_implies, false_implies, implies_true, Option.some.injEq, forall_eq', forall_eq, reduceCtorEq, brT, brF, br_s, i_10, i_01, ib_0_2, ib_1_2, tn_0, tn_1, Int32.le_refl, eq_self, rv_bN, rv_iM, RCM 81, RLY, lit_at hw, sx_0, sx_1, sx_2, sx_3, sx_4, sx_5, ix_2, d0, q1 hd4, z1, q2 hd5, z2, q3 hd5, z3, ix (by omega : 31 + 6 * τ 2 + 1 < 102) (by omega), c3, q4 hd5, z4, ix (by omega : 31 + 6 * τ 2 + 1 < 102) (by omega), c3, q5 hd5, z5, ix (by omega : 31 + 6 * τ 2 + 1 < 102) (by omega), c3, q6 hd5, z6, ix (by omega : 31 + 6 * τ 2 + 5 < 102) (by omega), e134 hd1, iB_t y, z10, q8 hd5, z8, c8, on_succ]
    exact hQ
theorem mG_4 {σ : mS} {t : Nat → Nat} {n : Nat} {g : Rw} (h : mG σ t n g) : mG (uI σ 81 14 1) t n (rSet g 4 1) := by
  obtain ⟨hB, a, b, c, e, f, i, j, k⟩ := h
  refine ⟨⟨fun q hq => by rw [uI_o (by omega)]; exact hB.1 q hq, by rw [uI_1, if_neg (by omega)]; exact hB.2⟩, ?_, ?_, ?_, ?_, ?_, ?_, ?_, ?_⟩
  · rw [uI_1, if_neg (by omega), rS_ne (by omega)]; exact a
  · rw [uI_1, if_neg (by omega), rS_ne (by omega)]; exact b
  · rw [uI_1, if_neg (by omega), rS_ne (by omega)]; exact c
  · rw [uI_1, if_neg (by omega), rS_ne (by omega)]; exact e
  · rw [uI_1, if_neg (by omega), rS_ne (by omega), rS_ne (by omega), rS_ne (by omega)]; exact f
  · rw [uI_1, if_neg (by omega), rS_ne (by omega)]; exact i
  · rw [uI_1, if_pos ⟨rfl, rfl⟩, rS_eq]; rfl
  · rw [uI_1, if_neg (by omega), rS_ne (by omega)]; exact k
theorem o_145 {w : mT} {σ : mS} {t : Nat → Nat} {n : Nat} {g τ : Rw} {nm : Nat → Int32} (hw : lit w) (ht : ∀ i, t i < 256) (hS : rdS σ t n g nm τ) (hV : rV n g τ) (h4 : g 4 ≤ 1) : ∃ σ', fQ σ σ' ∧ ((rGap t n g nm τ).1 ≠ 0 → σ'.1 81 9 = Int32.ofNat (rGap t n g nm τ).1) ∧ ((rGap t n g nm τ).1 = 0 → rdS σ' t n (rGap t n g nm τ).2.1 (rGap t n g nm τ).2.2.1 (rGap t n g nm τ).2.2.2) ∧ ∀ {D : Nat} {K : Int32 → Hp → Prop}, 6 ≤ D → (wpI D 145 [.ref 81] (mW w σ) K ↔ K (if (rGap t n g nm τ).1 = 0 then 1 else 0) (mW w σ')) := by
  obtain ⟨hG, hDr, hN⟩ := hS
  obtain ⟨vg, h03, hv, h5⟩ := hV
  have h90 : σ.1 81 9 = 0 := by rw [hG.2.2.2.2.2.2.1, h03]; rfl
  have h14 := hG.2.2.2.2.2.2.2.1
  by_cases a : g 4 = 0
  case neg =>
    have eR : (rGap t n g nm τ) = (8 * g 0 + 2, g, nm, τ) := by unfold rGap; rw [if_pos a]
    have n0 : ¬ (8 * g 0 + 2 = 0) := by omega
    have c1 : (Int32.ofNat (g 4) = 0) ↔ False := iff_false_intro (fun q => a ((of_eq0 (by omega)).mp q))
    rw [eR]
    refine ⟨uI σ 81 9 (Int32.ofNat (8 * g 0 + 2)), fQ_8 (f8_I (by omega)), fun _ => by rw [uI_1, if_pos ⟨rfl, rfl⟩], fun q => absurd q n0, fun hD => cI_of (m := 5) (fun d hd Q hQ => ?_) rfl hD⟩
    have hd1 : 1 ≤ d := by omega
    have hd2 : 2 ≤ d := by omega
    have hd3 : 3 ≤ d := by omega
    have hd4 : 4 ≤ d := by omega
    have hd5 : 5 ≤ d := by omega
    rw [if_neg n0] at hQ
    refine b145_0 ?_
    simp only [↓br_pos, ↓br_neg, ↓rF_I, ↓rF_L, ↓rF_R, ↓rF_N, rO_m, rB_m, ↓rI_m, wI_m, ↓rB2_m, ↓rB3_m, wB2_m, wB3_m, ↓rL_m, wL_m, ↓rQ_m, wQ_m, ↓lI_m, pI_m, pL_m, pR_m, sI_m, sBy_m, sBo_m, sL_m, sQ_m, fst_m, true_and, and_true, tg_some, ln_some, uI_1, uI_2, uL_1, uL_2, uL_3, uQ_1, uQ_2, uQ_3, rv_i, rv_l, rv_n, rv_b0, rv_b1, RMR, ne_eq, reduceCtorEq, not_false_eq_true, Option.getD_some, if_true, if_false, and_self, false_and, and_false, Nat.add_left_cancel_iff, Nat.add_eq_left, Nat.left_eq_add, Nat.one_ne_zero, Nat.reduceAdd, Nat.reduceLT, Nat.reduceLeDiff, Nat.reduceEqDiff, true_implies, false_implies, implies_true, Option.some.injEq, forall_eq', forall_eq, reduceCtorEq, brT, brF, br_s, i_10, i_01, ib_0_2, ib_1_2, tn_0, tn_1, Int32.le_refl, eq_self, rv_bN, rv_iM, RCM 81, RLY, lit_at hw, h14, c1, g_136 (a := 2) (x := 2) hw h90 hG.2.1 rfl hd1]
    exact hQ
  have c1 : (Int32.ofNat (g 4) = 0) ↔ True := iff_true_intro (by rw [a]; rfl)
  have vg' : vG n (rSet g 4 1) := ⟨by rw [rS_ne (by omega), rS_ne (by omega)]; exact vg.1, by rw [rS_ne (by omega)]; exact vg.2.1, vg.2.2.1, by rw [rS_ne (by omega)]; exact vg.2.2.2⟩
  obtain ⟨σ1, f1, F1, G1, q1⟩ := o_143 (A := 3) (y := 3) (x := 7216) (i := 3) (low := 0) (high := 3) hw ht (mG_4 hG) vg' (by rw [rS_ne (by omega)]; exact h03) (by omega) (by omega) rfl (by decide)
  have fr : fQ σ σ1 := fQ_tr (fQ_8 (f8_I (j := 14) (x := 1) (by omega))) f1
  by_cases z : toldF t n (rSet g 4 1) 3 0 3 = 0
  case neg =>
    have eR : (rGap t n g nm τ) = (toldF t n (rSet g 4 1) 3 0 3, g, nm, τ) := by unfold rGap; rw [if_neg (fun q => q a), if_pos z]
    rw [eR]
    refine ⟨σ1, fr, F1, fun q => absurd q z, fun hD => cI_of (m := 5) (fun d hd Q hQ => ?_) rfl hD⟩
    have hd1 : 1 ≤ d := by omega
    have hd2 : 2 ≤ d := by omega
    have hd3 : 3 ≤ d := by omega
    have hd4 : 4 ≤ d := by omega
    have hd5 : 5 ≤ d := by omega
    rw [if_neg z] at hQ
    refine b145_0 ?_
    simp only [↓br_pos, ↓br_neg, ↓rF_I, ↓rF_L, ↓rF_R, ↓rF_N, rO_m, rB_m, ↓rI_m, wI_m, ↓rB2_m, ↓rB3_m, wB2_m, wB3_m, ↓rL_m, wL_m, ↓rQ_m, wQ_m, ↓lI_m, pI_m, pL_m, pR_m, sI_m, sBy_m, sBo_m, sL_m, sQ_m, fst_m, true_and, and_true, tg_some, ln_some, uI_1, uI_2, uL_1, uL_2, uL_3, uQ_1, uQ_2, uQ_3, rv_i, rv_l, rv_n, rv_b0, rv_b1, RMR, ne_eq, reduceCtorEq, not_false_eq_true, Option.getD_some, if_true, if_false, and_self, false_and, and_false, Nat.add_left_cancel_iff, Nat.add_eq_left, Nat.left_eq_add, Nat.one_ne_zero, Nat.reduceAdd, Nat.reduceLT, Nat.reduceLeDiff, Nat.reduceEqDiff, true_implies, false_implies, implies_true, Option.some.injEq, forall_eq', forall_eq, reduceCtorEq, brT, brF, br_s, i_10, i_01, ib_0_2, ib_1_2, tn_0, tn_1, Int32.le_refl, eq_self, rv_bN, rv_iM, RCM 81, RLY, lit_at hw, h14, c1, q1 hd, z]
    exact hQ
  have eR : (rGap t n g nm τ) = (0, gTd t n (rSet g 4 1), nm, rSet τ 3 (nN t (adv t n (rSet g 4 1)))) := by unfold rGap; rw [if_neg (fun q => q a), if_neg (fun q => q z)]
  obtain ⟨K1, e1⟩ := G1 z
  have w1 := told_v (lo := 0) (hi := 3) rfl rfl (by omega) (by omega) z
  rw [eR]
  refine ⟨σ1, fr, fun q => absurd rfl q, fun _ => ⟨K1, dr_143 e1 (mDr_c hDr (fun j _ => by rw [uI_1, if_neg (by omega)])) w1.1, ?_⟩, fun hD => cI_of (m := 5) (fun d hd Q hQ => ?_) rfl hD⟩
  · show nmR _ t (gTd t n (rSet g 4 1) 5) _
    rw [gTd_g (by omega), rS_ne (by omega)]
    exact nm_143 e1 (nmR_c hN (fun j _ => by rw [uI_1, if_neg (by omega)])) (by omega)
  · have hd1 : 1 ≤ d := by omega
    have hd2 : 2 ≤ d := by omega
    have hd3 : 3 ≤ d := by omega
    have hd4 : 4 ≤ d := by omega
    have hd5 : 5 ≤ d := by omega
    rw [if_pos rfl] at hQ
    refine b145_0 ?_
    simp only [↓br_pos, ↓br_neg, ↓rF_I, ↓rF_L, ↓rF_R, ↓rF_N, rO_m, rB_m, ↓rI_m, wI_m, ↓rB2_m, ↓rB3_m, wB2_m, wB3_m, ↓rL_m, wL_m, ↓rQ_m, wQ_m, ↓lI_m, pI_m, pL_m, pR_m, sI_m, sBy_m, sBo_m, sL_m, sQ_m, fst_m, true_and, and_true, tg_some, ln_some, uI_1, uI_2, uL_1, uL_2, uL_3, uQ_1, uQ_2, uQ_3, rv_i, rv_l, rv_n, rv_b0, rv_b1, RMR, ne_eq, reduceCtorEq, not_false_eq_true, Option.getD_some, if_true, if_false, and_self, false_and, and_false, Nat.add_left_cancel_iff, Nat.add_eq_left, Nat.left_eq_add, Nat.one_ne_zero, Nat.reduceAdd, Nat.reduceLT, Nat.reduceLeDiff, Nat.reduceEqDiff, true_implies, false_implies, implies_true, Option.some.injEq, forall_eq', forall_eq, reduceCtorEq, brT, brF, br_s, i_10, i_01, ib_0_2, ib_1_2, tn_0, tn_1, Int32.le_refl, eq_self, rv_bN, rv_iM, RCM 81, RLY, lit_at hw, h14, c1, q1 hd, z]
    exact hQ
theorem o_146 {w : mT} {σ : mS} {t : Nat → Nat} {n : Nat} {g τ : Rw} {nm : Nat → Int32} (hw : lit w) (ht : ∀ i, t i < 256) (hS : rdS σ t n g nm τ) (hV : rV n g τ) (h4 : g 4 ≤ 1) : ∃ σ', fQ σ σ' ∧ ((rBody t n g nm τ).1 ≠ 0 → σ'.1 81 9 = Int32.ofNat (rBody t n g nm τ).1) ∧ ((rBody t n g nm τ).1 = 0 → rdS σ' t n (rBody t n g nm τ).2.1 (rBody t n g nm τ).2.2.1 (rBody t n g nm τ).2.2.2) ∧ ∀ {D : Nat} {K : Int32 → Hp → Prop}, 7 ≤ D → (wpI D 146 [.ref 81] (mW w σ) K ↔ K (if (rBody t n g nm τ).1 = 0 then 1 else 0) (mW w σ')) := by
  have hS' := hS
  have hV' := hV
  obtain ⟨hG, hDr, hN⟩ := hS
  obtain ⟨vg, h03, hv, h5⟩ := hV
  have h90 : σ.1 81 9 = 0 := by rw [hG.2.2.2.2.2.2.1, h03]; rfl
  have e0 := fun {d : Nat} (hd : 1 ≤ d) {K : Int32 → Hp → Prop} => g_134 (K := K) (D := d) (x := 12788) (i := 0) hw hG vg (by omega) (by decide) hd
  have e1 := fun {d : Nat} (hd : 1 ≤ d) {K : Int32 → Hp → Prop} => g_134 (K := K) (D := d) (x := 533893) (i := 1) hw hG vg (by omega) (by decide) hd
  have e2 := fun {d : Nat} (hd : 1 ≤ d) {K : Int32 → Hp → Prop} => g_134 (K := K) (D := d) (x := 631088) (i := 2) hw hG vg (by omega) (by decide) hd
  have e3 := fun {d : Nat} (hd : 1 ≤ d) {K : Int32 → Hp → Prop} => g_134 (K := K) (D := d) (x := 7216) (i := 3) hw hG vg (by omega) (by decide) hd
  unfold rBody
  by_cases y0 : sayP t g 0
  · rw [if_pos y0]
    obtain ⟨σ', f', F', G', q'⟩ := o_141 hw ht hS' hV'
    refine ⟨σ', f', F', G', fun hD => cI_of (m := 6) (fun d hd Q hQ => ?_) rfl hD⟩
    have hd1 : 1 ≤ d := by omega
    have hd2 : 2 ≤ d := by omega
    have hd3 : 3 ≤ d := by omega
    have hd4 : 4 ≤ d := by omega
    have hd5 : 5 ≤ d := by omega
    have hd6 : 6 ≤ d := by omega
    refine b146_0 ?_
    simp only [↓br_pos, ↓br_neg, ↓rF_I, ↓rF_L, ↓rF_R, ↓rF_N, rO_m, rB_m, ↓rI_m, wI_m, ↓rB2_m, ↓rB3_m, wB2_m, wB3_m, ↓rL_m, wL_m, ↓rQ_m, wQ_m, ↓lI_m, pI_m, pL_m, pR_m, sI_m, sBy_m, sBo_m, sL_m, sQ_m, fst_m, true_and, and_true, tg_some, ln_some, uI_1, uI_2, uL_1, uL_2, uL_3, uQ_1, uQ_2, uQ_3, rv_i, rv_l, rv_n, rv_b0, rv_b1, RMR, ne_eq, reduceCtorEq, not_false_eq_true, Option.getD_some, if_true, if_false, and_self, false_and, and_false, Nat.add_left_cancel_iff, Nat.add_eq_left, Nat.left_eq_add, Nat.one_ne_zero, Nat.reduceAdd, Nat.reduceLT, Nat.reduceLeDiff, Nat.reduceEqDiff, true_implies, false_implies, implies_true, Option.some.injEq, forall_eq', forall_eq, reduceCtorEq, brT, brF, br_s, i_10, i_01, ib_0_2, ib_1_2, tn_0, tn_1, Int32.le_refl, eq_self, rv_bN, rv_iM, RCM 81, RLY, lit_at hw, e0 hd1, iB_t y0, z10, z00, q' hd5]
    exact ⟨by split <;> rfl, hQ⟩
  rw [if_neg y0]
  by_cases y1 : sayP t g 1
  · rw [if_pos y1]
    obtain ⟨σ', f', F', G', q'⟩ := o_142 hw ht hS' hV'
    refine ⟨σ', f', F', G', fun hD => cI_of (m := 6) (fun d hd Q hQ => ?_) rfl hD⟩
    have hd1 : 1 ≤ d := by omega
    have hd2 : 2 ≤ d := by omega
    have hd3 : 3 ≤ d := by omega
    have hd4 : 4 ≤ d := by omega
    have hd5 : 5 ≤ d := by omega
    have hd6 : 6 ≤ d := by omega
    refine b146_0 ?_
    simp only [↓br_pos, ↓br_neg, ↓rF_I, ↓rF_L, ↓rF_R, ↓rF_N, rO_m, rB_m, ↓rI_m, wI_m, ↓rB2_m, ↓rB3_m, wB2_m, wB3_m, ↓rL_m, wL_m, ↓rQ_m, wQ_m, ↓lI_m, pI_m, pL_m, pR_m, sI_m, sBy_m, sBo_m, sL_m, sQ_m, fst_m, true_and, and_true, tg_some, ln_some, uI_1, uI_2, uL_1, uL_2, uL_3, uQ_1, uQ_2, uQ_3, rv_i, rv_l, rv_n, rv_b0, rv_b1, RMR, ne_eq, reduceCtorEq, not_false_eq_true, Option.getD_some, if_true, if_false, and_self, false_and, and_false, Nat.add_left_cancel_iff, Nat.add_eq_left, Nat.left_eq_add, Nat.one_ne_zero, Nat.reduceAdd, Nat.reduceLT, Nat.reduceLeDiff, Nat.reduceEqDiff, true_implies, false_implies, implies_true, Option.some.injEq, forall_eq', forall_eq, reduceCtorEq, brT, brF, br_s, i_10, i_01, ib_0_2, ib_1_2, tn_0, tn_1, Int32.le_refl, eq_self, rv_bN, rv_iM, RCM 81, RLY, lit_at hw, e0 hd1, iB_f y0, e1 hd1, iB_t y1, z10, z00, q' hd5]
    exact ⟨by split <;> rfl, hQ⟩
  rw [if_neg y1]
  by_cases y2 : sayP t g 2
  · rw [if_pos y2]
    obtain ⟨σ', f', F', G', q'⟩ := o_144 hw ht hS' hV'
    refine ⟨σ', f', F', G', fun hD => cI_of (m := 6) (fun d hd Q hQ => ?_) rfl hD⟩
    have hd1 : 1 ≤ d := by omega
    have hd2 : 2 ≤ d := by omega
    have hd3 : 3 ≤ d := by omega
    have hd4 : 4 ≤ d := by omega
    have hd5 : 5 ≤ d := by omega
    have hd6 : 6 ≤ d := by omega
    refine b146_0 ?_
    simp only [↓br_pos, ↓br_neg, ↓rF_I, ↓rF_L, ↓rF_R, ↓rF_N, rO_m, rB_m, ↓rI_m, wI_m, ↓rB2_m, ↓rB3_m, wB2_m, wB3_m, ↓rL_m, wL_m, ↓rQ_m, wQ_m, ↓lI_m, pI_m, pL_m, pR_m, sI_m, sBy_m, sBo_m, sL_m, sQ_m, fst_m, true_and, and_true, tg_some, ln_some, uI_1, uI_2, uL_1, uL_2, uL_3, uQ_1, uQ_2, uQ_3, rv_i, rv_l, rv_n, rv_b0, rv_b1, RMR, ne_eq, reduceCtorEq, not_false_eq_true, Option.getD_some, if_true, if_false, and_self, false_and, and_false, Nat.add_left_cancel_iff, Nat.add_eq_left, Nat.left_eq_add, Nat.one_ne_zero, Nat.reduceAdd, Nat.reduceLT, Nat.reduceLeDiff, Nat.reduceEqDiff, true_implies, false_implies, implies_true, Option.some.injEq, forall_eq', forall_eq, reduceCtorEq, brT, brF, br_s, i_10, i_01, ib_0_2, ib_1_2, tn_0, tn_1, Int32.le_refl, eq_self, rv_bN, rv_iM, RCM 81, RLY, lit_at hw, e0 hd1, iB_f y0, e1 hd1, iB_f y1, e2 hd1, iB_t y2, z10, z00, q' hd]
    exact ⟨by split <;> rfl, hQ⟩
  rw [if_neg y2]
  by_cases y3 : sayP t g 3
  · rw [if_pos y3]
    obtain ⟨σ', f', F', G', q'⟩ := o_145 hw ht hS' hV' h4
    refine ⟨σ', f', F', G', fun hD => cI_of (m := 6) (fun d hd Q hQ => ?_) rfl hD⟩
    have hd1 : 1 ≤ d := by omega
    have hd2 : 2 ≤ d := by omega
    have hd3 : 3 ≤ d := by omega
    have hd4 : 4 ≤ d := by omega
    have hd5 : 5 ≤ d := by omega
    have hd6 : 6 ≤ d := by omega
    refine b146_0 ?_
    simp only [↓br_pos, ↓br_neg, ↓rF_I, ↓rF_L, ↓rF_R, ↓rF_N, rO_m, rB_m, ↓rI_m, wI_m, ↓rB2_m, ↓rB3_m, wB2_m, wB3_m, ↓rL_m, wL_m, ↓rQ_m, wQ_m, ↓lI_m, pI_m, pL_m, pR_m, sI_m, sBy_m, sBo_m, sL_m, sQ_m, fst_m, true_and, and_true, tg_some, ln_some, uI_1, uI_2, uL_1, uL_2, uL_3, uQ_1, uQ_2, uQ_3, rv_i, rv_l, rv_n, rv_b0, rv_b1, RMR, ne_eq, reduceCtorEq, not_false_eq_true, Option.getD_some, if_true, if_false, and_self, false_and, and_false, Nat.add_left_cancel_iff, Nat.add_eq_left, Nat.left_eq_add, Nat.one_ne_zero, Nat.reduceAdd, Nat.reduceLT, Nat.reduceLeDiff, Nat.reduceEqDiff, true_implies, false_implies, implies_true, Option.some.injEq, forall_eq', forall_eq, reduceCtorEq, brT, brF, br_s, i_10, i_01, ib_0_2, ib_1_2, tn_0, tn_1, Int32.le_refl, eq_self, rv_bN, rv_iM, RCM 81, RLY, lit_at hw, e0 hd1, iB_f y0, e1 hd1, iB_f y1, e2 hd1, iB_f y2, e3 hd1, iB_t y3, z10, z00, q' hd]
    exact ⟨by split <;> rfl, hQ⟩
  rw [if_neg y3]
  have n0 : ¬ (8 * g 0 + 1 = 0) := by omega
  refine ⟨uI σ 81 9 (Int32.ofNat (8 * g 0 + 1)), fQ_8 (f8_I (by omega)), fun _ => by rw [uI_1, if_pos ⟨rfl, rfl⟩], fun q => absurd q n0, fun hD => cI_of (m := 6) (fun d hd Q hQ => ?_) rfl hD⟩
  have hd1 : 1 ≤ d := by omega
  have hd2 : 2 ≤ d := by omega
  have hd3 : 3 ≤ d := by omega
  have hd4 : 4 ≤ d := by omega
  have hd5 : 5 ≤ d := by omega
  have hd6 : 6 ≤ d := by omega
  rw [if_neg n0] at hQ
  refine b146_0 ?_
  simp only [↓br_pos, ↓br_neg, ↓rF_I, ↓rF_L, ↓rF_R, ↓rF_N, rO_m, rB_m, ↓rI_m, wI_m, ↓rB2_m, ↓rB3_m, wB2_m, wB3_m, ↓rL_m, wL_m, ↓rQ_m, wQ_m, ↓lI_m, pI_m, pL_m, pR_m, sI_m, sBy_m, sBo_m, sL_m, sQ_m, fst_m, true_and, and_true, tg_some, ln_some, uI_1, uI_2, uL_1, uL_2, uL_3, uQ_1, uQ_2, uQ_3, rv_i, rv_l, rv_n, rv_b0, rv_b1, RMR, ne_eq, reduceCtorEq, not_false_eq_true, Option.getD_some, if_true, if_false, and_self, false_and, and_false, Nat.add_left_cancel_iff, Nat.add_eq_left, Nat.left_eq_add, Nat.one_ne_zero, Nat.reduceAdd, Nat.reduceLT, Nat.reduceLeDiff, Nat.reduceEqDiff, true_implies, false_implies, implies_true, Option.some.injEq, forall_eq', forall_eq, reduceCtorEq, brT, brF, br_s, i_10, i_01, ib_0_2, ib_1_2, tn_0, tn_1, Int32.le_refl, eq_self, rv_bN, rv_iM, RCM 81, RLY, lit_at hw, e0 hd1, e1 hd1, e2 hd1, e3 hd1, iB_f y0, iB_f y1, iB_f y2, iB_f y3, z00, g_136 (a := 1) (x := 1) hw h90 hG.2.1 rfl hd1]
  exact hQ
