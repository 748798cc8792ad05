section
/-! the model's Reader: words, faults, numbers, names -/
def f8 (σ σ' : mS) : Prop := (∀ a, a ≠ 81 → σ'.1 a = σ.1 a) ∧ (∀ j, j < 3 ∨ 14 < j → σ'.1 81 j = σ.1 81 j) ∧ σ'.2 = σ.2
theorem f8_rf {σ : mS} : f8 σ σ := ⟨fun _ _ => rfl, fun _ _ => rfl, rfl⟩
theorem f8_tr {σ σ' σ'' : mS} (h : f8 σ σ') (h' : f8 σ' σ'') : f8 σ σ'' := ⟨fun a q => (h'.1 a q).trans (h.1 a q), fun j q => (h'.2.1 j q).trans (h.2.1 j q), h'.2.2.trans h.2.2⟩
theorem f8_I {σ : mS} {j : Nat} {x : Int32} (h : 3 ≤ j ∧ j ≤ 14) : f8 σ (uI σ 81 j x) := ⟨fun a q => (uI_ne q).1, fun i hi => by rw [uI_1, if_neg (by omega)], rfl⟩
theorem f8_G {σ σ' : mS} (f : fG σ σ') : f8 σ σ' := ⟨f.1, fun j hj => f.2.1 j (by omega), f.2.2⟩
def fQ (σ σ' : mS) : Prop := (∀ a, a ≠ 81 → a ≠ 84 → σ'.1 a = σ.1 a) ∧ (∀ j, j < 3 ∨ 14 < j → σ'.1 81 j = σ.1 81 j) ∧ σ'.2 = σ.2
theorem fQ_rf {σ : mS} : fQ σ σ := ⟨fun _ _ _ => rfl, fun _ _ => rfl, rfl⟩
theorem fQ_tr {σ σ' σ'' : mS} (h : fQ σ σ') (h' : fQ σ' σ'') : fQ σ σ'' := ⟨fun a q r => (h'.1 a q r).trans (h.1 a q r), fun j q => (h'.2.1 j q).trans (h.2.1 j q), h'.2.2.trans h.2.2⟩
theorem fQ_8 {σ σ' : mS} (f : f8 σ σ') : fQ σ σ' := ⟨fun a q _ => f.1 a q, f.2.1, f.2.2⟩
theorem fQ_D {σ : mS} {j : Nat} {x : Int32} : fQ σ (uI σ 84 j x) := ⟨fun a _ q => (uI_ne q).1, fun i _ => by rw [uI_1, if_neg (by omega)], rfl⟩
theorem mG_c {σ σ' : mS} {t : Nat → Nat} {n : Nat} {g : Rw} (h : mG σ t n g) (h2 : σ'.1 82 = σ.1 82) (h1 : ∀ j, 3 ≤ j → j ≤ 14 → j ≠ 10 → σ'.1 81 j = σ.1 81 j) : mG σ' t n g := by
  obtain ⟨hB, a, b, c, e, f, i, j, k⟩ := h
  refine ⟨⟨fun q hq => by rw [h2]; exact hB.1 q hq, by rw [h1 3 (by omega) (by omega) (by omega)]; exact hB.2⟩, ?_, ?_, ?_, ?_, ?_, ?_, ?_, ?_⟩
  · rw [h1 4 (by omega) (by omega) (by omega)]; exact a
  · rw [h1 5 (by omega) (by omega) (by omega)]; exact b
  · rw [h1 6 (by omega) (by omega) (by omega)]; exact c
  · rw [h1 7 (by omega) (by omega) (by omega)]; exact e
  · rw [h1 8 (by omega) (by omega) (by omega)]; exact f
  · rw [h1 9 (by omega) (by omega) (by omega)]; exact i
  · rw [h1 14 (by omega) (by omega) (by omega)]; exact j
  · rw [h1 13 (by omega) (by omega) (by omega)]; exact k
theorem mG_D {σ : mS} {t : Nat → Nat} {n j : Nat} {x : Int32} {g : Rw} (h : mG σ t n g) : mG (uI σ 84 j x) t n g := mG_c h (uI_o (by omega)) (fun i _ _ _ => by rw [uI_1, if_neg (by omega)])
theorem mG_10 {σ : mS} {t : Nat → Nat} {n : Nat} {x : Int32} {g : Rw} (h : mG σ t n g) : mG (uI σ 81 10 x) t n g := mG_c h (uI_o (by omega)) (fun i _ _ q => by rw [uI_1, if_neg (by omega)])
theorem g_134 {w : mT} {σ : mS} {t : Nat → Nat} {n i : Nat} {g : Rw} {x : Int32} {D : Nat} {K : Int32 → Hp → Prop} (hw : lit w) (hG : mG σ t n g) (hv : vG n g) (hi : i < 13) (hx : x = WC i) (hD : 1 ≤ D) : wpI D 134 [.ref 81, .int x] (mW w σ) K ↔ K (iB (sayP t g i)) (mW w σ) := by
  subst hx
  obtain ⟨hB, h4, h5, h6, h7, h8, h9, h14, h13⟩ := hG
  refine cI_of (m := 0) (fun d hd Q hQ => ?_) rfl hD
  have k4 := hv.2.2.2
  refine b134_0 ?_
  by_cases c : g 2 = 1
  · have c1 : (Int32.ofNat (g 2) = (1 : Int32)) ↔ True := iff_true_intro (by rw [c]; rfl)
    obtain ⟨e8, hL⟩ := h8 c
    have wi := wM_iff hi c hL
    by_cases y : sayP t g i
    · have c2 := iff_true_intro (wi.mpr y)
      rw [iB_t y] at hQ
      simp only [↓br_pos, ↓br_neg, ↓rF_I, ↓rF_L, ↓rF_R, ↓rF_N, rO_m, rB_m, ↓rI_m, wI_m, ↓rB2_m, ↓rB3_m, wB2_m, wB3_m, ↓rL_m, wL_m, ↓rQ_m, wQ_m, ↓lI_m, pI_m, pL_m, pR_m, sI_m, sBy_m, sBo_m, sL_m, sQ_m, fst_m, true_and, and_true, tg_some, ln_some, uI_1, uI_2, uL_1, uL_2, uL_3, uQ_1, uQ_2, uQ_3, rv_i, rv_l, rv_n, rv_b0, rv_b1, RMR, ne_eq, reduceCtorEq, not_false_eq_true, Option.getD_some, if_true, if_false, and_self, false_and, and_false, Nat.add_left_cancel_iff, Nat.add_eq_left, Nat.left_eq_add, Nat.one_ne_zero, Nat.reduceAdd, Nat.reduceLT, Nat.reduceLeDiff, Nat.reduceEqDiff, true_implies, false_implies, implies_true, Option.some.injEq, forall_eq', forall_eq, reduceCtorEq, brT, brF, br_s, i_10, i_01, ib_0_2, ib_1_2, tn_0, tn_1, Int32.le_refl, eq_self, rv_bN, rv_iM, RCM 81, RLY, lit_at hw, h6, c1, e8, c2]
      exact hQ
    · have c2 := iff_false_intro (fun q => y (wi.mp q))
      rw [iB_f y] at hQ
      simp only [↓br_pos, ↓br_neg, ↓rF_I, ↓rF_L, ↓rF_R, ↓rF_N, rO_m, rB_m, ↓rI_m, wI_m, ↓rB2_m, ↓rB3_m, wB2_m, wB3_m, ↓rL_m, wL_m, ↓rQ_m, wQ_m, ↓lI_m, pI_m, pL_m, pR_m, sI_m, sBy_m, sBo_m, sL_m, sQ_m, fst_m, true_and, and_true, tg_some, ln_some, uI_1, uI_2, uL_1, uL_2, uL_3, uQ_1, uQ_2, uQ_3, rv_i, rv_l, rv_n, rv_b0, rv_b1, RMR, ne_eq, reduceCtorEq, not_false_eq_true, Option.getD_some, if_true, if_false, and_self, false_and, and_false, Nat.add_left_cancel_iff, Nat.add_eq_left, Nat.left_eq_add, Nat.one_ne_zero, Nat.reduceAdd, Nat.reduceLT, Nat.reduceLeDiff, Nat.reduceEqDiff, true_implies, false_implies, implies_true, Option.some.injEq, forall_eq', forall_eq, reduceCtorEq, brT, brF, br_s, i_10, i_01, ib_0_2, ib_1_2, tn_0, tn_1, Int32.le_refl, eq_self, rv_bN, rv_iM, RCM 81, RLY, lit_at hw, h6, c1, e8, c2]
      exact hQ
  · have c1 : (Int32.ofNat (g 2) = (1 : Int32)) ↔ False := iff_false_intro (fun q => c ((of_inj (b := 1) (by omega) (by omega)).mp q))
    rw [iB_f (fun q => c q.1)] at hQ
    simp only [↓br_pos, ↓br_neg, ↓rF_I, ↓rF_L, ↓rF_R, ↓rF_N, rO_m, rB_m, ↓rI_m, wI_m, ↓rB2_m, ↓rB3_m, wB2_m, wB3_m, ↓rL_m, wL_m, ↓rQ_m, wQ_m, ↓lI_m, pI_m, pL_m, pR_m, sI_m, sBy_m, sBo_m, sL_m, sQ_m, fst_m, true_and, and_true, tg_some, ln_some, uI_1, uI_2, uL_1, uL_2, uL_3, uQ_1, uQ_2, uQ_3, rv_i, rv_l, rv_n, rv_b0, rv_b1, RMR, ne_eq, reduceCtorEq, not_false_eq_true, Option.getD_some, if_true, if_false, and_self, false_and, and_false, Nat.add_left_cancel_iff, Nat.add_eq_left, Nat.left_eq_add, Nat.one_ne_zero, Nat.reduceAdd, Nat.reduceLT, Nat.reduceLeDiff, Nat.reduceEqDiff, true_implies, false_implies, implies_true, Option.some.injEq, forall_eq', forall_eq, reduceCtorEq, brT, brF, br_s, i_10, i_01, ib_0_2, ib_1_2, tn_0, tn_1, Int32.le_refl, eq_self, rv_bN, rv_iM, RCM 81, RLY, lit_at hw, h6, c1]
    exact hQ
theorem g_135 {w : mT} {σ : mS} {t : Nat → Nat} {n : Nat} {g : Rw} {D : Nat} {K : Int32 → Hp → Prop} (hw : lit w) (hG : mG σ t n g) (hv : vG n g) (hD : 2 ≤ D) : wpI D 135 [.ref 81] (mW w σ) K ↔ K (iB (kepP t g = true)) (mW w σ) := by
  refine cI_of (m := 1) (fun d hd Q hQ => ?_) rfl hD
  have e0 := fun {K : Int32 → Hp → Prop} => g_134 (K := K) (x := 12788) (i := 0) hw hG hv (by omega) (by decide) hd
  have e1 := fun {K : Int32 → Hp → Prop} => g_134 (K := K) (x := 533893) (i := 1) hw hG hv (by omega) (by decide) hd
  have e2 := fun {K : Int32 → Hp → Prop} => g_134 (K := K) (x := 631088) (i := 2) hw hG hv (by omega) (by decide) hd
  have e3 := fun {K : Int32 → Hp → Prop} => g_134 (K := K) (x := 7216) (i := 3) hw hG hv (by omega) (by decide) hd
  have e4 := fun {K : Int32 → Hp → Prop} => g_134 (K := K) (x := 687290547) (i := 4) hw hG hv (by omega) (by decide) hd
  have e5 := fun {K : Int32 → Hp → Prop} => g_134 (K := K) (x := 7931013) (i := 5) hw hG hv (by omega) (by decide) hd
  have e6 := fun {K : Int32 → Hp → Prop} => g_134 (K := K) (x := 3322259) (i := 6) hw hG hv (by omega) (by decide) hd
  have e7 := fun {K : Int32 → Hp → Prop} => g_134 (K := K) (x := 14849171) (i := 7) hw hG hv (by omega) (by decide) hd
  have e8 := fun {K : Int32 → Hp → Prop} => g_134 (K := K) (x := 12791) (i := 8) hw hG hv (by omega) (by decide) hd
  have e9 := fun {K : Int32 → Hp → Prop} => g_134 (K := K) (x := 271592) (i := 9) hw hG hv (by omega) (by decide) hd
  have e10 := fun {K : Int32 → Hp → Prop} => g_134 (K := K) (x := 4773) (i := 10) hw hG hv (by omega) (by decide) hd
  have e11 := fun {K : Int32 → Hp → Prop} => g_134 (K := K) (x := 408612) (i := 11) hw hG hv (by omega) (by decide) hd
  have e12 := fun {K : Int32 → Hp → Prop} => g_134 (K := K) (x := 206277) (i := 12) hw hG hv (by omega) (by decide) hd
  refine b135_0 ?_
  by_cases h0 : sayP t g 0
  · rw [iB_t (kepP_t (by omega) h0)] at hQ
    have z0 : iB (sayP t g 0) = 1 := iB_t h0
    simp only [↓br_pos, ↓br_neg, ↓rF_I, ↓rF_L, ↓rF_R, ↓rF_N, rO_m, rB_m, ↓rI_m, wI_m, ↓rB2_m, ↓rB3_m, wB2_m, wB3_m, ↓rL_m, wL_m, ↓rQ_m, wQ_m, ↓lI_m, pI_m, pL_m, pR_m, sI_m, sBy_m, sBo_m, sL_m, sQ_m, fst_m, true_and, and_true, tg_some, ln_some, uI_1, uI_2, uL_1, uL_2, uL_3, uQ_1, uQ_2, uQ_3, rv_i, rv_l, rv_n, rv_b0, rv_b1, RMR, ne_eq, reduceCtorEq, not_false_eq_true, Option.getD_some, if_true, if_false, and_self, false_and, and_false, Nat.add_left_cancel_iff, Nat.add_eq_left, Nat.left_eq_add, Nat.one_ne_zero, Nat.reduceAdd, Nat.reduceLT, Nat.reduceLeDiff, Nat.reduceEqDiff, true_implies, false_implies, implies_true, Option.some.injEq, forall_eq', forall_eq, reduceCtorEq, brT, brF, br_s, i_10, i_01, ib_0_2, ib_1_2, tn_0, tn_1, Int32.le_refl, eq_self, rv_bN, rv_iM, RCM 81, RLY, lit_at hw, e0, z0, z10, z00]
    exact hQ
  have z0 : iB (sayP t g 0) = 0 := iB_f h0
  by_cases h1 : sayP t g 1
  · rw [iB_t (kepP_t (by omega) h1)] at hQ
    have z1 : iB (sayP t g 1) = 1 := iB_t h1
    simp only [↓br_pos, ↓br_neg, ↓rF_I, ↓rF_L, ↓rF_R, ↓rF_N, rO_m, rB_m, ↓rI_m, wI_m, ↓rB2_m, ↓rB3_m, wB2_m, wB3_m, ↓rL_m, wL_m, ↓rQ_m, wQ_m, ↓lI_m, pI_m, pL_m, pR_m, sI_m, sBy_m, sBo_m, sL_m, sQ_m, fst_m, true_and, and_true, tg_some, ln_some, uI_1, uI_2, uL_1, uL_2, uL_3, uQ_1, uQ_2, uQ_3, rv_i, rv_l, rv_n, rv_b0, rv_b1, RMR, ne_eq, reduceCtorEq, not_false_eq_true, Option.getD_some, if_true, if_false, and_self, false_and, and_false, Nat.add_left_cancel_iff, Nat.add_eq_left, Nat.left_eq_add, Nat.one_ne_zero, Nat.reduceAdd, Nat.reduceLT, Nat.reduceLeDiff, Nat.reduceEqDiff, true_implies, false_implies, implies_true, Option.some.injEq, forall_eq', forall_eq, reduceCtorEq, brT, brF, br_s, i_10, i_01, ib_0_2, ib_1_2, tn_0, tn_1, Int32.le_refl, eq_self, rv_bN, rv_iM, RCM 81, RLY, lit_at hw, e0, z0, e1, z1, z10, z00]
    exact hQ
  have z1 : iB (sayP t g 1) = 0 := iB_f h1
  by_cases h2 : sayP t g 2
  · rw [iB_t (kepP_t (by omega) h2)] at hQ
    have z2 : iB (sayP t g 2) = 1 := iB_t h2
    simp only [↓br_pos, ↓br_neg, ↓rF_I, ↓rF_L, ↓rF_R, ↓rF_N, rO_m, rB_m, ↓rI_m, wI_m, ↓rB2_m, ↓rB3_m, wB2_m, wB3_m, ↓rL_m, wL_m, ↓rQ_m, wQ_m, ↓lI_m, pI_m, pL_m, pR_m, sI_m, sBy_m, sBo_m, sL_m, sQ_m, fst_m, true_and, and_true, tg_some, ln_some, uI_1, uI_2, uL_1, uL_2, uL_3, uQ_1, uQ_2, uQ_3, rv_i, rv_l, rv_n, rv_b0, rv_b1, RMR, ne_eq, reduceCtorEq, not_false_eq_true, Option.getD_some, if_true, if_false, and_self, false_and, and_false, Nat.add_left_cancel_iff, Nat.add_eq_left, Nat.left_eq_add, Nat.one_ne_zero, Nat.reduceAdd, Nat.reduceLT, Nat.reduceLeDiff, Nat.reduceEqDiff, true_implies, false_implies, implies_true, Option.some.injEq, forall_eq', forall_eq, reduceCtorEq, brT, brF, br_s, i_10, i_01, ib_0_2, ib_1_2, tn_0, tn_1, Int32.le_refl, eq_self, rv_bN, rv_iM, RCM 81, RLY, lit_at hw, e0, z0, e1, z1, e2, z2, z10, z00]
    exact hQ
  have z2 : iB (sayP t g 2) = 0 := iB_f h2
  by_cases h3 : sayP t g 3
  · rw [iB_t (kepP_t (by omega) h3)] at hQ
    have z3 : iB (sayP t g 3) = 1 := iB_t h3
    simp only [↓br_pos, ↓br_neg, ↓rF_I, ↓rF_L, ↓rF_R, ↓rF_N, rO_m, rB_m, ↓rI_m, wI_m, ↓rB2_m, ↓rB3_m, wB2_m, wB3_m, ↓rL_m, wL_m, ↓rQ_m, wQ_m, ↓lI_m, pI_m, pL_m, pR_m, sI_m, sBy_m, sBo_m, sL_m, sQ_m, fst_m, true_and, and_true, tg_some, ln_some, uI_1, uI_2, uL_1, uL_2, uL_3, uQ_1, uQ_2, uQ_3, rv_i, rv_l, rv_n, rv_b0, rv_b1, RMR, ne_eq, reduceCtorEq, not_false_eq_true, Option.getD_some, if_true, if_false, and_self, false_and, and_false, Nat.add_left_cancel_iff, Nat.add_eq_left, Nat.left_eq_add, Nat.one_ne_zero, Nat.reduceAdd, Nat.reduceLT, Nat.reduceLeDiff, Nat.reduceEqDiff, true_implies, false_implies, implies_true, Option.some.injEq, forall_eq', forall_eq, reduceCtorEq, brT, brF, br_s, i_10, i_01, ib_0_2, ib_1_2, tn_0, tn_1, Int32.le_refl, eq_self, rv_bN, rv_iM, RCM 81, RLY, lit_at hw, e0, z0, e1, z1, e2, z2, e3, z3, z10, z00]
    exact hQ
  have z3 : iB (sayP t g 3) = 0 := iB_f h3
  by_cases h4 : sayP t g 4
  · rw [iB_t (kepP_t (by omega) h4)] at hQ
    have z4 : iB (sayP t g 4) = 1 := iB_t h4
    simp only [↓br_pos, ↓br_neg, ↓rF_I, ↓rF_L, ↓rF_R, ↓rF_N, rO_m, rB_m, ↓rI_m, wI_m, ↓rB2_m, ↓rB3_m, wB2_m, wB3_m, ↓rL_m, wL_m, ↓rQ_m, wQ_m, ↓lI_m, pI_m, pL_m, pR_m, sI_m, sBy_m, sBo_m, sL_m, sQ_m, fst_m, true_and, and_true, tg_some, ln_some, uI_1, uI_2, uL_1, uL_2, uL_3, uQ_1, uQ_2, uQ_3, rv_i, rv_l, rv_n, rv_b0, rv_b1, RMR, ne_eq, reduceCtorEq, not_false_eq_true, Option.getD_some, if_true, if_false, and_self, false_and, and_false, Nat.add_left_cancel_iff, Nat.add_eq_left, Nat.left_eq_add, Nat.one_ne_zero, Nat.reduceAdd, Nat.reduceLT, Nat.reduceLeDiff, Nat.reduceEqDiff, true_implies, false_implies, implies_true, Option.some.injEq, forall_eq', forall_eq, reduceCtorEq, brT, brF, br_s, i_10, i_01, ib_0_2, ib_1_2, tn_0, tn_1, Int32.le_refl, eq_self, rv_bN, rv_iM, RCM 81, RLY, lit_at hw, e0, z0, e1, z1, e2, z2, e3, z3, e4, z4, z10, z00]
    exact hQ
  have z4 : iB (sayP t g 4) = 0 := iB_f h4
  by_cases h5 : sayP t g 5
  · rw [iB_t (kepP_t (by omega) h5)] at hQ
    have z5 : iB (sayP t g 5) = 1 := iB_t h5
    simp only [↓br_pos, ↓br_neg, ↓rF_I, ↓rF_L, ↓rF_R, ↓rF_N, rO_m, rB_m, ↓rI_m, wI_m, ↓rB2_m, ↓rB3_m, wB2_m, wB3_m, ↓rL_m, wL_m, ↓rQ_m, wQ_m, ↓lI_m, pI_m, pL_m, pR_m, sI_m, sBy_m, sBo_m, sL_m, sQ_m, fst_m, true_and, and_true, tg_some, ln_some, uI_1, uI_2, uL_1, uL_2, uL_3, uQ_1, uQ_2, uQ_3, rv_i, rv_l, rv_n, rv_b0, rv_b1, RMR, ne_eq, reduceCtorEq, not_false_eq_true, Option.getD_some, if_true, if_false, and_self, false_and, and_false, Nat.add_left_cancel_iff, Nat.add_eq_left, Nat.left_eq_add, Nat.one_ne_zero, Nat.reduceAdd, Nat.reduceLT, Nat.reduceLeDiff, Nat.reduceEqDiff, true_implies, false_implies, implies_true, Option.some.injEq, forall_eq', forall_eq, reduceCtorEq, brT, brF, br_s, i_10, i_01, ib_0_2, ib_1_2, tn_0, tn_1, Int32.le_refl, eq_self, rv_bN, rv_iM, RCM 81, RLY, lit_at hw, e0, z0, e1, z1, e2, z2, e3, z3, e4, z4, e5, z5, z10, z00]
    exact hQ
  have z5 : iB (sayP t g 5) = 0 := iB_f h5
  by_cases h6 : sayP t g 6
  · rw [iB_t (kepP_t (by omega) h6)] at hQ
    have z6 : iB (sayP t g 6) = 1 := iB_t h6
    simp only [↓br_pos, ↓br_neg, ↓rF_I, ↓rF_L, ↓rF_R, ↓rF_N, rO_m, rB_m, ↓rI_m, wI_m, ↓rB2_m, ↓rB3_m, wB2_m, wB3_m, ↓rL_m, wL_m, ↓rQ_m, wQ_m, ↓lI_m, pI_m, pL_m, pR_m, sI_m, sBy_m, sBo_m, sL_m, sQ_m, fst_m, true_and, and_true, tg_some, ln_some, uI_1, uI_2, uL_1, uL_2, uL_3, uQ_1, uQ_2, uQ_3, rv_i, rv_l, rv_n, rv_b0, rv_b1, RMR, ne_eq, reduceCtorEq, not_false_eq_true, Option.getD_some, if_true, if_false, and_self, false_and, and_false, Nat.add_left_cancel_iff, Nat.add_eq_left, Nat.left_eq_add, Nat.one_ne_zero, Nat.reduceAdd, Nat.reduceLT, Nat.reduceLeDiff, Nat.reduceEqDiff, true_implies, false_implies, implies_true, Option.some.injEq, forall_eq', forall_eq, reduceCtorEq, brT, brF, br_s, i_10, i_01, ib_0_2, ib_1_2, tn_0, tn_1, Int32.le_refl, eq_self, rv_bN, rv_iM, RCM 81, RLY, lit_at hw, e0, z0, e1, z1, e2, z2, e3, z3, e4, z4, e5, z5, e6, z6, z10, z00]
    exact hQ
  have z6 : iB (sayP t g 6) = 0 := iB_f h6
  by_cases h7 : sayP t g 7
  · rw [iB_t (kepP_t (by omega) h7)] at hQ
    have z7 : iB (sayP t g 7) = 1 := iB_t h7
    simp only [↓br_pos, ↓br_neg, ↓rF_I, ↓rF_L, ↓rF_R, ↓rF_N, rO_m, rB_m, ↓rI_m, wI_m, ↓rB2_m, ↓rB3_m, wB2_m, wB3_m, ↓rL_m, wL_m, ↓rQ_m, wQ_m, ↓lI_m, pI_m, pL_m, pR_m, sI_m, sBy_m, sBo_m, sL_m, sQ_m, fst_m, true_and, and_true, tg_some, ln_some, uI_1, uI_2, uL_1, uL_2, uL_3, uQ_1, uQ_2, uQ_3, rv_i, rv_l, rv_n, rv_b0, rv_b1, RMR, ne_eq, reduceCtorEq, not_false_eq_true, Option.getD_some, if_true, if_false, and_self, false_and, and_false, Nat.add_left_cancel_iff, Nat.add_eq_left, Nat.left_eq_add, Nat.one_ne_zero, Nat.reduceAdd, Nat.reduceLT, Nat.reduceLeDiff, Nat.reduceEqDiff, true_implies, false_implies, implies_true, Option.some.injEq, forall_eq', forall_eq, reduceCtorEq, brT, brF, br_s, i_10, i_01, ib_0_2, ib_1_2, tn_0, tn_1, Int32.le_refl, eq_self, rv_bN, rv_iM, RCM 81, RLY, lit_at hw, e0, z0, e1, z1, e2, z2, e3, z3, e4, z4, e5, z5, e6, z6, e7, z7, z10, z00]
    exact hQ
  have z7 : iB (sayP t g 7) = 0 := iB_f h7
  by_cases h8 : sayP t g 8
  · rw [iB_t (kepP_t (by omega) h8)] at hQ
    have z8 : iB (sayP t g 8) = 1 := iB_t h8
    simp only [↓br_pos, ↓br_neg, ↓rF_I, ↓rF_L, ↓rF_R, ↓rF_N, rO_m, rB_m, ↓rI_m, wI_m, ↓rB2_m, ↓rB3_m, wB2_m, wB3_m, ↓rL_m, wL_m, ↓rQ_m, wQ_m, ↓lI_m, pI_m, pL_m, pR_m, sI_m, sBy_m, sBo_m, sL_m, sQ_m, fst_m, true_and, and_true, tg_some, ln_some, uI_1, uI_2, uL_1, uL_2, uL_3, uQ_1, uQ_2, uQ_3, rv_i, rv_l, rv_n, rv_b0, rv_b1, RMR, ne_eq, reduceCtorEq, not_false_eq_true, Option.getD_some, if_true, if_false, and_self, false_and, and_false, Nat.add_left_cancel_iff, Nat.add_eq_left, Nat.left_eq_add, Nat.one_ne_zero, Nat.reduceAdd, Nat.reduceLT, Nat.reduceLeDiff, Nat.reduceEqDiff, true_implies, false_implies, implies_true, Option.some.injEq, forall_eq', forall_eq, reduceCtorEq, brT, brF, br_s, i_10, i_01, ib_0_2, ib_1_2, tn_0, tn_1, Int32.le_refl, eq_self, rv_bN, rv_iM, RCM 81, RLY, lit_at hw, e0, z0, e1, z1, e2, z2, e3, z3, e4, z4, e5, z5, e6, z6, e7, z7, e8, z8, z10, z00]
    exact hQ
  have z8 : iB (sayP t g 8) = 0 := iB_f h8
  by_cases h9 : sayP t g 9
  · rw [iB_t (kepP_t (by omega) h9)] at hQ
    have z9 : iB (sayP t g 9) = 1 := iB_t h9
    simp only [↓br_pos, ↓br_neg, ↓rF_I, ↓rF_L, ↓rF_R, ↓rF_N, rO_m, rB_m, ↓rI_m, wI_m, ↓rB2_m, ↓rB3_m, wB2_m, wB3_m, ↓rL_m, wL_m, ↓rQ_m, wQ_m, ↓lI_m, pI_m, pL_m, pR_m, sI_m, sBy_m, sBo_m, sL_m, sQ_m, fst_m, true_and, and_true, tg_some, ln_some, uI_1, uI_2, uL_1, uL_2, uL_3, uQ_1, uQ_2, uQ_3, rv_i, rv_l, rv_n, rv_b0, rv_b1, RMR, ne_eq, reduceCtorEq, not_false_eq_true, Option.getD_some, if_true, if_false, and_self, false_and, and_false, Nat.add_left_cancel_iff, Nat.add_eq_left, Nat.left_eq_add, Nat.one_ne_zero, Nat.reduceAdd, Nat.reduceLT, Nat.reduceLeDiff, Nat.reduceEqDiff, true_implies, false_implies, implies_true, Option.some.injEq, forall_eq', forall_eq, reduceCtorEq, brT, brF, br_s, i_10, i_01, ib_0_2, ib_1_2, tn_0, tn_1, Int32.le_refl, eq_self, rv_bN, rv_iM, RCM 81, RLY, lit_at hw, e0, z0, e1, z1, e2, z2, e3, z3, e4, z4, e5, z5, e6, z6, e7, z7, e8, z8, e9, z9, z10, z00]
    exact hQ
  have z9 : iB (sayP t g 9) = 0 := iB_f h9
  by_cases h10 : sayP t g 10
  · rw [iB_t (kepP_t (by omega) h10)] at hQ
    have z10 : iB (sayP t g 10) = 1 := iB_t h10
    simp only [↓br_pos, ↓br_neg, ↓rF_I, ↓rF_L, ↓rF_R, ↓rF_N, rO_m, rB_m, ↓rI_m, wI_m, ↓rB2_m, ↓rB3_m, wB2_m, wB3_m, ↓rL_m, wL_m, ↓rQ_m, wQ_m, ↓lI_m, pI_m, pL_m, pR_m, sI_m, sBy_m, sBo_m, sL_m, sQ_m, fst_m, true_and, and_true, tg_some, ln_some, uI_1, uI_2, uL_1, uL_2, uL_3, uQ_1, uQ_2, uQ_3, rv_i, rv_l, rv_n, rv_b0, rv_b1, RMR, ne_eq, reduceCtorEq, not_false_eq_true, Option.getD_some, if_true, if_false, and_self, false_and, and_false, Nat.add_left_cancel_iff, Nat.add_eq_left, Nat.left_eq_add, Nat.one_ne_zero, Nat.reduceAdd, Nat.reduceLT, Nat.reduceLeDiff, Nat.reduceEqDiff, true_implies, false_implies, implies_true, Option.some.injEq, forall_eq', forall_eq, reduceCtorEq, brT, brF, br_s, i_10, i_01, ib_0_2, ib_1_2, tn_0, tn_1, Int32.le_refl, eq_self, rv_bN, rv_iM, RCM 81, RLY, lit_at hw, e0, z0, e1, z1, e2, z2, e3, z3, e4, z4, e5, z5, e6, z6, e7, z7, e8, z8, e9, z9, e10, z10, z10, z00]
    exact hQ
  have z10 : iB (sayP t g 10) = 0 := iB_f h10
  by_cases h11 : sayP t g 11
  · rw [iB_t (kepP_t (by omega) h11)] at hQ
    have z11 : iB (sayP t g 11) = 1 := iB_t h11
    simp only [↓br_pos, ↓br_neg, ↓rF_I, ↓rF_L, ↓rF_R, ↓rF_N, rO_m, rB_m, ↓rI_m, wI_m, ↓rB2_m, ↓rB3_m, wB2_m, wB3_m, ↓rL_m, wL_m, ↓rQ_m, wQ_m, ↓lI_m, pI_m, pL_m, pR_m, sI_m, sBy_m, sBo_m, sL_m, sQ_m, fst_m, true_and, and_true, tg_some, ln_some, uI_1, uI_2, uL_1, uL_2, uL_3, uQ_1, uQ_2, uQ_3, rv_i, rv_l, rv_n, rv_b0, rv_b1, RMR, ne_eq, reduceCtorEq, not_false_eq_true, Option.getD_some, if_true, if_false, and_self, false_and, and_false, Nat.add_left_cancel_iff, Nat.add_eq_left, Nat.left_eq_add, Nat.one_ne_zero, Nat.reduceAdd, Nat.reduceLT, Nat.reduceLeDiff, Nat.reduceEqDiff, true_implies, false_implies, implies_true, Option.some.injEq, forall_eq', forall_eq, reduceCtorEq, brT, brF, br_s, i_10, i_01, ib_0_2, ib_1_2, tn_0, tn_1, Int32.le_refl, eq_self, rv_bN, rv_iM, RCM 81, RLY, lit_at hw, e0, z0, e1, z1, e2, z2, e3, z3, e4, z4, e5, z5, e6, z6, e7, z7, e8, z8, e9, z9, e10, z10, e11, z11, z10, z00]
    exact hQ
  have z11 : iB (sayP t g 11) = 0 := iB_f h11
  by_cases h12 : sayP t g 12
  · rw [iB_t (kepP_t (by omega) h12)] at hQ
    have z12 : iB (sayP t g 12) = 1 := iB_t h12
    simp only [↓br_pos, ↓br_neg, ↓rF_I, ↓rF_L, ↓rF_R, ↓rF_N, rO_m, rB_m, ↓rI_m, wI_m, ↓rB2_m, ↓rB3_m, wB2_m, wB3_m, ↓rL_m, wL_m, ↓rQ_m, wQ_m, ↓lI_m, pI_m, pL_m, pR_m, sI_m, sBy_m, sBo_m, sL_m, sQ_m, fst_m, true_and, and_true, tg_some, ln_some, uI_1, uI_2, uL_1, uL_2, uL_3, uQ_1, uQ_2, uQ_3, rv_i, rv_l, rv_n, rv_b0, rv_b1, RMR, ne_eq, reduceCtorEq, not_false_eq_true, Option.getD_some, if_true, if_false, and_self, false_and, and_false, Nat.add_left_cancel_iff, Nat.add_eq_left, Nat.left_eq_add, Nat.one_ne_zero, Nat.reduceAdd, Nat.reduceLT, Nat.reduceLeDiff, Nat.reduceEqDiff, true_implies, false_implies, implies_true, Option.some.injEq, forall_eq', forall_eq, reduceCtorEq, brT, brF, br_s, i_10, i_01, ib_0_2, ib_1_2, tn_0, tn_1, Int32.le_refl, eq_self, rv_bN, rv_iM, RCM 81, RLY, lit_at hw, e0, z0, e1, z1, e2, z2, e3, z3, e4, z4, e5, z5, e6, z6, e7, z7, e8, z8, e9, z9, e10, z10, e11, z11, e12, z12, z10, z00]
    exact hQ
  have z12 : iB (sayP t g 12) = 0 := iB_f h12
  have nk : ¬ kepP t g = true := fun q => by
    unfold kepP at q
    rw [List.any_eq_true] at q
    obtain ⟨i, hi, q⟩ := q
    have hi := List.mem_range.mp hi
    have q := of_decide_eq_true q
    have c : i = 0 ∨ i = 1 ∨ i = 2 ∨ i = 3 ∨ i = 4 ∨ i = 5 ∨ i = 6 ∨ i = 7 ∨ i = 8 ∨ i = 9 ∨ i = 10 ∨ i = 11 ∨ i = 12 := by omega
    rcases c with rfl | rfl | rfl | rfl | rfl | rfl | rfl | rfl | rfl | rfl | rfl | rfl | rfl
    · exact h0 q
    · exact h1 q
    · exact h2 q
    · exact h3 q
    · exact h4 q
    · exact h5 q
    · exact h6 q
    · exact h7 q
    · exact h8 q
    · exact h9 q
    · exact h10 q
    · exact h11 q
    · exact h12 q
  rw [iB_f nk] at hQ
  simp only [↓br_pos, ↓br_neg, ↓rF_I, ↓rF_L, ↓rF_R, ↓rF_N, rO_m, rB_m, ↓rI_m, wI_m, ↓rB2_m, ↓rB3_m, wB2_m, wB3_m, ↓rL_m, wL_m, ↓rQ_m, wQ_m, ↓lI_m, pI_m, pL_m, pR_m, sI_m, sBy_m, sBo_m, sL_m, sQ_m, fst_m, true_and, and_true, tg_some, ln_some, uI_1, uI_2, uL_1, uL_2, uL_3, uQ_1, uQ_2, uQ_3, rv_i, rv_l, rv_n, rv_b0, rv_b1, RMR, ne_eq, reduceCtorEq, not_false_eq_true, Option.getD_some, if_true, if_false, and_self, false_and, and_false, Nat.add_left_cancel_iff, Nat.add_eq_left, Nat.left_eq_add, Nat.one_ne_zero, Nat.reduceAdd, Nat.reduceLT, Nat.reduceLeDiff, Nat.reduceEqDiff, true_implies, false_implies, implies_true, Option.some.injEq, forall_eq', forall_eq, reduceCtorEq, brT, brF, br_s, i_10, i_01, ib_0_2, ib_1_2, tn_0, tn_1, Int32.le_refl, eq_self, rv_bN, rv_iM, RCM 81, RLY, lit_at hw, e0, z0, e1, z1, e2, z2, e3, z3, e4, z4, e5, z5, e6, z6, e7, z7, e8, z8, e9, z9, e10, z10, e11, z11, e12, z12, z00]
  exact hQ
theorem g_136 {w : mT} {σ : mS} {s a : Nat} {x : Int32} {D : Nat} {K : Int32 → Hp → Prop} (hw : lit w) (h9 : σ.1 81 9 = 0) (h4 : σ.1 81 4 = Int32.ofNat s) (hx : x = Int32.ofNat a) (hD : 1 ≤ D) : wpI D 136 [.ref 81, .int x] (mW w σ) K ↔ K 0 (mW w (uI σ 81 9 (Int32.ofNat (8 * s + a)))) := by
  subst hx
  refine cI_of (m := 0) (fun d hd Q hQ => ?_) rfl hD
  refine b136_0 ?_
  simp only [↓br_pos, ↓br_neg, ↓rF_I, ↓rF_L, ↓rF_R, ↓rF_N, rO_m, rB_m, ↓rI_m, wI_m, ↓rB2_m, ↓rB3_m, wB2_m, wB3_m, ↓rL_m, wL_m, ↓rQ_m, wQ_m, ↓lI_m, pI_m, pL_m, pR_m, sI_m, sBy_m, sBo_m, sL_m, sQ_m, fst_m, true_and, and_true, tg_some, ln_some, uI_1, uI_2, uL_1, uL_2, uL_3, uQ_1, uQ_2, uQ_3, rv_i, rv_l, rv_n, rv_b0, rv_b1, RMR, ne_eq, reduceCtorEq, not_false_eq_true, Option.getD_some, if_true, if_false, and_self, false_and, and_false, Nat.add_left_cancel_iff, Nat.add_eq_left, Nat.left_eq_add, Nat.one_ne_zero, Nat.reduceAdd, Nat.reduceLT, Nat.reduceLeDiff, Nat.reduceEqDiff, true_implies, false_implies, implies_true, Option.some.injEq, forall_eq', forall_eq, reduceCtorEq, brT, brF, br_s, i_10, i_01, ib_0_2, ib_1_2, tn_0, tn_1, Int32.le_refl, eq_self, rv_bN, rv_iM, RCM 81, RLY, lit_at hw, h9, h4, z00, f8_of]
  exact hQ
/-- a number -/
def numF (t : Nat → Nat) (g : Rw) (low high : Int32) : Nat := if g 2 ≠ 2 then 8 * g 0 + 1 else if numV t g < low ∨ high < numV t g then 8 * g 0 + 3 else 0
theorem o_137 {w : mT} {σ : mS} {t : Nat → Nat} {n : Nat} {g : Rw} {low high : Int32} (hw : lit w) (ht : ∀ i, t i < 256) (hG : mG σ t n g) (hv : vG n g) (h0 : g 3 = 0) : ∃ σ', f8 σ σ' ∧ (numF t g low high ≠ 0 → σ'.1 81 9 = Int32.ofNat (numF t g low high)) ∧ (numF t g low high = 0 → mG σ' t n (adv t n g) ∧ σ'.1 81 10 = numV t g) ∧ ∀ {D : Nat} {K : Int32 → Hp → Prop}, 3 ≤ D → (wpI D 137 [.ref 81, .int low, .int high] (mW w σ) K ↔ K (if numF t g low high = 0 then 1 else 0) (mW w σ')) := by
  have hG' := hG
  obtain ⟨hB, h4, h5, h6, h7, h8, h9, h14, h13⟩ := hG
  have h90 : σ.1 81 9 = 0 := by rw [h9, h0]; rfl
  have k4 := hv.2.2.2
  unfold numF
  by_cases c : g 2 = 2
  · have c1 : (Int32.ofNat (g 2) = (2 : Int32)) ↔ True := iff_true_intro (by rw [c]; rfl)
    rw [if_neg (fun q => q c)]
    have e7 := h7 c
    have vi : vin (Int32.toInt64 (numV t g)) (Int32.toInt64 low) (Int32.toInt64 high) = iB (¬ (numV t g < low ∨ high < numV t g)) := by
      rw [vin_eq, Int32.toInt_toInt64, Int32.toInt_toInt64, Int32.toInt_toInt64]
      exact iB_c (by rw [i_lt, i_lt]; omega)
    by_cases y : numV t g < low ∨ high < numV t g
    · rw [if_pos y]
      have n0 : ¬ (8 * g 0 + 3 = 0) := by omega
      refine ⟨uI σ 81 9 (Int32.ofNat (8 * g 0 + 3)), f8_I (by omega), fun _ => by rw [uI_1, if_pos ⟨rfl, rfl⟩], fun q => absurd q n0, fun hD => cI_of (m := 2) (fun d hd Q hQ => ?_) rfl hD⟩
      have hd1 : 1 ≤ d := by omega
      rw [if_neg n0] at hQ
      refine b137_0 ?_
      simp only [↓br_pos, ↓br_neg, ↓rF_I, ↓rF_L, ↓rF_R, ↓rF_N, rO_m, rB_m, ↓rI_m, wI_m, ↓rB2_m, ↓rB3_m, wB2_m, wB3_m, ↓rL_m, wL_m, ↓rQ_m, wQ_m, ↓lI_m, pI_m, pL_m, pR_m, sI_m, sBy_m, sBo_m, sL_m, sQ_m, fst_m, true_and, and_true, tg_some, ln_some, uI_1, uI_2, uL_1, uL_2, uL_3, uQ_1, uQ_2, uQ_3, rv_i, rv_l, rv_n, rv_b0, rv_b1, RMR, ne_eq, reduceCtorEq, not_false_eq_true, Option.getD_some, if_true, if_false, and_self, false_and, and_false, Nat.add_left_cancel_iff, Nat.add_eq_left, Nat.left_eq_add, Nat.one_ne_zero, Nat.reduceAdd, Nat.reduceLT, Nat.reduceLeDiff, Nat.reduceEqDiff, true_implies, false_implies, implies_true, Option.some.injEq, forall_eq', forall_eq, reduceCtorEq, brT, brF, br_s, i_10, i_01, ib_0_2, ib_1_2, tn_0, tn_1, Int32.le_refl, eq_self, rv_bN, rv_iM, RCM 81, RLY, lit_at hw, h6, c1, e7, g_129 hd1, vi, iB_f (fun q : ¬ (numV t g < low ∨ high < numV t g) => q y), z00, g_136 (a := 3) (x := 3) hw h90 h4 rfl hd1]
      exact hQ
    · rw [if_neg y]
      obtain ⟨σ', f', G', q'⟩ := o_133g hw ht (mG_10 (x := numV t g) hG') hv
      refine ⟨σ', f8_tr (f8_I (by omega)) (f8_G f'), fun q => absurd rfl q, fun _ => ⟨G', by rw [f'.2.1 10 (by omega), uI_1, if_pos ⟨rfl, rfl⟩]⟩, fun hD => cI_of (m := 2) (fun d hd Q hQ => ?_) rfl hD⟩
      have hd1 : 1 ≤ d := by omega
      rw [if_pos rfl] at hQ
      refine b137_0 ?_
      simp only [↓br_pos, ↓br_neg, ↓rF_I, ↓rF_L, ↓rF_R, ↓rF_N, rO_m, rB_m, ↓rI_m, wI_m, ↓rB2_m, ↓rB3_m, wB2_m, wB3_m, ↓rL_m, wL_m, ↓rQ_m, wQ_m, ↓lI_m, pI_m, pL_m, pR_m, sI_m, sBy_m, sBo_m, sL_m, sQ_m, fst_m, true_and, and_true, tg_some, ln_some, uI_1, uI_2, uL_1, uL_2, uL_3, uQ_1, uQ_2, uQ_3, rv_i, rv_l, rv_n, rv_b0, rv_b1, RMR, ne_eq, reduceCtorEq, not_false_eq_true, Option.getD_some, if_true, if_false, and_self, false_and, and_false, Nat.add_left_cancel_iff, Nat.add_eq_left, Nat.left_eq_add, Nat.one_ne_zero, Nat.reduceAdd, Nat.reduceLT, Nat.reduceLeDiff, Nat.reduceEqDiff, true_implies, false_implies, implies_true, Option.some.injEq, forall_eq', forall_eq, reduceCtorEq, brT, brF, br_s, i_10, i_01, ib_0_2, ib_1_2, tn_0, tn_1, Int32.le_refl, eq_self, rv_bN, rv_iM, RCM 81, RLY, lit_at hw, h6, c1, e7, g_129 hd1, vi, iB_t (show ¬ (numV t g < low ∨ high < numV t g) from y), z10, q' hd]
      exact hQ
  · have c1 : (Int32.ofNat (g 2) = (2 : Int32)) ↔ False := iff_false_intro (fun q => c ((of_inj (b := 2) (by omega) (by omega)).mp q))
    rw [if_pos c]
    have n0 : ¬ (8 * g 0 + 1 = 0) := by omega
    refine ⟨uI σ 81 9 (Int32.ofNat (8 * g 0 + 1)), f8_I (by omega), fun _ => by rw [uI_1, if_pos ⟨rfl, rfl⟩], fun q => absurd q n0, fun hD => cI_of (m := 2) (fun d hd Q hQ => ?_) rfl hD⟩
    have hd1 : 1 ≤ d := by omega
    rw [if_neg n0] at hQ
    refine b137_0 ?_
    simp only [↓br_pos, ↓br_neg, ↓rF_I, ↓rF_L, ↓rF_R, ↓rF_N, rO_m, rB_m, ↓rI_m, wI_m, ↓rB2_m, ↓rB3_m, wB2_m, wB3_m, ↓rL_m, wL_m, ↓rQ_m, wQ_m, ↓lI_m, pI_m, pL_m, pR_m, sI_m, sBy_m, sBo_m, sL_m, sQ_m, fst_m, true_and, and_true, tg_some, ln_some, uI_1, uI_2, uL_1, uL_2, uL_3, uQ_1, uQ_2, uQ_3, rv_i, rv_l, rv_n, rv_b0, rv_b1, RMR, ne_eq, reduceCtorEq, not_false_eq_true, Option.getD_some, if_true, if_false, and_self, false_and, and_false, Nat.add_left_cancel_iff, Nat.add_eq_left, Nat.left_eq_add, Nat.one_ne_zero, Nat.reduceAdd, Nat.reduceLT, Nat.reduceLeDiff, Nat.reduceEqDiff, true_implies, false_implies, implies_true, Option.some.injEq, forall_eq', forall_eq, reduceCtorEq, brT, brF, br_s, i_10, i_01, ib_0_2, ib_1_2, tn_0, tn_1, Int32.le_refl, eq_self, rv_bN, rv_iM, RCM 81, RLY, lit_at hw, h6, c1, g_136 (a := 1) (x := 1) hw h90 h4 rfl hd1]
    exact hQ
/-- a number behind a word -/
theorem o_138 {w : mT} {σ : mS} {t : Nat → Nat} {n i : Nat} {g : Rw} {x low high : Int32} (hw : lit w) (ht : ∀ i, t i < 256) (hG : mG σ t n g) (hv : vG n g) (h0 : g 3 = 0) (hi : i < 13) (hx : x = WC i) : ∃ σ', f8 σ σ' ∧ (toldF t n g i low high ≠ 0 → σ'.1 81 9 = Int32.ofNat (toldF t n g i low high)) ∧ (toldF t n g i low high = 0 → mG σ' t n (gTd t n g) ∧ σ'.1 81 10 = numV t (adv t n g)) ∧ ∀ {D : Nat} {K : Int32 → Hp → Prop}, 4 ≤ D → (wpI D 138 [.ref 81, .int x, .int low, .int high] (mW w σ) K ↔ K (if toldF t n g i low high = 0 then 1 else 0) (mW w σ')) := by
  have h90 : σ.1 81 9 = 0 := by rw [hG.2.2.2.2.2.2.1, h0]; rfl
  unfold toldF
  by_cases y : sayP t g i
  · rw [if_neg (fun q => q y)]
    obtain ⟨σ1, f1, G1, q1⟩ := o_133g hw ht hG hv
    obtain ⟨σ2, f2, F2, G2, q2⟩ := o_137 (low := low) (high := high) hw ht G1 (vG_adv hv) (by rw [adv_g (by omega)]; exact h0)
    refine ⟨σ2, f8_tr (f8_G f1) f2, F2, G2, fun hD => cI_of (m := 3) (fun d hd Q hQ => ?_) rfl hD⟩
    have hd1 : 1 ≤ d := by omega
    have hd2 : 2 ≤ d := by omega
    refine b138_0 ?_
    simp only [↓br_pos, ↓br_neg, ↓rF_I, ↓rF_L, ↓rF_R, ↓rF_N, rO_m, rB_m, ↓rI_m, wI_m, ↓rB2_m, ↓rB3_m, wB2_m, wB3_m, ↓rL_m, wL_m, ↓rQ_m, wQ_m, ↓lI_m, pI_m, pL_m, pR_m, sI_m, sBy_m, sBo_m, sL_m, sQ_m, fst_m, true_and, and_true, tg_some, ln_some, uI_1, uI_2, uL_1, uL_2, uL_3, uQ_1, uQ_2, uQ_3, rv_i, rv_l, rv_n, rv_b0, rv_b1, RMR, ne_eq, reduceCtorEq, not_false_eq_true, Option.getD_some, if_true, if_false, and_self, false_and, and_false, Nat.add_left_cancel_iff, Nat.add_eq_left, Nat.left_eq_add, Nat.one_ne_zero, Nat.reduceAdd, Nat.reduceLT, Nat.reduceLeDiff, Nat.reduceEqDiff, true_implies, false_implies, implies_true, Option.some.injEq, forall_eq', forall_eq, reduceCtorEq, brT, brF, br_s, i_10, i_01, ib_0_2, ib_1_2, tn_0, tn_1, Int32.le_refl, eq_self, rv_bN, rv_iM, RCM 81, RLY, lit_at hw, g_134 hw hG hv hi hx hd1, iB_t y, z10, q1 hd2, q2 hd]
    exact ⟨by split <;> rfl, hQ⟩
  · rw [if_pos y]
    have n0 : ¬ (8 * g 0 + 1 = 0) := by omega
    refine ⟨uI σ 81 9 (Int32.ofNat (8 * g 0 + 1)), f8_I (by omega), fun _ => by rw [uI_1, if_pos ⟨rfl, rfl⟩], fun q => absurd q n0, fun hD => cI_of (m := 3) (fun d hd Q hQ => ?_) rfl hD⟩
    have hd1 : 1 ≤ d := by omega
    rw [if_neg n0] at hQ
    refine b138_0 ?_
    simp only [↓br_pos, ↓br_neg, ↓rF_I, ↓rF_L, ↓rF_R, ↓rF_N, rO_m, rB_m, ↓rI_m, wI_m, ↓rB2_m, ↓rB3_m, wB2_m, wB3_m, ↓rL_m, wL_m, ↓rQ_m, wQ_m, ↓lI_m, pI_m, pL_m, pR_m, sI_m, sBy_m, sBo_m, sL_m, sQ_m, fst_m, true_and, and_true, tg_some, ln_some, uI_1, uI_2, uL_1, uL_2, uL_3, uQ_1, uQ_2, uQ_3, rv_i, rv_l, rv_n, rv_b0, rv_b1, RMR, ne_eq, reduceCtorEq, not_false_eq_true, Option.getD_some, if_true, if_false, and_self, false_and, and_false, Nat.add_left_cancel_iff, Nat.add_eq_left, Nat.left_eq_add, Nat.one_ne_zero, Nat.reduceAdd, Nat.reduceLT, Nat.reduceLeDiff, Nat.reduceEqDiff, true_implies, false_implies, implies_true, Option.some.injEq, forall_eq', forall_eq, reduceCtorEq, brT, brF, br_s, i_10, i_01, ib_0_2, ib_1_2, tn_0, tn_1, Int32.le_refl, eq_self, rv_bN, rv_iM, RCM 81, RLY, lit_at hw, g_134 hw hG hv hi hx hd1, iB_f y, z00, g_136 (a := 1) (x := 1) hw h90 hG.2.1 rfl hd1]
    exact hQ
/-- names: as the class's, and as the model's -/
def nmR (σ : mS) (t : Nat → Nat) (k : Nat) (nm : Nat → Int32) : Prop := ∀ i, i < k → ∃ s l, l ≤ 6 ∧ ltG t s l ∧ nm i = ncI t s l ∧ σ.1 84 (79 + i) = mcI t s l
theorem nmR_c {σ σ' : mS} {t : Nat → Nat} {k : Nat} {nm : Nat → Int32} (h : nmR σ t k nm) (e : ∀ i, i < k → σ'.1 84 (79 + i) = σ.1 84 (79 + i)) : nmR σ' t k nm := fun i hi => by
  obtain ⟨s, l, a, b, c, q⟩ := h i hi
  exact ⟨s, l, a, b, c, by rw [e i hi]; exact q⟩
theorem dup_t {nm : Nat → Int32} {k : Nat} {c : Int32} (h : ∃ i, i < k ∧ nm i = c) : dupP nm k c = true := by
  obtain ⟨i, a, b⟩ := h
  unfold dupP
  rw [List.any_eq_true]
  exact ⟨i, List.mem_range.mpr a, decide_eq_true b⟩
theorem ad_79 {p : Nat} : (79 : Int32) + Int32.ofNat p = Int32.ofNat (79 + p) := of_add (a := 79)
theorem lp_139 {w : mT} {σ : mS} {t : Nat → Nat} {n d : Nat} {g : Rw} {nm : Nat → Int32} {Q : Option (Option Value) → Hp → Prop} (hw : lit w) (hG : mG σ t n g) (h50 : g 5 ≤ 22) (hk : g 2 = 1) (h6 : g 1 - g 0 ≤ 6) (hN : nmR σ t (g 5) nm) (hd : 1 ≤ d) (h0 : g 3 = 0) (hy : (∃ i, i < g 5 ∧ nm i = cdN t g) → Q (some (some (.int 0))) (mW w (uI σ 81 9 (Int32.ofNat (8 * g 0 + 2))))) (hn : dupP nm (g 5) (cdN t g) = false → wpV d 133 [.ref 81] (mW w (uI (uI σ 84 (79 + g 5) (mcI t (g 0) (g 1 - g 0))) 81 13 (Int32.ofNat (g 5 + 1)))) (fun h6 => Q (some (some (.int (1 : Int32)))) h6)) (hdup : dupP nm (g 5) (cdN t g) = false ∨ ∃ i, i < g 5 ∧ nm i = cdN t g) : ∀ (r i : Nat), i + r = g 5 → (∀ j, j < i → nm j ≠ cdN t g) → Wp 139 31 [.ref 81, .int (Int32.ofNat i)] [] (mW w σ) Q d := by
  obtain ⟨hB, h4, h5, h6', h7, h8, h9, h14, h13⟩ := hG
  obtain ⟨e8, hL⟩ := h8 hk
  have h90 : σ.1 81 9 = 0 := by rw [h9, h0]; rfl
  have w8 : σ.1 81 8 = mcI t (g 0) (g 1 - g 0) := by rw [e8]; unfold wM; rw [if_pos h6]
  intro r
  induction r with
  | zero =>
    intro i hi hne
    have hi' : i = g 5 := by omega
    subst hi'
    have dn : dupP nm (g 5) (cdN t g) = false := hdup.resolve_right (fun q => by
      obtain ⟨j, j1, j2⟩ := q
      exact hne j j1 j2)
    refine b139_31 ?_
    simp only [↓br_pos, ↓br_neg, ↓rF_I, ↓rF_L, ↓rF_R, ↓rF_N, rO_m, rB_m, ↓rI_m, wI_m, ↓rB2_m, ↓rB3_m, wB2_m, wB3_m, ↓rL_m, wL_m, ↓rQ_m, wQ_m, ↓lI_m, pI_m, pL_m, pR_m, sI_m, sBy_m, sBo_m, sL_m, sQ_m, fst_m, true_and, and_true, tg_some, ln_some, uI_1, uI_2, uL_1, uL_2, uL_3, uQ_1, uQ_2, uQ_3, rv_i, rv_l, rv_n, rv_b0, rv_b1, RMR, ne_eq, reduceCtorEq, not_false_eq_true, Option.getD_some, if_true, if_false, and_self, false_and, and_false, Nat.add_left_cancel_iff, Nat.add_eq_left, Nat.left_eq_add, Nat.one_ne_zero, Nat.reduceAdd, Nat.reduceLT, Nat.reduceLeDiff, Nat.reduceEqDiff, true_implies, false_implies, implies_true, Option.some.injEq, forall_eq', forall_eq, reduceCtorEq, brT, brF, br_s, i_10, i_01, ib_0_2, ib_1_2, tn_0, tn_1, Int32.le_refl, eq_self, rv_bN, rv_iM, RCM 81, RLY, lit_at hw, h13, Int32.le_refl, w8, ad_79, ix (by omega : 79 + g 5 < 102) (by omega), on_succ]
    exact hn dn
  | succ r ih =>
    intro i hi hne
    have l1 : (Int32.ofNat (g 5) ≤ Int32.ofNat i) ↔ False := iff_false_intro (fun q => absurd ((on_le (by omega) (by omega)).mp q) (by omega))
    obtain ⟨s, l, a, b, c, e⟩ := hN i (by omega)
    have iff := nm_iff b hL a h6
    refine b139_31 ?_
    by_cases y : nm i = cdN t g
    · have c1 : (mcI t s l = mcI t (g 0) (g 1 - g 0)) ↔ True := iff_true_intro (iff.mp (by rw [← c]; exact y))
      simp only [↓br_pos, ↓br_neg, ↓rF_I, ↓rF_L, ↓rF_R, ↓rF_N, rO_m, rB_m, ↓rI_m, wI_m, ↓rB2_m, ↓rB3_m, wB2_m, wB3_m, ↓rL_m, wL_m, ↓rQ_m, wQ_m, ↓lI_m, pI_m, pL_m, pR_m, sI_m, sBy_m, sBo_m, sL_m, sQ_m, fst_m, true_and, and_true, tg_some, ln_some, uI_1, uI_2, uL_1, uL_2, uL_3, uQ_1, uQ_2, uQ_3, rv_i, rv_l, rv_n, rv_b0, rv_b1, RMR, ne_eq, reduceCtorEq, not_false_eq_true, Option.getD_some, if_true, if_false, and_self, false_and, and_false, Nat.add_left_cancel_iff, Nat.add_eq_left, Nat.left_eq_add, Nat.one_ne_zero, Nat.reduceAdd, Nat.reduceLT, Nat.reduceLeDiff, Nat.reduceEqDiff, true_implies, false_implies, implies_true, Option.some.injEq, forall_eq', forall_eq, reduceCtorEq, brT, brF, br_s, i_10, i_01, ib_0_2, ib_1_2, tn_0, tn_1, Int32.le_refl, eq_self, rv_bN, rv_iM, RCM 81, RLY, lit_at hw, h13, l1, ad_79, ix (by omega : 79 + i < 102) (by omega), e, w8, c1, g_136 (a := 2) (x := 2) hw h90 h4 rfl hd]
      exact hy ⟨i, by omega, y⟩
    · have c1 : (mcI t s l = mcI t (g 0) (g 1 - g 0)) ↔ False := iff_false_intro (fun q => y (by rw [c]; exact iff.mpr q))
      simp only [↓br_pos, ↓br_neg, ↓rF_I, ↓rF_L, ↓rF_R, ↓rF_N, rO_m, rB_m, ↓rI_m, wI_m, ↓rB2_m, ↓rB3_m, wB2_m, wB3_m, ↓rL_m, wL_m, ↓rQ_m, wQ_m, ↓lI_m, pI_m, pL_m, pR_m, sI_m, sBy_m, sBo_m, sL_m, sQ_m, fst_m, true_and, and_true, tg_some, ln_some, uI_1, uI_2, uL_1, uL_2, uL_3, uQ_1, uQ_2, uQ_3, rv_i, rv_l, rv_n, rv_b0, rv_b1, RMR, ne_eq, reduceCtorEq, not_false_eq_true, Option.getD_some, if_true, if_false, and_self, false_and, and_false, Nat.add_left_cancel_iff, Nat.add_eq_left, Nat.left_eq_add, Nat.one_ne_zero, Nat.reduceAdd, Nat.reduceLT, Nat.reduceLeDiff, Nat.reduceEqDiff, true_implies, false_implies, implies_true, Option.some.injEq, forall_eq', forall_eq, reduceCtorEq, brT, brF, br_s, i_10, i_01, ib_0_2, ib_1_2, tn_0, tn_1, Int32.le_refl, eq_self, rv_bN, rv_iM, RCM 81, RLY, lit_at hw, h13, l1, ad_79, ix (by omega : 79 + i < 102) (by omega), e, w8, c1, on_succ]
      exact ih (i + 1) (by omega) (fun j hj => by
        by_cases x : j = i
        · rw [x]; exact y
        · exact hne j (by omega))
theorem o_139 {w : mT} {σ : mS} {t : Nat → Nat} {n : Nat} {g : Rw} {nm : Nat → Int32} (hw : lit w) (ht : ∀ i, t i < 256) (hG : mG σ t n g) (hv : vG n g) (h0 : g 3 = 0) (h50 : g 5 ≤ 22) (hN : nmR σ t (g 5) nm) : ∃ σ', fQ σ σ' ∧ (∀ j, j < 79 → σ'.1 84 j = σ.1 84 j) ∧ (nameF t g nm ≠ 0 → σ'.1 81 9 = Int32.ofNat (nameF t g nm)) ∧ (nameF t g nm = 0 → mG σ' t n (gNm t n g) ∧ nmR σ' t (g 5 + 1) (nmS nm (g 5) (cdN t g))) ∧ ∀ {D : Nat} {K : Int32 → Hp → Prop}, 3 ≤ D → (wpI D 139 [.ref 81] (mW w σ) K ↔ K (if nameF t g nm = 0 then 1 else 0) (mW w σ')) := by
  have hG' := hG
  obtain ⟨hB, h4, h5, h6, h7, h8, h9, h14, h13⟩ := hG
  have h90 : σ.1 81 9 = 0 := by rw [h9, h0]; rfl
  have k4 := hv.2.2.2
  have bad : ∀ a, a ≠ 0 → nameF t g nm = 8 * g 0 + a → ∃ σ', fQ σ σ' ∧ (∀ j, j < 79 → σ'.1 84 j = σ.1 84 j) ∧ (nameF t g nm ≠ 0 → σ'.1 81 9 = Int32.ofNat (nameF t g nm)) ∧ (nameF t g nm = 0 → mG σ' t n (gNm t n g) ∧ nmR σ' t (g 5 + 1) (nmS nm (g 5) (cdN t g))) ∧ σ' = uI σ 81 9 (Int32.ofNat (8 * g 0 + a)) := fun a ha e => ⟨_, fQ_8 (f8_I (by omega)), fun j _ => by rw [uI_1, if_neg (by omega)], fun _ => by rw [uI_1, if_pos ⟨rfl, rfl⟩, e], fun q => by omega, rfl⟩
  by_cases c : g 2 = 1
  · have c1 : (Int32.ofNat (g 2) = (1 : Int32)) ↔ True := iff_true_intro (by rw [c]; rfl)
    obtain ⟨e8, hL⟩ := h8 c
    have wm := wM_m1 hL
    by_cases y : 6 < g 1 - g 0
    · have e : nameF t g nm = 8 * g 0 + 1 := by unfold nameF; rw [if_pos (Or.inr (Or.inl y))]
      obtain ⟨σ', a1, a2, a3, a4, rfl⟩ := bad 1 (by omega) e
      refine ⟨_, a1, a2, a3, a4, fun hD => cI_of (m := 2) (fun d hd Q hQ => ?_) rfl hD⟩
      have hd1 : 1 ≤ d := by omega
      rw [if_neg (by omega)] at hQ
      have c2 := iff_true_intro (wm.mpr y)
      refine b139_0 ?_
      simp only [↓br_pos, ↓br_neg, ↓rF_I, ↓rF_L, ↓rF_R, ↓rF_N, rO_m, rB_m, ↓rI_m, wI_m, ↓rB2_m, ↓rB3_m, wB2_m, wB3_m, ↓rL_m, wL_m, ↓rQ_m, wQ_m, ↓lI_m, pI_m, pL_m, pR_m, sI_m, sBy_m, sBo_m, sL_m, sQ_m, fst_m, true_and, and_true, tg_some, ln_some, uI_1, uI_2, uL_1, uL_2, uL_3, uQ_1, uQ_2, uQ_3, rv_i, rv_l, rv_n, rv_b0, rv_b1, RMR, ne_eq, reduceCtorEq, not_false_eq_true, Option.getD_some, if_true, if_false, and_self, false_and, and_false, Nat.add_left_cancel_iff, Nat.add_eq_left, Nat.left_eq_add, Nat.one_ne_zero, Nat.reduceAdd, Nat.reduceLT, Nat.reduceLeDiff, Nat.reduceEqDiff, true_implies, false_implies, implies_true, Option.some.injEq, forall_eq', forall_eq, reduceCtorEq, brT, brF, br_s, i_10, i_01, ib_0_2, ib_1_2, tn_0, tn_1, Int32.le_refl, eq_self, rv_bN, rv_iM, RCM 81, RLY, lit_at hw, h6, c1, e8, c2, g_136 (a := 1) (x := 1) hw h90 h4 rfl hd1]
      exact hQ
    · have c2 := iff_false_intro (fun q => y (wm.mp q))
      by_cases z : kepP t g = true
      · have e : nameF t g nm = 8 * g 0 + 1 := by unfold nameF; rw [if_pos (Or.inr (Or.inr z))]
        obtain ⟨σ', a1, a2, a3, a4, rfl⟩ := bad 1 (by omega) e
        refine ⟨_, a1, a2, a3, a4, fun hD => cI_of (m := 2) (fun d hd Q hQ => ?_) rfl hD⟩
        have hd1 : 1 ≤ d := by omega
        rw [if_neg (by omega)] at hQ
        refine b139_0 ?_
        simp only [↓br_pos, ↓br_neg, ↓rF_I, ↓rF_L, ↓rF_R, ↓rF_N, rO_m, rB_m, ↓rI_m, wI_m, ↓rB2_m, ↓rB3_m, wB2_m, wB3_m, ↓rL_m, wL_m, ↓rQ_m, wQ_m, ↓lI_m, pI_m, pL_m, pR_m, sI_m, sBy_m, sBo_m, sL_m, sQ_m, fst_m, true_and, and_true, tg_some, ln_some, uI_1, uI_2, uL_1, uL_2, uL_3, uQ_1, uQ_2, uQ_3, rv_i, rv_l, rv_n, rv_b0, rv_b1, RMR, ne_eq, reduceCtorEq, not_false_eq_true, Option.getD_some, if_true, if_false, and_self, false_and, and_false, Nat.add_left_cancel_iff, Nat.add_eq_left, Nat.left_eq_add, Nat.one_ne_zero, Nat.reduceAdd, Nat.reduceLT, Nat.reduceLeDiff, Nat.reduceEqDiff, true_implies, false_implies, implies_true, Option.some.injEq, forall_eq', forall_eq, reduceCtorEq, brT, brF, br_s, i_10, i_01, ib_0_2, ib_1_2, tn_0, tn_1, Int32.le_refl, eq_self, rv_bN, rv_iM, RCM 81, RLY, lit_at hw, h6, c1, e8, c2, g_135 hw hG' hv hd, iB_t z, z10, g_136 (a := 1) (x := 1) hw h90 h4 rfl hd1]
        exact hQ
      · have nf : ¬ (g 2 ≠ 1 ∨ 6 < g 1 - g 0 ∨ kepP t g = true) := fun q => q.elim (fun q => q c) (fun q => q.elim y z)
        cases u : dupP nm (g 5) (cdN t g) with
        | true =>
          have e : nameF t g nm = 8 * g 0 + 2 := by unfold nameF; rw [if_neg nf, if_pos (show dupP nm (g 5) (ncI t (g 0) (g 1 - g 0)) = true from u)]
          obtain ⟨σ', a1, a2, a3, a4, rfl⟩ := bad 2 (by omega) e
          refine ⟨_, a1, a2, a3, a4, fun hD => cI_of (m := 2) (fun d hd Q hQ => ?_) rfl hD⟩
          have hd1 : 1 ≤ d := by omega
          rw [if_neg (by omega)] at hQ
          have ex : ∃ i, i < g 5 ∧ nm i = cdN t g := by
            unfold dupP at u
            rw [List.any_eq_true] at u
            obtain ⟨i, hi, q⟩ := u
            exact ⟨i, List.mem_range.mp hi, of_decide_eq_true q⟩
          refine b139_0 ?_
          simp only [↓br_pos, ↓br_neg, ↓rF_I, ↓rF_L, ↓rF_R, ↓rF_N, rO_m, rB_m, ↓rI_m, wI_m, ↓rB2_m, ↓rB3_m, wB2_m, wB3_m, ↓rL_m, wL_m, ↓rQ_m, wQ_m, ↓lI_m, pI_m, pL_m, pR_m, sI_m, sBy_m, sBo_m, sL_m, sQ_m, fst_m, true_and, and_true, tg_some, ln_some, uI_1, uI_2, uL_1, uL_2, uL_3, uQ_1, uQ_2, uQ_3, rv_i, rv_l, rv_n, rv_b0, rv_b1, RMR, ne_eq, reduceCtorEq, not_false_eq_true, Option.getD_some, if_true, if_false, and_self, false_and, and_false, Nat.add_left_cancel_iff, Nat.add_eq_left, Nat.left_eq_add, Nat.one_ne_zero, Nat.reduceAdd, Nat.reduceLT, Nat.reduceLeDiff, Nat.reduceEqDiff, true_implies, false_implies, implies_true, Option.some.injEq, forall_eq', forall_eq, reduceCtorEq, brT, brF, br_s, i_10, i_01, ib_0_2, ib_1_2, tn_0, tn_1, Int32.le_refl, eq_self, rv_bN, rv_iM, RCM 81, RLY, lit_at hw, h6, c1, e8, c2, g_135 hw hG' hv hd, iB_f z, z00]
          exact lp_139 hw hG' h50 c (by omega) hN hd1 h0 (fun _ => hQ) (fun q => absurd (u.symm.trans q) (by decide)) (Or.inr ex) (g 5) 0 (by omega) (fun j hj => by omega)
        | false =>
          have e : nameF t g nm = 0 := by unfold nameF; rw [if_neg nf, if_neg (by show ¬ dupP nm (g 5) (cdN t g) = true; rw [u]; decide)]
          rw [e]
          have fD : fQ σ (uI (uI σ 84 (79 + g 5) (mcI t (g 0) (g 1 - g 0))) 81 13 (Int32.ofNat (g 5 + 1))) := fQ_tr fQ_D (fQ_8 (f8_I (by omega)))
          have B2 : mBy (uI (uI σ 84 (79 + g 5) (mcI t (g 0) (g 1 - g 0))) 81 13 (Int32.ofNat (g 5 + 1))) t n := ⟨fun i hi => by rw [uI_o (by omega), uI_o (by omega)]; exact hB.1 i hi, by rw [uI_1, if_neg (by omega), uI_1, if_neg (by omega)]; exact hB.2⟩
          obtain ⟨σ', f', G', q'⟩ := o_133 (g := rSet g 5 (g 5 + 1)) hw ht hv.2.2.1 B2 (by rw [uI_1, if_neg (by omega), uI_1, if_neg (by omega), rS_ne (by omega)]; exact h5) (by rw [uI_1, if_neg (by omega), uI_1, if_neg (by omega), rS_ne (by omega)]; exact h9) (by rw [uI_1, if_neg (by omega), uI_1, if_neg (by omega), rS_ne (by omega)]; exact h14) (by rw [uI_1, if_pos ⟨rfl, rfl⟩, rS_eq]) (by rw [rS_ne (by omega)]; exact hv.2.1)
          have k84 : ∀ j, σ'.1 84 j = if j = 79 + g 5 then mcI t (g 0) (g 1 - g 0) else σ.1 84 j := fun j => by
            rw [f'.1 84 (by omega), uI_1, if_neg (by omega), uI_1]
            by_cases x : j = 79 + g 5
            · rw [if_pos ⟨rfl, x⟩, if_pos x]
            · rw [if_neg (fun q => x q.2), if_neg x]
          refine ⟨σ', fQ_tr fD (fQ_8 (f8_G f')), fun j hj => by rw [k84, if_neg (by omega)], fun q => absurd rfl q, fun _ => ⟨G', fun i hi => ?_⟩, fun hD => cI_of (m := 2) (fun d hd Q hQ => ?_) rfl hD⟩
          · unfold nmS
            rw [k84]
            by_cases x : i = g 5
            · rw [if_pos x, if_pos (by omega)]
              exact ⟨g 0, g 1 - g 0, by omega, hL, rfl, rfl⟩
            · rw [if_neg x, if_neg (by omega)]
              exact hN i (by omega)
          · have hd1 : 1 ≤ d := by omega
            rw [if_pos rfl] at hQ
            refine b139_0 ?_
            simp only [↓br_pos, ↓br_neg, ↓rF_I, ↓rF_L, ↓rF_R, ↓rF_N, rO_m, rB_m, ↓rI_m, wI_m, ↓rB2_m, ↓rB3_m, wB2_m, wB3_m, ↓rL_m, wL_m, ↓rQ_m, wQ_m, ↓lI_m, pI_m, pL_m, pR_m, sI_m, sBy_m, sBo_m, sL_m, sQ_m, fst_m, true_and, and_true, tg_some, ln_some, uI_1, uI_2, uL_1, uL_2, uL_3, uQ_1, uQ_2, uQ_3, rv_i, rv_l, rv_n, rv_b0, rv_b1, RMR, ne_eq, reduceCtorEq, not_false_eq_true, Option.getD_some, if_true, if_false, and_self, false_and, and_false, Nat.add_left_cancel_iff, Nat.add_eq_left, Nat.left_eq_add, Nat.one_ne_zero, Nat.reduceAdd, Nat.reduceLT, Nat.reduceLeDiff, Nat.reduceEqDiff, true_implies, false_implies, implies_true, Option.some.injEq, forall_eq', forall_eq, reduceCtorEq, brT, brF, br_s, i_10, i_01, ib_0_2, ib_1_2, tn_0, tn_1, Int32.le_refl, eq_self, rv_bN, rv_iM, RCM 81, RLY, lit_at hw, h6, c1, e8, c2, g_135 hw hG' hv hd, iB_f z, z00]
            refine lp_139 hw hG' h50 c (by omega) hN hd1 h0 (fun q => absurd (dup_t q) (by rw [u]; decide)) (fun _ => ?_) (Or.inl u) (g 5) 0 (by omega) (fun j hj => by omega)
            exact (q' hd).mpr hQ
  · have c1 : (Int32.ofNat (g 2) = (1 : Int32)) ↔ False := iff_false_intro (fun q => c ((of_inj (b := 1) (by omega) (by omega)).mp q))
    have e : nameF t g nm = 8 * g 0 + 1 := by unfold nameF; rw [if_pos (Or.inl c)]
    obtain ⟨σ', a1, a2, a3, a4, rfl⟩ := bad 1 (by omega) e
    refine ⟨_, a1, a2, a3, a4, fun hD => cI_of (m := 2) (fun d hd Q hQ => ?_) rfl hD⟩
    have hd1 : 1 ≤ d := by omega
    rw [if_neg (by omega)] at hQ
    refine b139_0 ?_
    simp only [↓br_pos, ↓br_neg, ↓rF_I, ↓rF_L, ↓rF_R, ↓rF_N, rO_m, rB_m, ↓rI_m, wI_m, ↓rB2_m, ↓rB3_m, wB2_m, wB3_m, ↓rL_m, wL_m, ↓rQ_m, wQ_m, ↓lI_m, pI_m, pL_m, pR_m, sI_m, sBy_m, sBo_m, sL_m, sQ_m, fst_m, true_and, and_true, tg_some, ln_some, uI_1, uI_2, uL_1, uL_2, uL_3, uQ_1, uQ_2, uQ_3, rv_i, rv_l, rv_n, rv_b0, rv_b1, RMR, ne_eq, reduceCtorEq, not_false_eq_true, Option.getD_some, if_true, if_false, and_self, false_and, and_false, Nat.add_left_cancel_iff, Nat.add_eq_left, Nat.left_eq_add, Nat.one_ne_zero, Nat.reduceAdd, Nat.reduceLT, Nat.reduceLeDiff, Nat.reduceEqDiff, true_implies, false_implies, implies_true, Option.some.injEq, forall_eq', forall_eq, reduceCtorEq, brT, brF, br_s, i_10, i_01, ib_0_2, ib_1_2, tn_0, tn_1, Int32.le_refl, eq_self, rv_bN, rv_iM, RCM 81, RLY, lit_at hw, h6, c1, g_136 (a := 1) (x := 1) hw h90 h4 rfl hd1]
    exact hQ
end
section
/-! the model's Reader: lines -/
def mDr (σ : mS) (τ : Rw) : Prop := ∀ j, j < 79 → σ.1 84 j = Int32.ofNat (τ j)
theorem mDr_S {σ : mS} {τ : Rw} {A a : Nat} {x : Int32} (h : mDr σ τ) (hx : x = Int32.ofNat a) : mDr (uI σ 84 A x) (rSet τ A a) := fun j hj => by
  subst hx
  rw [uI_1, rSet_1]
  by_cases e : j = A
  · rw [if_pos ⟨rfl, e⟩, if_pos e]
  · rw [if_neg (fun q => e q.2), if_neg e]; exact h j hj
theorem mDr_c {σ σ' : mS} {τ : Rw} (h : mDr σ τ) (f : ∀ j, j < 79 → σ'.1 84 j = σ.1 84 j) : mDr σ' τ := fun j hj => by rw [f j hj]; exact h j hj
theorem mDr_8 {σ σ' : mS} {τ : Rw} (h : mDr σ τ) (f : f8 σ σ') : mDr σ' τ := mDr_c h (fun j _ => by rw [f.1 84 (by omega)])
theorem nmR_8 {σ σ' : mS} {t : Nat → Nat} {k : Nat} {nm : Nat → Int32} (h : nmR σ t k nm) (f : f8 σ σ') : nmR σ' t k nm := nmR_c h (fun j _ => by rw [f.1 84 (by omega)])
theorem nmR_D {σ : mS} {t : Nat → Nat} {k A : Nat} {x : Int32} {nm : Nat → Int32} (h : nmR σ t k nm) (hA : A < 79) : nmR (uI σ 84 A x) t k nm := nmR_c h (fun j _ => by rw [uI_1, if_neg (by omega)])
theorem rSet_2 {τ : Rw} {A a b : Nat} : rSet (rSet τ A a) A b = rSet τ A b := by
  funext j
  rw [rSet_1, rSet_1, rSet_1]
  by_cases e : j = A
  · rw [if_pos e, if_pos e]
  · rw [if_neg e, if_neg e, if_neg e]
def rdS (σ : mS) (t : Nat → Nat) (n : Nat) (g : Rw) (nm : Nat → Int32) (τ : Rw) : Prop := mG σ t n g ∧ mDr σ τ ∧ nmR σ t (g 5) nm
theorem ix_0 : inB (0 : Int32) 102 = true ∧ (0 : Int32).toNatClampNeg = 0 := by decide
theorem ix_1 : inB (1 : Int32) 102 = true ∧ (1 : Int32).toNatClampNeg = 1 := by decide
theorem ix_2 : inB (2 : Int32) 102 = true ∧ (2 : Int32).toNatClampNeg = 2 := by decide
theorem ix_3 : inB (3 : Int32) 102 = true ∧ (3 : Int32).toNatClampNeg = 3 := by decide
def begF (t : Nat → Nat) (n : Nat) (g : Rw) (nm : Nat → Int32) (τ : Rw) (c M : Nat) : Nat := if M ≤ τ c then 8 * g 0 + 4 else nameF t (adv t n g) nm
theorem o_140 {w : mT} {σ : mS} {t : Nat → Nat} {n c M : Nat} {g τ : Rw} {nm : Nat → Int32} {x y : Int32} (hw : lit w) (ht : ∀ i, t i < 256) (hS : rdS σ t n g nm τ) (hV : rV n g τ) (hc : c < 3) (hM : τ c ≤ M) (hM' : M ≤ 12) (h22 : τ c < M → g 5 ≤ 22) (hx : x = Int32.ofNat c) (hy : y = Int32.ofNat M) : ∃ σ', fQ σ σ' ∧ (∀ j, j < 79 → σ'.1 84 j = σ.1 84 j) ∧ (begF t n g nm τ c M ≠ 0 → σ'.1 81 9 = Int32.ofNat (begF t n g nm τ c M)) ∧ (begF t n g nm τ c M = 0 → mG σ' t n (gNm t n (adv t n g)) ∧ nmR σ' t (g 5 + 1) (nmS nm (adv t n g 5) (cdN t (adv t n g)))) ∧ ∀ {D : Nat} {K : Int32 → Hp → Prop}, 4 ≤ D → (wpI D 140 [.ref 81, .int x, .int y] (mW w σ) K ↔ K (if begF t n g nm τ c M = 0 then 1 else 0) (mW w σ')) := by
  subst hx
  subst hy
  obtain ⟨hG, hD, hN⟩ := hS
  obtain ⟨vg, h03, hv, h5⟩ := hV
  have h90 : σ.1 81 9 = 0 := by rw [hG.2.2.2.2.2.2.1, h03]; rfl
  have dc := hD c (by omega)
  unfold begF
  by_cases a : M ≤ τ c
  · rw [if_pos a]
    have n0 : ¬ (8 * g 0 + 4 = 0) := by omega
    have c1 : (Int32.ofNat (τ c) = Int32.ofNat M) ↔ True := iff_true_intro (by rw [show τ c = M by omega])
    refine ⟨uI σ 81 9 (Int32.ofNat (8 * g 0 + 4)), fQ_8 (f8_I (by omega)), fun j _ => by rw [uI_1, if_neg (by omega)], fun _ => by rw [uI_1, if_pos ⟨rfl, rfl⟩], fun q => absurd q n0, fun hD => cI_of (m := 3) (fun d hd Q hQ => ?_) rfl hD⟩
    have hd1 : 1 ≤ d := by omega
    have hd2 : 2 ≤ d := by omega
    have hd3 : 3 ≤ d := by omega
    rw [if_neg n0] at hQ
    refine b140_0 ?_
    simp only [↓br_pos, ↓br_neg, ↓rF_I, ↓rF_L, ↓rF_R, ↓rF_N, rO_m, rB_m, ↓rI_m, wI_m, ↓rB2_m, ↓rB3_m, wB2_m, wB3_m, ↓rL_m, wL_m, ↓rQ_m, wQ_m, ↓lI_m, pI_m, pL_m, pR_m, sI_m, sBy_m, sBo_m, sL_m, sQ_m, fst_m, true_and, and_true, tg_some, ln_some, uI_1, uI_2, uL_1, uL_2, uL_3, uQ_1, uQ_2, uQ_3, rv_i, rv_l, rv_n, rv_b0, rv_b1, RMR, ne_eq, reduceCtorEq, not_false_eq_true, Option.getD_some, if_true, if_false, and_self, false_and, and_false, Nat.add_left_cancel_iff, Nat.add_eq_left, Nat.left_eq_add, Nat.one_ne_zero, Nat.reduceAdd, Nat.reduceLT, Nat.reduceLeDiff, Nat.reduceEqDiff, true_implies, false_implies, implies_true, Option.some.injEq, forall_eq', forall_eq, reduceCtorEq, brT, brF, br_s, i_10, i_01, ib_0_2, ib_1_2, tn_0, tn_1, Int32.le_refl, eq_self, rv_bN, rv_iM, RCM 81, RLY, lit_at hw, ix (by omega : c < 102) (by omega), dc, c1, g_136 (a := 4) (x := 4) hw h90 hG.2.1 rfl hd1]
    exact hQ
  · rw [if_neg a]
    have c1 : (Int32.ofNat (τ c) = Int32.ofNat M) ↔ False := iff_false_intro (fun q => a (by rw [(of_inj (by omega) (by omega)).mp q]; exact Nat.le_refl _))
    obtain ⟨σ1, f1, G1, q1⟩ := o_133g hw ht hG vg
    have a5 : adv t n g 5 = g 5 := adv_g (by omega)
    obtain ⟨σ2, f2, k2, F2, G2, q2⟩ := o_139 (nm := nm) hw ht G1 (vG_adv vg) (by rw [adv_g (by omega)]; exact h03) (by rw [a5]; exact h22 (by omega)) (by rw [a5]; exact nmR_8 hN (f8_G f1))
    refine ⟨σ2, fQ_tr (fQ_8 (f8_G f1)) f2, fun j hj => by rw [k2 j hj, f1.1 84 (by omega)], F2, fun z => ⟨(G2 z).1, by have := (G2 z).2; rw [a5] at this; rw [a5]; exact this⟩, fun hD => cI_of (m := 3) (fun d hd Q hQ => ?_) rfl hD⟩
    have hd1 : 1 ≤ d := by omega
    have hd2 : 2 ≤ d := by omega
    have hd3 : 3 ≤ d := by omega
    refine b140_0 ?_
    simp only [↓br_pos, ↓br_neg, ↓rF_I, ↓rF_L, ↓rF_R, ↓rF_N, rO_m, rB_m, ↓rI_m, wI_m, ↓rB2_m, ↓rB3_m, wB2_m, wB3_m, ↓rL_m, wL_m, ↓rQ_m, wQ_m, ↓lI_m, pI_m, pL_m, pR_m, sI_m, sBy_m, sBo_m, sL_m, sQ_m, fst_m, true_and, and_true, tg_some, ln_some, uI_1, uI_2, uL_1, uL_2, uL_3, uQ_1, uQ_2, uQ_3, rv_i, rv_l, rv_n, rv_b0, rv_b1, RMR, ne_eq, reduceCtorEq, not_false_eq_true, Option.getD_some, if_true, if_false, and_self, false_and, and_false, Nat.add_left_cancel_iff, Nat.add_eq_left, Nat.left_eq_add, Nat.one_ne_zero, Nat.reduceAdd, Nat.reduceLT, Nat.reduceLeDiff, Nat.reduceEqDiff, true_implies, false_implies, implies_true, Option.some.injEq, forall_eq', forall_eq, reduceCtorEq, brT, brF, br_s, i_10, i_01, ib_0_2, ib_1_2, tn_0, tn_1, Int32.le_refl, eq_self, rv_bN, rv_iM, RCM 81, RLY, lit_at hw, ix (by omega : c < 102) (by omega), dc, c1, q1 hd2, q2 hd3]
    exact ⟨by split <;> rfl, hQ⟩
theorem o_143 {w : mT} {σ : mS} {t : Nat → Nat} {n i A : Nat} {g : Rw} {y x low high : Int32} (hw : lit w) (ht : ∀ i, t i < 256) (hG : mG σ t n g) (hv : vG n g) (h0 : g 3 = 0) (hi : i < 13) (hA : A < 79) (hy : y = Int32.ofNat A) (hx : x = WC i) : ∃ σ', fQ σ σ' ∧ (toldF t n g i low high ≠ 0 → σ'.1 81 9 = Int32.ofNat (toldF t n g i low high)) ∧ (toldF t n g i low high = 0 → mG σ' t n (gTd t n g) ∧ σ'.1 84 = (uI σ 84 A (numV t (adv t n g))).1 84) ∧ ∀ {D : Nat} {K : Int32 → Hp → Prop}, 5 ≤ D → (wpI D 143 [.ref 81, .int y, .int x, .int low, .int high] (mW w σ) K ↔ K (if toldF t n g i low high = 0 then 1 else 0) (mW w σ')) := by
  subst hy
  obtain ⟨σ1, f1, F1, G1, q1⟩ := o_138 (low := low) (high := high) hw ht hG hv h0 hi hx
  by_cases z : toldF t n g i low high = 0
  · obtain ⟨K1, v1⟩ := G1 z
    refine ⟨uI σ1 84 A (numV t (adv t n g)), fQ_tr (fQ_8 f1) fQ_D, fun q => absurd z q, fun _ => ⟨mG_D K1, funext fun j => by rw [uI_1, uI_1, f1.1 84 (by omega)]⟩, fun hD => cI_of (m := 4) (fun d hd Q hQ => ?_) rfl hD⟩
    rw [if_pos z] at hQ
    refine b143_0 ?_
    simp only [↓br_pos, ↓br_neg, ↓rF_I, ↓rF_L, ↓rF_R, ↓rF_N, rO_m, rB_m, ↓rI_m, wI_m, ↓rB2_m, ↓rB3_m, wB2_m, wB3_m, ↓rL_m, wL_m, ↓rQ_m, wQ_m, ↓lI_m, pI_m, pL_m, pR_m, sI_m, sBy_m, sBo_m, sL_m, sQ_m, fst_m, true_and, and_true, tg_some, ln_some, uI_1, uI_2, uL_1, uL_2, uL_3, uQ_1, uQ_2, uQ_3, rv_i, rv_l, rv_n, rv_b0, rv_b1, RMR, ne_eq, reduceCtorEq, not_false_eq_true, Option.getD_some, if_true, if_false, and_self, false_and, and_false, Nat.add_left_cancel_iff, Nat.add_eq_left, Nat.left_eq_add, Nat.one_ne_zero, Nat.reduceAdd, Nat.reduceLT, Nat.reduceLeDiff, Nat.reduceEqDiff, true_implies, false_implies, implies_true, Option.some.injEq, forall_eq', forall_eq, reduceCtorEq, brT, brF, br_s, i_10, i_01, ib_0_2, ib_1_2, tn_0, tn_1, Int32.le_refl, eq_self, rv_bN, rv_iM, RCM 81, RLY, lit_at hw, q1 hd, z, v1, ix (by omega : A < 102) (by omega)]
    exact hQ
  · refine ⟨σ1, fQ_8 f1, F1, fun q => absurd q z, fun hD => cI_of (m := 4) (fun d hd Q hQ => ?_) rfl hD⟩
    rw [if_neg z] at hQ
    refine b143_0 ?_
    simp only [↓br_pos, ↓br_neg, ↓rF_I, ↓rF_L, ↓rF_R, ↓rF_N, rO_m, rB_m, ↓rI_m, wI_m, ↓rB2_m, ↓rB3_m, wB2_m, wB3_m, ↓rL_m, wL_m, ↓rQ_m, wQ_m, ↓lI_m, pI_m, pL_m, pR_m, sI_m, sBy_m, sBo_m, sL_m, sQ_m, fst_m, true_and, and_true, tg_some, ln_some, uI_1, uI_2, uL_1, uL_2, uL_3, uQ_1, uQ_2, uQ_3, rv_i, rv_l, rv_n, rv_b0, rv_b1, RMR, ne_eq, reduceCtorEq, not_false_eq_true, Option.getD_some, if_true, if_false, and_self, false_and, and_false, Nat.add_left_cancel_iff, Nat.add_eq_left, Nat.left_eq_add, Nat.one_ne_zero, Nat.reduceAdd, Nat.reduceLT, Nat.reduceLeDiff, Nat.reduceEqDiff, true_implies, false_implies, implies_true, Option.some.injEq, forall_eq', forall_eq, reduceCtorEq, brT, brF, br_s, i_10, i_01, ib_0_2, ib_1_2, tn_0, tn_1, Int32.le_refl, eq_self, rv_bN, rv_iM, RCM 81, RLY, lit_at hw, q1 hd, z]
    exact hQ
theorem tLot_e {τ : Rw} {a b : Nat} : tLot τ a b = rSet (rSet (rSet τ (4 + τ 0) a) (16 + τ 0) b) 0 (τ 0 + 1) := rfl
theorem o_141 {w : mT} {σ : mS} {t : Nat → Nat} {n : Nat} {g τ : Rw} {nm : Nat → Int32} (hw : lit w) (ht : ∀ i, t i < 256) (hS : rdS σ t n g nm τ) (hV : rV n g τ) : ∃ σ', fQ σ σ' ∧ ((rLot t n g nm τ).1 ≠ 0 → σ'.1 81 9 = Int32.ofNat (rLot t n g nm τ).1) ∧ ((rLot t n g nm τ).1 = 0 → rdS σ' t n (rLot t n g nm τ).2.1 (rLot t n g nm τ).2.2.1 (rLot t n g nm τ).2.2.2) ∧ ∀ {D : Nat} {K : Int32 → Hp → Prop}, 5 ≤ D → (wpI D 141 [.ref 81] (mW w σ) K ↔ K (if (rLot t n g nm τ).1 = 0 then 1 else 0) (mW w σ')) := by
  have hS' := hS
  have hV' := hV
  obtain ⟨hG, hDr, hN⟩ := hS
  obtain ⟨vg, h03, hv, h5⟩ := hV
  have v0 := hv.1
  have v1 := hv.2.1
  have v2 := hv.2.2.1
  have d0 := hDr 0 (by omega)
  obtain ⟨σ1, f1, k1, F1, G1, q1⟩ := o_140 (c := 0) (M := 12) (x := 0) (y := 12) hw ht hS' hV' (by omega) (by omega) (by omega) (fun _ => by omega) rfl rfl
  by_cases z1 : begF t n g nm τ 0 12 = 0
  case neg =>
    have eR : (rLot t n g nm τ) = (begF t n g nm τ 0 12, g, nm, τ) := by
      unfold rLot begF
      unfold begF at z1
      by_cases a : 12 ≤ τ 0
      · rw [if_pos a, if_pos a]
      · rw [if_neg a] at z1
        rw [if_neg a, if_neg a, if_pos z1]
    rw [eR]
    refine ⟨σ1, f1, F1, fun q => absurd q z1, fun hD => cI_of (m := 4) (fun d hd Q hQ => ?_) rfl hD⟩
    have hd1 : 1 ≤ d := by omega
    have hd2 : 2 ≤ d := by omega
    have hd3 : 3 ≤ d := by omega
    have hd4 : 4 ≤ d := by omega
    rw [if_neg z1] at hQ
    refine b141_0 ?_
    simp only [↓br_pos, ↓br_neg, ↓rF_I, ↓rF_L, ↓rF_R, ↓rF_N, rO_m, rB_m, ↓rI_m, wI_m, ↓rB2_m, ↓rB3_m, wB2_m, wB3_m, ↓rL_m, wL_m, ↓rQ_m, wQ_m, ↓lI_m, pI_m, pL_m, pR_m, sI_m, sBy_m, sBo_m, sL_m, sQ_m, fst_m, true_and, and_true, tg_some, ln_some, uI_1, uI_2, uL_1, uL_2, uL_3, uQ_1, uQ_2, uQ_3, rv_i, rv_l, rv_n, rv_b0, rv_b1, RMR, ne_eq, reduceCtorEq, not_false_eq_true, Option.getD_some, if_true, if_false, and_self, false_and, and_false, Nat.add_left_cancel_iff, Nat.add_eq_left, Nat.left_eq_add, Nat.one_ne_zero, Nat.reduceAdd, Nat.reduceLT, Nat.reduceLeDiff, Nat.reduceEqDiff, true_implies, false_implies, implies_true, Option.some.injEq, forall_eq', forall_eq, reduceCtorEq, brT, brF, br_s, i_10, i_01, ib_0_2, ib_1_2, tn_0, tn_1, Int32.le_refl, eq_self, rv_bN, rv_iM, RCM 81, RLY, lit_at hw, ix_0, ix_1, ix_2, ix_3, d0, q1 hd4, z1]
    exact hQ
  obtain ⟨K1, N1⟩ := G1 z1
  have a1 : ¬ 12 ≤ τ 0 := fun q => by unfold begF at z1; rw [if_pos q] at z1; omega
  have b1 : nameF t (adv t n g) nm = 0 := by unfold begF at z1; rw [if_neg a1] at z1; exact z1
  have D1 : mDr σ1 τ := mDr_c hDr k1
  have V1 : vG n (gNm t n (adv t n g)) := vG_nm (vG_adv vg)
  have Z1 : (gNm t n (adv t n g)) 3 = 0 := by rw [gNm_3, adv_g (by omega)]; exact h03
  obtain ⟨σ2, f2, F2, G2, q2⟩ := o_138 (x := 687290547) (i := 4) (low := 1) (high := 9999) hw ht K1 V1 Z1 (by omega) (by decide)
  by_cases z2 : toldF t n (gNm t n (adv t n g)) 4 1 9999 = 0
  case neg =>
    have eR : (rLot t n g nm τ) = (toldF t n (gNm t n (adv t n g)) 4 1 9999, g, nm, τ) := by
      unfold rLot
      rw [if_neg a1, if_neg (fun q => q b1), if_pos z2]
    rw [eR]
    refine ⟨σ2, fQ_tr f1 (fQ_8 f2), F2, fun q => absurd q z2, fun hD => cI_of (m := 4) (fun d hd Q hQ => ?_) rfl hD⟩
    have hd1 : 1 ≤ d := by omega
    have hd2 : 2 ≤ d := by omega
    have hd3 : 3 ≤ d := by omega
    have hd4 : 4 ≤ d := by omega
    rw [if_neg z2] at hQ
    refine b141_0 ?_
    simp only [↓br_pos, ↓br_neg, ↓rF_I, ↓rF_L, ↓rF_R, ↓rF_N, rO_m, rB_m, ↓rI_m, wI_m, ↓rB2_m, ↓rB3_m, wB2_m, wB3_m, ↓rL_m, wL_m, ↓rQ_m, wQ_m, ↓lI_m, pI_m, pL_m, pR_m, sI_m, sBy_m, sBo_m, sL_m, sQ_m, fst_m, true_and, and_true, tg_some, ln_some, uI_1, uI_2, uL_1, uL_2, uL_3, uQ_1, uQ_2, uQ_3, rv_i, rv_l, rv_n, rv_b0, rv_b1, RMR, ne_eq, reduceCtorEq, not_false_eq_true, Option.getD_some, if_true, if_false, and_self, false_and, and_false, Nat.add_left_cancel_iff, Nat.add_eq_left, Nat.left_eq_add, Nat.one_ne_zero, Nat.reduceAdd, Nat.reduceLT, Nat.reduceLeDiff, Nat.reduceEqDiff, true_implies, false_implies, implies_true, Option.some.injEq, forall_eq', forall_eq, reduceCtorEq, brT, brF, br_s, i_10, i_01, ib_0_2, ib_1_2, tn_0, tn_1, Int32.le_refl, eq_self, rv_bN, rv_iM, RCM 81, RLY, lit_at hw, ix_0, ix_1, ix_2, ix_3, d0, q1 hd4, z1, q2 hd4, z2]
    exact hQ
  obtain ⟨K2, v2'⟩ := G2 z2
  have w2 := told_v (lo := 1) (hi := 9999) rfl rfl (by omega) (by omega) z2
  have D2 : mDr (uI σ2 84 (4 + τ 0) (numV t (adv t n (gNm t n (adv t n g))))) (rSet τ (4 + τ 0) (nN t (adv t n (gNm t n (adv t n g))))) := mDr_S (mDr_8 D1 f2) w2.1
  have V2 : vG n (gTd t n (gNm t n (adv t n g))) := vG_td V1
  have Z2 : (gTd t n (gNm t n (adv t n g))) 3 = 0 := by rw [gTd_g (by omega)]; exact Z1
  obtain ⟨σ3, f3, F3, G3, q3⟩ := o_138 (x := 7931013) (i := 5) (low := 0) (high := 999) hw ht (mG_D (j := 4 + τ 0) (x := numV t (adv t n (gNm t n (adv t n g)))) K2) V2 Z2 (by omega) (by decide)
  by_cases z3 : toldF t n (gTd t n (gNm t n (adv t n g))) 5 0 999 = 0
  case neg =>
    have eR : (rLot t n g nm τ) = (toldF t n (gTd t n (gNm t n (adv t n g))) 5 0 999, g, nm, τ) := by
      unfold rLot
      rw [if_neg a1, if_neg (fun q => q b1), if_neg (fun q => q z2), if_pos z3]
    rw [eR]
    refine ⟨σ3, fQ_tr f1 (fQ_tr (fQ_8 f2) (fQ_tr fQ_D (fQ_8 f3))), F3, fun q => absurd q z3, fun hD => cI_of (m := 4) (fun d hd Q hQ => ?_) rfl hD⟩
    have hd1 : 1 ≤ d := by omega
    have hd2 : 2 ≤ d := by omega
    have hd3 : 3 ≤ d := by omega
    have hd4 : 4 ≤ d := by omega
    rw [if_neg z3] at hQ
    refine b141_0 ?_
    simp only [↓br_pos, ↓br_neg, ↓rF_I, ↓rF_L, ↓rF_R, ↓rF_N, rO_m, rB_m, ↓rI_m, wI_m, ↓rB2_m, ↓rB3_m, wB2_m, wB3_m, ↓rL_m, wL_m, ↓rQ_m, wQ_m, ↓lI_m, pI_m, pL_m, pR_m, sI_m, sBy_m, sBo_m, sL_m, sQ_m, fst_m, true_and, and_true, tg_some, ln_some, uI_1, uI_2, uL_1, uL_2, uL_3, uQ_1, uQ_2, uQ_3, rv_i, rv_l, rv_n, rv_b0, rv_b1, RMR, ne_eq, reduceCtorEq, not_false_eq_true, Option.getD_some, if_true, if_false, and_self, false_and, and_false, Nat.add_left_cancel_iff, Nat.add_eq_left, Nat.left_eq_add, Nat.one_ne_zero, Nat.reduceAdd, Nat.reduceLT, Nat.reduceLeDiff, Nat.reduceEqDiff, true_implies, false_implies, implies_true, Option.some.injEq, forall_eq', forall_eq, reduceCtorEq, brT, brF, br_s, i_10, i_01, ib_0_2, ib_1_2, tn_0, tn_1, Int32.le_refl, eq_self, rv_bN, rv_iM, RCM 81, RLY, lit_at hw, ix_0, ix_1, ix_2, ix_3, d0, q1 hd4, z1, q2 hd4, z2, v2', ad_4, ix (by omega : 4 + τ 0 < 102) (by omega), q3 hd4, z3]
    exact hQ
  obtain ⟨K3, v3'⟩ := G3 z3
  have w3 := told_v (lo := 0) (hi := 999) rfl rfl (by omega) (by omega) z3
  have D3 : mDr (uI σ3 84 (16 + τ 0) (numV t (adv t n (gTd t n (gNm t n (adv t n g)))))) (rSet (rSet τ (4 + τ 0) (nN t (adv t n (gNm t n (adv t n g))))) (16 + τ 0) (nN t (adv t n (gTd t n (gNm t n (adv t n g)))))) := mDr_S (mDr_8 D2 f3) w3.1
  have eR : (rLot t n g nm τ) = (0, (gTd t n (gTd t n (gNm t n (adv t n g)))), nmS nm (adv t n g 5) (cdN t (adv t n g)), tLot τ (nN t (adv t n (gNm t n (adv t n g)))) (nN t (adv t n (gTd t n (gNm t n (adv t n g)))))) := by
    unfold rLot
    rw [if_neg a1, if_neg (fun q => q b1), if_neg (fun q => q z2), if_neg (fun q => q z3)]
  rw [eR]
  have c0 : σ3.1 84 0 = Int32.ofNat (τ 0) := by
    have := (mDr_8 D2 f3) 0 (by omega)
    rw [rS_ne (by omega)] at this; exact this
  have n0 : (0 = 16 + τ 0) ↔ False := iff_false_intro (by omega)
  refine ⟨uI (uI σ3 84 (16 + τ 0) (numV t (adv t n (gTd t n (gNm t n (adv t n g)))))) 84 0 (Int32.ofNat (τ 0 + 1)), fQ_tr f1 (fQ_tr (fQ_8 f2) (fQ_tr fQ_D (fQ_tr (fQ_8 f3) (fQ_tr fQ_D fQ_D)))), fun q => absurd rfl q, fun _ => ⟨mG_D (mG_D K3), mDr_S D3 rfl, ?_⟩, fun hD => cI_of (m := 4) (fun d hd Q hQ => ?_) rfl hD⟩
  · show nmR _ t ((gTd t n (gTd t n (gNm t n (adv t n g)))) 5) _
    rw [show (gTd t n (gTd t n (gNm t n (adv t n g)))) 5 = g 5 + 1 by rw [gTd_g (by omega), gTd_g (by omega), gNm_5, adv_g (by omega)]]
    exact nmR_D (nmR_D (nmR_8 (nmR_D (nmR_8 N1 f2) (by omega)) f3) (by omega)) (by omega)
  · have hd1 : 1 ≤ d := by omega
    have hd2 : 2 ≤ d := by omega
    have hd3 : 3 ≤ d := by omega
    have hd4 : 4 ≤ d := by omega
    rw [if_pos rfl] at hQ
    refine b141_0 ?_
    simp only [↓br_pos, ↓br_neg, ↓rF_I, ↓rF_L, ↓rF_R, ↓rF_N, rO_m, rB_m, ↓rI_m, wI_m, ↓rB2_m, ↓rB3_m, wB2_m, wB3_m, ↓rL_m, wL_m, ↓rQ_m, wQ_m, ↓lI_m, pI_m, pL_m, pR_m, sI_m, sBy_m, sBo_m, sL_m, sQ_m, fst_m, true_and, and_true, tg_some, ln_some, uI_1, uI_2, uL_1, uL_2, uL_3, uQ_1, uQ_2, uQ_3, rv_i, rv_l, rv_n, rv_b0, rv_b1, RMR, ne_eq, reduceCtorEq, not_false_eq_true, Option.getD_some, if_true, if_false, and_self, false_and, and_false, Nat.add_left_cancel_iff, Nat.add_eq_left, Nat.left_eq_add, Nat.one_ne_zero, Nat.reduceAdd, Nat.reduceLT, Nat.reduceLeDiff, Nat.reduceEqDiff, true_implies, false_implies, implies_true, Option.some.injEq, forall_eq', forall_eq, reduceCtorEq, brT, brF, br_s, i_10, i_01, ib_0_2, ib_1_2, tn_0, tn_1, Int32.le_refl, eq_self, rv_bN, rv_iM, RCM 81, RLY, lit_at hw, ix_0, ix_1, ix_2, ix_3, d0, q1 hd4, z1, q2 hd4, z2, v2', ad_4, ix (by omega : 4 + τ 0 < 102) (by omega), q3 hd4, z3, v3', ad_16, ix (by omega : 16 + τ 0 < 102) (by omega), n0, c0, on_succ]
    exact hQ
theorem o_142 {w : mT} {σ : mS} {t : Nat → Nat} {n : Nat} {g τ : Rw} {nm : Nat → Int32} (hw : lit w) (ht : ∀ i, t i < 256) (hS : rdS σ t n g nm τ) (hV : rV n g τ) : ∃ σ', fQ σ σ' ∧ ((rPil t n g nm τ).1 ≠ 0 → σ'.1 81 9 = Int32.ofNat (rPil t n g nm τ).1) ∧ ((rPil t n g nm τ).1 = 0 → rdS σ' t n (rPil t n g nm τ).2.1 (rPil t n g nm τ).2.2.1 (rPil t n g nm τ).2.2.2) ∧ ∀ {D : Nat} {K : Int32 → Hp → Prop}, 5 ≤ D → (wpI D 142 [.ref 81] (mW w σ) K ↔ K (if (rPil t n g nm τ).1 = 0 then 1 else 0) (mW w σ')) := by
  have hS' := hS
  have hV' := hV
  obtain ⟨hG, hDr, hN⟩ := hS
  obtain ⟨vg, h03, hv, h5⟩ := hV
  have v0 := hv.1
  have v1 := hv.2.1
  have v2 := hv.2.2.1
  have d0 := hDr 1 (by omega)
  obtain ⟨σ1, f1, k1, F1, G1, q1⟩ := o_140 (c := 1) (M := 3) (x := 1) (y := 3) hw ht hS' hV' (by omega) (by omega) (by omega) (fun _ => by omega) rfl rfl
  by_cases z1 : begF t n g nm τ 1 3 = 0
  case neg =>
    have eR : (rPil t n g nm τ) = (begF t n g nm τ 1 3, g, nm, τ) := by
      unfold rPil begF
      unfold begF at z1
      by_cases a : 3 ≤ τ 1
      · rw [if_pos a, if_pos a]
      · rw [if_neg a] at z1
        rw [if_neg a, if_neg a, if_pos z1]
    rw [eR]
    refine ⟨σ1, f1, F1, fun q => absurd q z1, fun hD => cI_of (m := 4) (fun d hd Q hQ => ?_) rfl hD⟩
    have hd1 : 1 ≤ d := by omega
    have hd2 : 2 ≤ d := by omega
    have hd3 : 3 ≤ d := by omega
    have hd4 : 4 ≤ d := by omega
    rw [if_neg z1] at hQ
    refine b142_0 ?_
    simp only [↓br_pos, ↓br_neg, ↓rF_I, ↓rF_L, ↓rF_R, ↓rF_N, rO_m, rB_m, ↓rI_m, wI_m, ↓rB2_m, ↓rB3_m, wB2_m, wB3_m, ↓rL_m, wL_m, ↓rQ_m, wQ_m, ↓lI_m, pI_m, pL_m, pR_m, sI_m, sBy_m, sBo_m, sL_m, sQ_m, fst_m, true_and, and_true, tg_some, ln_some, uI_1, uI_2, uL_1, uL_2, uL_3, uQ_1, uQ_2, uQ_3, rv_i, rv_l, rv_n, rv_b0, rv_b1, RMR, ne_eq, reduceCtorEq, not_false_eq_true, Option.getD_some, if_true, if_false, and_self, false_and, and_false, Nat.add_left_cancel_iff, Nat.add_eq_left, Nat.left_eq_add, Nat.one_ne_zero, Nat.reduceAdd, Nat.reduceLT, Nat.reduceLeDiff, Nat.reduceEqDiff, true_implies, false_implies, implies_true, Option.some.injEq, forall_eq', forall_eq, reduceCtorEq, brT, brF, br_s, i_10, i_01, ib_0_2, ib_1_2, tn_0, tn_1, Int32.le_refl, eq_self, rv_bN, rv_iM, RCM 81, RLY, lit_at hw, ix_0, ix_1, ix_2, ix_3, d0, q1 hd4, z1]
    exact hQ
  obtain ⟨K1, N1⟩ := G1 z1
  have a1 : ¬ 3 ≤ τ 1 := fun q => by unfold begF at z1; rw [if_pos q] at z1; omega
  have b1 : nameF t (adv t n g) nm = 0 := by unfold begF at z1; rw [if_neg a1] at z1; exact z1
  have D1 : mDr σ1 τ := mDr_c hDr k1
  have V1 : vG n (gNm t n (adv t n g)) := vG_nm (vG_adv vg)
  have Z1 : (gNm t n (adv t n g)) 3 = 0 := by rw [gNm_3, adv_g (by omega)]; exact h03
  obtain ⟨σ2, f2, F2, G2, q2⟩ := o_138 (x := 3322259) (i := 6) (low := 2) (high := 12) hw ht K1 V1 Z1 (by omega) (by decide)
  by_cases z2 : toldF t n (gNm t n (adv t n g)) 6 2 12 = 0
  case neg =>
    have eR : (rPil t n g nm τ) = (toldF t n (gNm t n (adv t n g)) 6 2 12, g, nm, τ) := by
      unfold rPil
      rw [if_neg a1, if_neg (fun q => q b1), if_pos z2]
    rw [eR]
    refine ⟨σ2, fQ_tr f1 (fQ_8 f2), F2, fun q => absurd q z2, fun hD => cI_of (m := 4) (fun d hd Q hQ => ?_) rfl hD⟩
    have hd1 : 1 ≤ d := by omega
    have hd2 : 2 ≤ d := by omega
    have hd3 : 3 ≤ d := by omega
    have hd4 : 4 ≤ d := by omega
    rw [if_neg z2] at hQ
    refine b142_0 ?_
    simp only [↓br_pos, ↓br_neg, ↓rF_I, ↓rF_L, ↓rF_R, ↓rF_N, rO_m, rB_m, ↓rI_m, wI_m, ↓rB2_m, ↓rB3_m, wB2_m, wB3_m, ↓rL_m, wL_m, ↓rQ_m, wQ_m, ↓lI_m, pI_m, pL_m, pR_m, sI_m, sBy_m, sBo_m, sL_m, sQ_m, fst_m, true_and, and_true, tg_some, ln_some, uI_1, uI_2, uL_1, uL_2, uL_3, uQ_1, uQ_2, uQ_3, rv_i, rv_l, rv_n, rv_b0, rv_b1, RMR, ne_eq, reduceCtorEq, not_false_eq_true, Option.getD_some, if_true, if_false, and_self, false_and, and_false, Nat.add_left_cancel_iff, Nat.add_eq_left, Nat.left_eq_add, Nat.one_ne_zero, Nat.reduceAdd, Nat.reduceLT, Nat.reduceLeDiff, Nat.reduceEqDiff, true_implies, false_implies, implies_true, Option.some.injEq, forall_eq', forall_eq, reduceCtorEq, brT, brF, br_s, i_10, i_01, ib_0_2, ib_1_2, tn_0, tn_1, Int32.le_refl, eq_self, rv_bN, rv_iM, RCM 81, RLY, lit_at hw, ix_0, ix_1, ix_2, ix_3, d0, q1 hd4, z1, q2 hd4, z2]
    exact hQ
  obtain ⟨K2, v2'⟩ := G2 z2
  have w2 := told_v (lo := 2) (hi := 12) rfl rfl (by omega) (by omega) z2
  have D2 : mDr (uI σ2 84 (28 + τ 1) (numV t (adv t n (gNm t n (adv t n g))))) (rSet τ (28 + τ 1) (nN t (adv t n (gNm t n (adv t n g))))) := mDr_S (mDr_8 D1 f2) w2.1
  have eR : (rPil t n g nm τ) = (0, (gTd t n (gNm t n (adv t n g))), nmS nm (adv t n g 5) (cdN t (adv t n g)), tPil τ (nN t (adv t n (gNm t n (adv t n g))))) := by
    unfold rPil
    rw [if_neg a1, if_neg (fun q => q b1), if_neg (fun q => q z2)]
  rw [eR]
  have c0 : σ2.1 84 1 = Int32.ofNat (τ 1) := (mDr_8 D1 f2) 1 (by omega)
  have n0 : (1 = 28 + τ 1) ↔ False := iff_false_intro (by omega)
  refine ⟨uI (uI σ2 84 (28 + τ 1) (numV t (adv t n (gNm t n (adv t n g))))) 84 1 (Int32.ofNat (τ 1 + 1)), fQ_tr f1 (fQ_tr (fQ_8 f2) (fQ_tr fQ_D fQ_D)), fun q => absurd rfl q, fun _ => ⟨mG_D (mG_D K2), mDr_S D2 rfl, ?_⟩, fun hD => cI_of (m := 4) (fun d hd Q hQ => ?_) rfl hD⟩
  · show nmR _ t ((gTd t n (gNm t n (adv t n g))) 5) _
    rw [show (gTd t n (gNm t n (adv t n g))) 5 = g 5 + 1 by rw [gTd_g (by omega), gNm_5, adv_g (by omega)]]
    exact nmR_D (nmR_D (nmR_8 N1 f2) (by omega)) (by omega)
  · have hd1 : 1 ≤ d := by omega
    have hd2 : 2 ≤ d := by omega
    have hd3 : 3 ≤ d := by omega
    have hd4 : 4 ≤ d := by omega
    rw [if_pos rfl] at hQ
    refine b142_0 ?_
    simp only [↓br_pos, ↓br_neg, ↓rF_I, ↓rF_L, ↓rF_R, ↓rF_N, rO_m, rB_m, ↓rI_m, wI_m, ↓rB2_m, ↓rB3_m, wB2_m, wB3_m, ↓rL_m, wL_m, ↓rQ_m, wQ_m, ↓lI_m, pI_m, pL_m, pR_m, sI_m, sBy_m, sBo_m, sL_m, sQ_m, fst_m, true_and, and_true, tg_some, ln_some, uI_1, uI_2, uL_1, uL_2, uL_3, uQ_1, uQ_2, uQ_3, rv_i, rv_l, rv_n, rv_b0, rv_b1, RMR, ne_eq, reduceCtorEq, not_false_eq_true, Option.getD_some, if_true, if_false, and_self, false_and, and_false, Nat.add_left_cancel_iff, Nat.add_eq_left, Nat.left_eq_add, Nat.one_ne_zero, Nat.reduceAdd, Nat.reduceLT, Nat.reduceLeDiff, Nat.reduceEqDiff, true_implies, false_implies, implies_true, Option.some.injEq, forall_eq', forall_eq, reduceCtorEq, brT, brF, br_s, i_10, i_01, ib_0_2, ib_1_2, tn_0, tn_1, Int32.le_refl, eq_self, rv_bN, rv_iM, RCM 81, RLY, lit_at hw, ix_0, ix_1, ix_2, ix_3, d0, q1 hd4, z1, q2 hd4, z2, v2', ad_28, ix (by omega : 28 + τ 1 < 102) (by omega), n0, c0, on_succ]
    exact hQ
theorem dr_143 {σ σ' : mS} {τ : Rw} {A a : Nat} {x : Int32} (e : σ'.1 84 = (uI σ 84 A x).1 84) (h : mDr σ τ) (hx : x = Int32.ofNat a) : mDr σ' (rSet τ A a) := mDr_c (mDr_S h hx) (fun j _ => by rw [e])
theorem nm_143 {σ σ' : mS} {t : Nat → Nat} {k A : Nat} {nm : Nat → Int32} {x : Int32} (e : σ'.1 84 = (uI σ 84 A x).1 84) (h : nmR σ t k nm) (hA : A < 79) : nmR σ' t k nm := nmR_c (nmR_D (x := x) h hA) (fun j _ => by rw [e])
theorem at_143 {σ σ' : mS} {A : Nat} {x : Int32} (e : σ'.1 84 = (uI σ 84 A x).1 84) : σ'.1 84 A = x := by rw [e, uI_1, if_pos ⟨rfl, rfl⟩]
theorem sx_0 {a : Nat} : ((31 : Int32) + (6 : Int32) * Int32.ofNat a) + (0 : Int32) = Int32.ofNat (31 + 6 * a) := by
  rw [show (6 : Int32) = Int32.ofNat 6 from rfl, of_mul, show (31 : Int32) = Int32.ofNat 31 from rfl, of_add, show (0 : Int32) = Int32.ofNat 0 from rfl, of_add, Nat.add_zero]
theorem sx_1 {a : Nat} : ((31 : Int32) + (6 : Int32) * Int32.ofNat a) + (1 : Int32) = Int32.ofNat (31 + 6 * a + 1) := by
  rw [show (6 : Int32) = Int32.ofNat 6 from rfl, of_mul, show (31 : Int32) = Int32.ofNat 31 from rfl, of_add, show (1 : Int32) = Int32.ofNat 1 from rfl, of_add]
theorem sx_2 {a : Nat} : ((31 : Int32) + (6 : Int32) * Int32.ofNat a) + (2 : Int32) = Int32.ofNat (31 + 6 * a + 2) := by
  rw [show (6 : Int32) = Int32.ofNat 6 from rfl, of_mul, show (31 : Int32) = Int32.ofNat 31 from rfl, of_add, show (2 : Int32) = Int32.ofNat 2 from rfl, of_add]
theorem sx_3 {a : Nat} : ((31 : Int32) + (6 : Int32) * Int32.ofNat a) + (3 : Int32) = Int32.ofNat (31 + 6 * a + 3) := by
  rw [show (6 : Int32) = Int32.ofNat 6 from rfl, of_mul, show (31 : Int32) = Int32.ofNat 31 from rfl, of_add, show (3 : Int32) = Int32.ofNat 3 from rfl, of_add]
theorem sx_4 {a : Nat} : ((31 : Int32) + (6 : Int32) * Int32.ofNat a) + (4 : Int32) = Int32.ofNat (31 + 6 * a + 4) := by
  rw [show (6 : Int32) = Int32.ofNat 6 from rfl, of_mul, show (31 : Int32) = Int32.ofNat 31 from rfl, of_add, show (4 : Int32) = Int32.ofNat 4 from rfl, of_add]
theorem sx_5 {a : Nat} : ((31 : Int32) + (6 : Int32) * Int32.ofNat a) + (5 : Int32) = Int32.ofNat (31 + 6 * a + 5) := by
  rw [show (6 : Int32) = Int32.ofNat 6 from rfl, of_mul, show (31 : Int32) = Int32.ofNat 31 from rfl, of_add, show (5 : Int32) = Int32.ofNat 5 from rfl, of_add]
theorem o_144 {w : mT} {σ : mS} {t : Nat → Nat} {n : Nat} {g τ : Rw} {nm : Nat → Int32} (hw : lit w) (ht : ∀ i, t i < 256) (hS : rdS σ t n g nm τ) (hV : rV n g τ) : ∃ σ', fQ σ σ' ∧ ((rShp t n g nm τ).1 ≠ 0 → σ'.1 81 9 = Int32.ofNat (rShp t n g nm τ).1) ∧ ((rShp t n g nm τ).1 = 0 → rdS σ' t n (rShp t n g nm τ).2.1 (rShp t n g nm τ).2.2.1 (rShp t n g nm τ).2.2.2) ∧ ∀ {D : Nat} {K : Int32 → Hp → Prop}, 6 ≤ D → (wpI D 144 [.ref 81] (mW w σ) K ↔ K (if (rShp t n g nm τ).1 = 0 then 1 else 0) (mW w σ')) := by
  have hS' := hS
  have hV' := hV
  obtain ⟨hG, hDr, hN⟩ := hS
  obtain ⟨vg, h03, hv, h5⟩ := hV
  have v0 := hv.1
  have v1 := hv.2.1
  have v2 := hv.2.2.1
  have d0 := hDr 2 (by omega)
  obtain ⟨σ1, f1, k1, F1, G1, q1⟩ := o_140 (c := 2) (M := 8) (x := 2) (y := 8) hw ht hS' hV' (by omega) (by omega) (by omega) (fun _ => by omega) rfl rfl
  by_cases z1 : begF t n g nm τ 2 8 = 0
  case neg =>
    have eR : (rShp t n g nm τ) = (begF t n g nm τ 2 8, g, nm, τ) := by
      unfold rShp begF
      unfold begF at z1
      by_cases a : 8 ≤ τ 2
      · rw [if_pos a, if_pos a]
      · rw [if_neg a] at z1
        rw [if_neg a, if_neg a, if_pos z1]
    rw [eR]
    refine ⟨σ1, f1, F1, fun q => absurd q z1, fun hD => cI_of (m := 5) (fun d hd Q hQ => ?_) rfl hD⟩
    have hd1 : 1 ≤ d := by omega
    have hd2 : 2 ≤ d := by omega
    have hd3 : 3 ≤ d := by omega
    have hd4 : 4 ≤ d := by omega
    have hd5 : 5 ≤ d := by omega
    rw [if_neg z1] at hQ
    refine b144_0 ?_
    simp only [↓br_pos, ↓br_neg, ↓rF_I, ↓rF_L, ↓rF_R, ↓rF_N, rO_m, rB_m, ↓rI_m, wI_m, ↓rB2_m, ↓rB3_m, wB2_m, wB3_m, ↓rL_m, wL_m, ↓rQ_m, wQ_m, ↓lI_m, pI_m, pL_m, pR_m, sI_m, sBy_m, sBo_m, sL_m, sQ_m, fst_m, true_and, and_true, tg_some, ln_some, uI_1, uI_2, uL_1, uL_2, uL_3, uQ_1, uQ_2, uQ_3, rv_i, rv_l, rv_n, rv_b0, rv_b1, RMR, ne_eq, reduceCtorEq, not_false_eq_true, Option.getD_some, if_true, if_false, and_self, false_and, and_false, Nat.add_left_cancel_iff, Nat.add_eq_left, Nat.left_eq_add, Nat.one_ne_zero, Nat.reduceAdd, Nat.reduceLT, Nat.reduceLeDiff, Nat.reduceEqDiff, true_implies, false_implies, implies_true, Option.some.injEq, forall_eq', forall_eq, reduceCtorEq, brT, brF, br_s, i_10, i_01, ib_0_2, ib_1_2, tn_0, tn_1, Int32.le_refl, eq_self, rv_bN, rv_iM, RCM 81, RLY, lit_at hw, ix_0, ix_1, ix_2, ix_3, d0, q1 hd4, z1]
    exact hQ
  obtain ⟨K1, N1⟩ := G1 z1
  have a1 : ¬ 8 ≤ τ 2 := fun q => by unfold begF at z1; rw [if_pos q] at z1; omega
  have b1 : nameF t (adv t n g) nm = 0 := by unfold begF at z1; rw [if_neg a1] at z1; exact z1
  have D1 : mDr σ1 τ := mDr_c hDr k1
  have V1 : vG n (gNm t n (adv t n g)) := vG_nm (vG_adv vg)
  have Z1 : (gNm t n (adv t n g)) 3 = 0 := by rw [gNm_3, adv_g (by omega)]; exact h03
  obtain ⟨σ2, f2, F2, G2, q2⟩ := o_143 (A := 31 + 6 * τ 2) (y := Int32.ofNat (31 + 6 * τ 2)) (x := 14849171) (i := 7) (low := 1) (high := 999) hw ht K1 V1 Z1 (by omega) (by omega) rfl (by decide)
  by_cases z2 : toldF t n (gNm t n (adv t n g)) 7 1 999 = 0
  case neg =>
    have eR : (rShp t n g nm τ) = (toldF t n (gNm t n (adv t n g)) 7 1 999, g, nm, τ) := by
      unfold rShp
      rw [if_neg a1, if_neg (fun q => q b1), if_pos z2]
    rw [eR]
    refine ⟨σ2, (fQ_tr f1 f2), F2, fun q => absurd q z2, fun hD => cI_of (m := 5) (fun d hd Q hQ => ?_) rfl hD⟩
    have hd1 : 1 ≤ d := by omega
    have hd2 : 2 ≤ d := by omega
    have hd3 : 3 ≤ d := by omega
    have hd4 : 4 ≤ d := by omega
    have hd5 : 5 ≤ d := by omega
    rw [if_neg z2] at hQ
    refine b144_0 ?_
    simp only [↓br_pos, ↓br_neg, ↓rF_I, ↓rF_L, ↓rF_R, ↓rF_N, rO_m, rB_m, ↓rI_m, wI_m, ↓rB2_m, ↓rB3_m, wB2_m, wB3_m, ↓rL_m, wL_m, ↓rQ_m, wQ_m, ↓lI_m, pI_m, pL_m, pR_m, sI_m, sBy_m, sBo_m, sL_m, sQ_m, fst_m, true_and, and_true, tg_some, ln_some, uI_1, uI_2, uL_1, uL_2, uL_3, uQ_1, uQ_2, uQ_3, rv_i, rv_l, rv_n, rv_b0, rv_b1, RMR, ne_eq, reduceCtorEq, not_false_eq_true, Option.getD_some, if_true, if_false, and_self, false_and, and_false, Nat.add_left_cancel_iff, Nat.add_eq_left, Nat.left_eq_add, Nat.one_ne_zero, Nat.reduceAdd, Nat.reduceLT, Nat.reduceLeDiff, Nat.reduceEqDiff, true_implies, false_implies, implies_true, Option.some.injEq, forall_eq', forall_eq, reduceCtorEq, brT, brF, br_s, i_10, i_01, ib_0_2, ib_1_2, tn_0, tn_1, Int32.le_refl, eq_self, rv_bN, rv_iM, RCM 81, RLY, lit_at hw, sx_0, sx_1, sx_2, sx_3, sx_4, sx_5, ix_2, d0, q1 hd4, z1, q2 hd5, z2]
    exact hQ
  obtain ⟨K2, e2⟩ := G2 z2
  have w2 := told_v (lo := 1) (hi := 999) rfl rfl (by omega) (by omega) z2
  have D2 := dr_143 e2 D1 w2.1
  have N2 := nm_143 e2 N1 (by omega)
  have V2 : vG n (gTd t n (gNm t n (adv t n g))) := vG_td V1
  have Z2 : (gTd t n (gNm t n (adv t n g))) 3 = 0 := by rw [gTd_g (by omega)]; exact Z1
  obtain ⟨σ3, f3, F3, G3, q3⟩ := o_143 (A := 31 + 6 * τ 2 + 1) (y := Int32.ofNat (31 + 6 * τ 2 + 1)) (x := 12791) (i := 8) (low := 0) (high := 999) hw ht K2 V2 Z2 (by omega) (by omega) rfl (by decide)
  by_cases z3 : toldF t n (gTd t n (gNm t n (adv t n g))) 8 0 999 = 0
  case neg =>
    have eR : (rShp t n g nm τ) = (toldF t n (gTd t n (gNm t n (adv t n g))) 8 0 999, g, nm, τ) := by
      unfold rShp
      rw [if_neg a1, if_neg (fun q => q b1), if_neg (fun q => q z2), if_pos z3]
    rw [eR]
    refine ⟨σ3, (fQ_tr (fQ_tr f1 f2) f3), F3, fun q => absurd q z3, fun hD => cI_of (m := 5) (fun d hd Q hQ => ?_) rfl hD⟩
    have hd1 : 1 ≤ d := by omega
    have hd2 : 2 ≤ d := by omega
    have hd3 : 3 ≤ d := by omega
    have hd4 : 4 ≤ d := by omega
    have hd5 : 5 ≤ d := by omega
    rw [if_neg z3] at hQ
    refine b144_0 ?_
    simp only [↓br_pos, ↓br_neg, ↓rF_I, ↓rF_L, ↓rF_R, ↓rF_N, rO_m, rB_m, ↓rI_m, wI_m, ↓rB2_m, ↓rB3_m, wB2_m, wB3_m, ↓rL_m, wL_m, ↓rQ_m, wQ_m, ↓lI_m, pI_m, pL_m, pR_m, sI_m, sBy_m, sBo_m, sL_m, sQ_m, fst_m, true_and, and_true, tg_some, ln_some, uI_1, uI_2, uL_1, uL_2, uL_3, uQ_1, uQ_2, uQ_3, rv_i, rv_l, rv_n, rv_b0, rv_b1, RMR, ne_eq, reduceCtorEq, not_false_eq_true, Option.getD_some, if_true, if_false, and_self, false_and, and_false, Nat.add_left_cancel_iff, Nat.add_eq_left, Nat.left_eq_add, Nat.one_ne_zero, Nat.reduceAdd, Nat.reduceLT, Nat.reduceLeDiff, Nat.reduceEqDiff, true_implies, false_implies, implies_true, Option.some.injEq, forall_eq', forall_eq, reduceCtorEq, brT, brF, br_s, i_10, i_01, ib_0_2, ib_1_2, tn_0, tn_1, Int32.le_refl, eq_self, rv_bN, rv_iM, RCM 81, RLY, lit_at hw, sx_0, sx_1, sx_2, sx_3, sx_4, sx_5, ix_2, d0, q1 hd4, z1, q2 hd5, z2, q3 hd5, z3]
    exact hQ
  obtain ⟨K3, e3⟩ := G3 z3
  have w3 := told_v (lo := 0) (hi := 999) rfl rfl (by omega) (by omega) z3
  have D3 := dr_143 e3 D2 w3.1
  have N3 := nm_143 e3 N2 (by omega)
  have V3 : vG n (gTd t n (gTd t n (gNm t n (adv t n g)))) := vG_td V2
  have Z3 : (gTd t n (gTd t n (gNm t n (adv t n g)))) 3 = 0 := by rw [gTd_g (by omega)]; exact Z2
  have c3 : σ3.1 84 (31 + 6 * τ 2 + 1) = (numV t (adv t n (gTd t n (gNm t n (adv t n g))))) := at_143 e3
  obtain ⟨σ4, f4, F4, G4, q4⟩ := o_143 (A := 31 + 6 * τ 2 + 2) (y := Int32.ofNat (31 + 6 * τ 2 + 2)) (x := 271592) (i := 9) (low := (numV t (adv t n (gTd t n (gNm t n (adv t n g)))))) (high := 999) hw ht K3 V3 Z3 (by omega) (by omega) rfl (by decide)
  by_cases z4 : toldF t n (gTd t n (gTd t n (gNm t n (adv t n g)))) 9 (numV t (adv t n (gTd t n (gNm t n (adv t n g))))) 999 = 0
  case neg =>
    have eR : (rShp t n g nm τ) = (toldF t n (gTd t n (gTd t n (gNm t n (adv t n g)))) 9 (numV t (adv t n (gTd t n (gNm t n (adv t n g))))) 999, g, nm, τ) := by
      unfold rShp
      rw [if_neg a1, if_neg (fun q => q b1), if_neg (fun q => q z2), if_neg (fun q => q z3), if_pos z4]
    rw [eR]
    refine ⟨σ4, (fQ_tr (fQ_tr (fQ_tr f1 f2) f3) f4), F4, fun q => absurd q z4, fun hD => cI_of (m := 5) (fun d hd Q hQ => ?_) rfl hD⟩
    have hd1 : 1 ≤ d := by omega
    have hd2 : 2 ≤ d := by omega
    have hd3 : 3 ≤ d := by omega
    have hd4 : 4 ≤ d := by omega
    have hd5 : 5 ≤ d := by omega
    rw [if_neg z4] at hQ
    refine b144_0 ?_
    simp only [↓br_pos, ↓br_neg, ↓rF_I, ↓rF_L, ↓rF_R, ↓rF_N, rO_m, rB_m, ↓rI_m, wI_m, ↓rB2_m, ↓rB3_m, wB2_m, wB3_m, ↓rL_m, wL_m, ↓rQ_m, wQ_m, ↓lI_m, pI_m, pL_m, pR_m, sI_m, sBy_m, sBo_m, sL_m, sQ_m, fst_m, true_and, and_true, tg_some, ln_some, uI_1, uI_2, uL_1, uL_2, uL_3, uQ_1, uQ_2, uQ_3, rv_i, rv_l, rv_n, rv_b0, rv_b1, RMR, ne_eq, reduceCtorEq, not_false_eq_true, Option.getD_some, if_true, if_false, and_self, false_and, and_false, Nat.add_left_cancel_iff, Nat.add_eq_left, Nat.left_eq_add, Nat.one_ne_zero, Nat.reduceAdd, Nat.reduceLT, Nat.reduceLeDiff, Nat.reduceEqDiff, true_implies, false_implies, implies_true, Option.some.injEq, forall_eq', forall_eq, reduceCtorEq, brT, brF, br_s, i_10, i_01, ib_0_2, ib_1_2, tn_0, tn_1, Int32.le_refl, eq_self, rv_bN, rv_iM, RCM 81, RLY, lit_at hw, sx_0, sx_1, sx_2, sx_3, sx_4, sx_5, ix_2, d0, q1 hd4, z1, q2 hd5, z2, q3 hd5, z3, ix (by omega : 31 + 6 * τ 2 + 1 < 102) (by omega), c3, q4 hd5, z4]
    exact hQ
  obtain ⟨K4, e4⟩ := G4 z4
  have w4 := told_v (lo := (nN t (adv t n (gTd t n (gNm t n (adv t n g)))))) (hi := 999) w3.1 rfl (by omega) (by omega) z4
  have D4 := dr_143 e4 D3 w4.1
  have N4 := nm_143 e4 N3 (by omega)
  have V4 : vG n (gTd t n (gTd t n (gTd t n (gNm t n (adv t n g))))) := vG_td V3
  have Z4 : (gTd t n (gTd t n (gTd t n (gNm t n (adv t n g))))) 3 = 0 := by rw [gTd_g (by omega)]; exact Z3
  obtain ⟨σ5, f5, F5, G5, q5⟩ := o_143 (A := 31 + 6 * τ 2 + 3) (y := Int32.ofNat (31 + 6 * τ 2 + 3)) (x := 4773) (i := 10) (low := 1) (high := 99) hw ht K4 V4 Z4 (by omega) (by omega) rfl (by decide)
  by_cases z5 : toldF t n (gTd t n (gTd t n (gTd t n (gNm t n (adv t n g))))) 10 1 99 = 0
  case neg =>
    have eR : (rShp t n g nm τ) = (toldF t n (gTd t n (gTd t n (gTd t n (gNm t n (adv t n g))))) 10 1 99, g, nm, τ) := by
      unfold rShp
      rw [if_neg a1, if_neg (fun q => q b1), if_neg (fun q => q z2), if_neg (fun q => q z3), if_neg (fun q => q z4), if_pos z5]
    rw [eR]
    refine ⟨σ5, (fQ_tr (fQ_tr (fQ_tr (fQ_tr f1 f2) f3) f4) f5), F5, fun q => absurd q z5, fun hD => cI_of (m := 5) (fun d hd Q hQ => ?_) rfl hD⟩
    have hd1 : 1 ≤ d := by omega
    have hd2 : 2 ≤ d := by omega
    have hd3 : 3 ≤ d := by omega
    have hd4 : 4 ≤ d := by omega
    have hd5 : 5 ≤ d := by omega
    rw [if_neg z5] at hQ
    refine b144_0 ?_
    simp only [↓br_pos, ↓br_neg, ↓rF_I, ↓rF_L, ↓rF_R, ↓rF_N, rO_m, rB_m, ↓rI_m, wI_m, ↓rB2_m, ↓rB3_m, wB2_m, wB3_m, ↓rL_m, wL_m, ↓rQ_m, wQ_m, ↓lI_m, pI_m, pL_m, pR_m, sI_m, sBy_m, sBo_m, sL_m, sQ_m, fst_m, true_and, and_true, tg_some, ln_some, uI_1, uI_2, uL_1, uL_2, uL_3, uQ_1, uQ_2, uQ_3, rv_i, rv_l, rv_n, rv_b0, rv_b1, RMR, ne_eq, reduceCtorEq, not_false_eq_true, Option.getD_some, if_true, if_false, and_self, false_and, and_false, Nat.add_left_cancel_iff, Nat.add_eq_left, Nat.left_eq_add, Nat.one_ne_zero, Nat.reduceAdd, Nat.reduceLT, Nat.reduceLeDiff, Nat.reduceEqDiff, true_implies, false_implies, implies_true, Option.some.injEq, forall_eq', forall_eq, reduceCtorEq, brT, brF, br_s, i_10, i_01, ib_0_2, ib_1_2, tn_0, tn_1, Int32.le_refl, eq_self, rv_bN, rv_iM, RCM 81, RLY, lit_at hw, sx_0, sx_1, sx_2, sx_3, sx_4, sx_5, ix_2, d0, q1 hd4, z1, q2 hd5, z2, q3 hd5, z3, ix (by omega : 31 + 6 * τ 2 + 1 < 102) (by omega), c3, q4 hd5, z4, ix (by omega : 31 + 6 * τ 2 + 1 < 102) (by omega), c3, q5 hd5, z5]
    exact hQ
  obtain ⟨K5, e5⟩ := G5 z5
  have w5 := told_v (lo := 1) (hi := 99) rfl rfl (by omega) (by omega) z5
  have D5 := dr_143 e5 D4 w5.1
  have N5 := nm_143 e5 N4 (by omega)
  have V5 : vG n (gTd t n (gTd t n (gTd t n (gTd t n (gNm t n (adv t n g)))))) := vG_td V4
  have Z5 : (gTd t n (gTd t n (gTd t n (gTd t n (gNm t n (adv t n g)))))) 3 = 0 := by rw [gTd_g (by omega)]; exact Z4
  obtain ⟨σ6, f6, F6, G6, q6⟩ := o_143 (A := 31 + 6 * τ 2 + 4) (y := Int32.ofNat (31 + 6 * τ 2 + 4)) (x := 408612) (i := 11) (low := 1) (high := 20) hw ht K5 V5 Z5 (by omega) (by omega) rfl (by decide)
  by_cases z6 : toldF t n (gTd t n (gTd t n (gTd t n (gTd t n (gNm t n (adv t n g)))))) 11 1 20 = 0
  case neg =>
    have eR : (rShp t n g nm τ) = (toldF t n (gTd t n (gTd t n (gTd t n (gTd t n (gNm t n (adv t n g)))))) 11 1 20, g, nm, τ) := by
      unfold rShp
      rw [if_neg a1, if_neg (fun q => q b1), if_neg (fun q => q z2), if_neg (fun q => q z3), if_neg (fun q => q z4), if_neg (fun q => q z5), if_pos z6]
    rw [eR]
    refine ⟨σ6, (fQ_tr (fQ_tr (fQ_tr (fQ_tr (fQ_tr f1 f2) f3) f4) f5) f6), F6, fun q => absurd q z6, fun hD => cI_of (m := 5) (fun d hd Q hQ => ?_) rfl hD⟩
    have hd1 : 1 ≤ d := by omega
    have hd2 : 2 ≤ d := by omega
    have hd3 : 3 ≤ d := by omega
    have hd4 : 4 ≤ d := by omega
    have hd5 : 5 ≤ d := by omega
    rw [if_neg z6] at hQ
    refine b144_0 ?_
    simp only [↓br_pos, ↓br_neg, ↓rF_I, ↓rF_L, ↓rF_R, ↓rF_N, rO_m, rB_m, ↓rI_m, wI_m, ↓rB2_m, ↓rB3_m, wB2_m, wB3_m, ↓rL_m, wL_m, ↓rQ_m, wQ_m, ↓lI_m, pI_m, pL_m, pR_m, sI_m, sBy_m, sBo_m, sL_m, sQ_m, fst_m, true_and, and_true, tg_some, ln_some, uI_1, uI_2, uL_1, uL_2, uL_3, uQ_1, uQ_2, uQ_3, rv_i, rv_l, rv_n, rv_b0, rv_b1, RMR, ne_eq, reduceCtorEq, not_false_eq_true, Option.getD_some, if_true, if_false, and_self, false_and, and_false, Nat.add_left_cancel_iff, Nat.add_eq_left, Nat.left_eq_add, Nat.one_ne_zero, Nat.reduceAdd, Nat.reduceLT, Nat.reduceLeDiff, Nat.reduceEqDiff, true_implies, false_implies, implies_true, Option.some.injEq, forall_eq', forall_eq, reduceCtorEq, brT, brF, br_s, i_10, i_01, ib_0_2, ib_1_2, tn_0, tn_1, Int32.le_refl, eq_self, rv_bN, rv_iM, RCM 81, RLY, lit_at hw, sx_0, sx_1, sx_2, sx_3, sx_4, sx_5, ix_2, d0, q1 hd4, z1, q2 hd5, z2, q3 hd5, z3, ix (by omega : 31 + 6 * τ 2 + 1 < 102) (by omega), c3, q4 hd5, z4, ix (by omega : 31 + 6 * τ 2 + 1 < 102) (by omega), c3, q5 hd5, z5, ix (by omega : 31 + 6 * τ 2 + 1 < 102) (by omega), c3, q6 hd5, z6]
    exact hQ
  obtain ⟨K6, e6⟩ := G6 z6
  have w6 := told_v (lo := 1) (hi := 20) rfl rfl (by omega) (by omega) z6
  have D6 := dr_143 e6 D5 w6.1
  have N6 := nm_143 e6 N5 (by omega)
  have V6 : vG n (gTd t n (gTd t n (gTd t n (gTd t n (gTd t n (gNm t n (adv t n g))))))) := vG_td V5
  have Z6 : (gTd t n (gTd t n (gTd t n (gTd t n (gTd t n (gNm t n (adv t n g))))))) 3 = 0 := by rw [gTd_g (by omega)]; exact Z5
  have c6 : σ6.1 84 2 = Int32.ofNat (τ 2) := by
    have := D6 2 (by omega)
    rw [rS_ne (by omega), rS_ne (by omega), rS_ne (by omega), rS_ne (by omega), rS_ne (by omega)] at this; exact this
  have n2 : (2 = 31 + 6 * τ 2 + 5) ↔ False := iff_false_intro (by omega)
  have K7 : mG (uI σ6 84 (31 + 6 * τ 2 + 5) 0) t n (gTd t n (gTd t n (gTd t n (gTd t n (gTd t n (gNm t n (adv t n g))))))) := mG_D K6
  have e134 := fun {d : Nat} (hd : 1 ≤ d) {K : Int32 → Hp → Prop} => g_134 (K := K) (D := d) (x := 206277) (i := 12) hw K7 V6 (by omega) (by decide) hd
  have D7 := mDr_S (A := 31 + 6 * τ 2 + 5) (a := 0) (x := 0) D6 rfl
  have N7 := nmR_D (A := 31 + 6 * τ 2 + 5) (x := 0) N6 (by omega)
  by_cases y : sayP t (gTd t n (gTd t n (gTd t n (gTd t n (gTd t n (gNm t n (adv t n g))))))) 12
  case neg =>
    have eR : (rShp t n g nm τ) = (0, (gTd t n (gTd t n (gTd t n (gTd t n (gTd t n (gNm t n (adv t n g))))))), nmS nm (adv t n g 5) (cdN t (adv t n g)), tShp τ (nN t (adv t n (gNm t n (adv t n g)))) (nN t (adv t n (gTd t n (gNm t n (adv t n g))))) (nN t (adv t n (gTd t n (gTd t n (gNm t n (adv t n g)))))) (nN t (adv t n (gTd t n (gTd t n (gTd t n (gNm t n (adv t n g))))))) (nN t (adv t n (gTd t n (gTd t n (gTd t n (gTd t n (gNm t n (adv t n g)))))))) 0) := by
      unfold rShp
      rw [if_neg a1, if_neg (fun q => q b1), if_neg (fun q => q z2), if_neg (fun q => q z3), if_neg (fun q => q z4), if_neg (fun q => q z5), if_neg (fun q => q z6), if_pos y]
    rw [eR]
    refine ⟨uI (uI σ6 84 (31 + 6 * τ 2 + 5) 0) 84 2 (Int32.ofNat (τ 2 + 1)), fQ_tr (fQ_tr (fQ_tr (fQ_tr (fQ_tr (fQ_tr f1 f2) f3) f4) f5) f6) (fQ_tr fQ_D fQ_D), fun q => absurd rfl q, fun _ => ⟨mG_D K7, mDr_S D7 rfl, ?_⟩, fun hD => cI_of (m := 5) (fun d hd Q hQ => ?_) rfl hD⟩
    · show nmR _ t ((gTd t n (gTd t n (gTd t n (gTd t n (gTd t n (gNm t n (adv t n g))))))) 5) _
      rw [show (gTd t n (gTd t n (gTd t n (gTd t n (gTd t n (gNm t n (adv t n g))))))) 5 = g 5 + 1 by rw [gTd_g (by omega), gTd_g (by omega), gTd_g (by omega), gTd_g (by omega), gTd_g (by omega), gNm_5, adv_g (by omega)]]
      exact nmR_D N7 (by omega)
    · have hd1 : 1 ≤ d := by omega
      have hd2 : 2 ≤ d := by omega
      have hd3 : 3 ≤ d := by omega
      have hd4 : 4 ≤ d := by omega
      have hd5 : 5 ≤ d := by omega
      rw [if_pos rfl] at hQ
      refine b144_0 ?_
      simp only [↓br_pos, ↓br_neg, ↓rF_I, ↓rF_L, ↓rF_R, ↓rF_N, rO_m, rB_m, ↓rI_m, wI_m, ↓rB2_m, ↓rB3_m, wB2_m, wB3_m, ↓rL_m, wL_m, ↓rQ_m, wQ_m, ↓lI_m, pI_m, pL_m, pR_m, sI_m, sBy_m, sBo_m, sL_m, sQ_m, fst_m, true_and, and_true, tg_some, ln_some, uI_1, uI_2, uL_1, uL_2, uL_3, uQ_1, uQ_2, uQ_3, rv_i, rv_l, rv_n, rv_b0, rv_b1, RMR, ne_eq, reduceCtorEq, not_false_eq_true, Option.getD_some, if_true, if_false, and_self, false_and, and_false, Nat.add_left_cancel_iff, Nat.add_eq_left, Nat.left_eq_add, Nat.one_ne_zero, Nat.reduceAdd, Nat.reduceLT, Nat.reduceLeDiff, Nat.reduceEqDiff, true_implies, false_implies, implies_true, Option.some.injEq, forall_eq', forall_eq, reduceCtorEq, brT, brF, br_s, i_10, i_01, ib_0_2, ib_1_2, tn_0, tn_1, Int32.le_refl, eq_self, rv_bN, rv_iM, RCM 81, RLY, lit_at hw, sx_0, sx_1, sx_2, sx_3, sx_4, sx_5, ix_2, d0, q1 hd4, z1, q2 hd5, z2, q3 hd5, z3, ix (by omega : 31 + 6 * τ 2 + 1 < 102) (by omega), c3, q4 hd5, z4, ix (by omega : 31 + 6 * τ 2 + 1 < 102) (by omega), c3, q5 hd5, z5, ix (by omega : 31 + 6 * τ 2 + 1 < 102) (by omega), c3, q6 hd5, z6, ix (by omega : 31 + 6 * τ 2 + 5 < 102) (by omega), e134 hd1, iB_f y, n2, c6, on_succ]
      exact hQ
  obtain ⟨σ8, f8', F8, G8, q8⟩ := o_143 (A := 31 + 6 * τ 2 + 5) (y := Int32.ofNat (31 + 6 * τ 2 + 5)) (x := 206277) (i := 12) (low := 0) (high := 999) hw ht K7 V6 Z6 (by omega) (by omega) rfl (by decide)
  by_cases z8 : toldF t n (gTd t n (gTd t n (gTd t n (gTd t n (gTd t n (gNm t n (adv t n g))))))) 12 0 999 = 0
  case neg =>
    have eR : (rShp t n g nm τ) = (toldF t n (gTd t n (gTd t n (gTd t n (gTd t n (gTd t n (gNm t n (adv t n g))))))) 12 0 999, g, nm, τ) := by
      unfold rShp
      rw [if_neg a1, if_neg (fun q => q b1), if_neg (fun q => q z2), if_neg (fun q => q z3), if_neg (fun q => q z4), if_neg (fun q => q z5), if_neg (fun q => q z6), if_neg (fun q => q y), if_pos z8]
    rw [eR]
    refine ⟨σ8, fQ_tr (fQ_tr (fQ_tr (fQ_tr (fQ_tr (fQ_tr f1 f2) f3) f4) f5) f6) (fQ_tr fQ_D f8'), F8, fun q => absurd q z8, fun hD => cI_of (m := 5) (fun d hd Q hQ => ?_) rfl hD⟩
    have hd1 : 1 ≤ d := by omega
    have hd2 : 2 ≤ d := by omega
    have hd3 : 3 ≤ d := by omega
    have hd4 : 4 ≤ d := by omega
    have hd5 : 5 ≤ d := by omega
    rw [if_neg z8] at hQ
    refine b144_0 ?_
    simp only [↓br_pos, ↓br_neg, ↓rF_I, ↓rF_L, ↓rF_R, ↓rF_N, rO_m, rB_m, ↓rI_m, wI_m, ↓rB2_m, ↓rB3_m, wB2_m, wB3_m, ↓rL_m, wL_m, ↓rQ_m, wQ_m, ↓lI_m, pI_m, pL_m, pR_m, sI_m, sBy_m, sBo_m, sL_m, sQ_m, fst_m, true_and, and_true, tg_some, ln_some, uI_1, uI_2, uL_1, uL_2, uL_3, uQ_1, uQ_2, uQ_3, rv_i, rv_l, rv_n, rv_b0, rv_b1, RMR, ne_eq, reduceCtorEq, not_false_eq_true, Option.getD_some, if_true, if_false, and_self, false_and, and_false, Nat.add_left_cancel_iff, Nat.add_eq_left, Nat.left_eq_add, Nat.one_ne_zero, Nat.reduceAdd, Nat.reduceLT, Nat.reduceLeDiff, Nat.reduceEqDiff, true_implies, false_implies, implies_true, Option.some.injEq, forall_eq', forall_eq, reduceCtorEq, brT, brF, br_s, i_10, i_01, ib_0_2, ib_1_2, tn_0, tn_1, Int32.le_refl, eq_self, rv_bN, rv_iM, RCM 81, RLY, lit_at hw, sx_0, sx_1, sx_2, sx_3, sx_4, sx_5, ix_2, d0, q1 hd4, z1, q2 hd5, z2, q3 hd5, z3, ix (by omega : 31 + 6 * τ 2 + 1 < 102) (by omega), c3, q4 hd5, z4, ix (by omega : 31 + 6 * τ 2 + 1 < 102) (by omega), c3, q5 hd5, z5, ix (by omega : 31 + 6 * τ 2 + 1 < 102) (by omega), c3, q6 hd5, z6, ix (by omega : 31 + 6 * τ 2 + 5 < 102) (by omega), e134 hd1, iB_t y, z10, q8 hd5, z8]
    exact hQ
  obtain ⟨K8, e8⟩ := G8 z8
  have w8 := told_v (lo := 0) (hi := 999) rfl rfl (by omega) (by omega) z8
  have D8 := dr_143 e8 D7 w8.1
  have N8 := nm_143 e8 N7 (by omega)
  rw [rSet_2] at D8
  have eR : (rShp t n g nm τ) = (0, (gTd t n (gTd t n (gTd t n (gTd t n (gTd t n (gTd t n (gNm t n (adv t n g)))))))), nmS nm (adv t n g 5) (cdN t (adv t n g)), tShp τ (nN t (adv t n (gNm t n (adv t n g)))) (nN t (adv t n (gTd t n (gNm t n (adv t n g))))) (nN t (adv t n (gTd t n (gTd t n (gNm t n (adv t n g)))))) (nN t (adv t n (gTd t n (gTd t n (gTd t n (gNm t n (adv t n g))))))) (nN t (adv t n (gTd t n (gTd t n (gTd t n (gTd t n (gNm t n (adv t n g)))))))) (nN t (adv t n (gTd t n (gTd t n (gTd t n (gTd t n (gTd t n (gNm t n (adv t n g)))))))))) := by
    unfold rShp
    rw [if_neg a1, if_neg (fun q => q b1), if_neg (fun q => q z2), if_neg (fun q => q z3), if_neg (fun q => q z4), if_neg (fun q => q z5), if_neg (fun q => q z6), if_neg (fun q => q y), if_neg (fun q => q z8)]
  rw [eR]
  have c8 : σ8.1 84 2 = Int32.ofNat (τ 2) := by
    have := D8 2 (by omega)
    rw [rS_ne (by omega), rS_ne (by omega), rS_ne (by omega), rS_ne (by omega), rS_ne (by omega), rS_ne (by omega)] at this; exact this
  refine ⟨uI σ8 84 2 (Int32.ofNat (τ 2 + 1)), fQ_tr (fQ_tr (fQ_tr (fQ_tr (fQ_tr (fQ_tr f1 f2) f3) f4) f5) f6) (fQ_tr fQ_D (fQ_tr f8' fQ_D)), fun q => absurd rfl q, fun _ => ⟨mG_D K8, mDr_S D8 rfl, ?_⟩, fun hD => cI_of (m := 5) (fun d hd Q hQ => ?_) rfl hD⟩
  · show nmR _ t ((gTd t n (gTd t n (gTd t n (gTd t n (gTd t n (gTd t n (gNm t n (adv t n g)))))))) 5) _
    rw [show (gTd t n (gTd t n (gTd t n (gTd t n (gTd t n (gTd t n (gNm t n (adv t n g)))))))) 5 = g 5 + 1 by rw [gTd_g (by omega), gTd_g (by omega), gTd_g (by omega), gTd_g (by omega), gTd_g (by omega), gTd_g (by omega), gNm_5, adv_g (by omega)]]
    exact nmR_D N8 (by omega)
  · have hd1 : 1 ≤ d := by omega
    have hd2 : 2 ≤ d := by omega
    have hd3 : 3 ≤ d := by omega
    have hd4 : 4 ≤ d := by omega
    have hd5 : 5 ≤ d := by omega
    rw [if_pos rfl] at hQ
    refine b144_0 ?_
    simp only [↓br_pos, ↓br_neg, ↓rF_I, ↓rF_L, ↓rF_R, ↓rF_N, rO_m, rB_m, ↓rI_m, wI_m, ↓rB2_m, ↓rB3_m, wB2_m, wB3_m, ↓rL_m, wL_m, ↓rQ_m, wQ_m, ↓lI_m, pI_m, pL_m, pR_m, sI_m, sBy_m, sBo_m, sL_m, sQ_m, fst_m, true_and, and_true, tg_some, ln_some, uI_1, uI_2, uL_1, uL_2, uL_3, uQ_1, uQ_2, uQ_3, rv_i, rv_l, rv_n, rv_b0, rv_b1, RMR, ne_eq, reduceCtorEq, not_false_eq_true, Option.getD_some, if_true, if_false, and_self, false_and, and_false, Nat.add_left_cancel_iff, Nat.add_eq_left, Nat.left_eq_add, Nat.one_ne_zero, Nat.reduceAdd, Nat.reduceLT, Nat.reduceLeDiff, Nat.reduceEqDiff, true_implies, false_implies, implies_true, Option.some.injEq, forall_eq', forall_eq, reduceCtorEq, brT, brF, br_s, i_10, i_01, ib_0_2, ib_1_2, tn_0, tn_1, Int32.le_refl, eq_self, rv_bN, rv_iM, RCM 81, RLY, lit_at hw, sx_0, sx_1, sx_2, sx_3, sx_4, sx_5, ix_2, d0, q1 hd4, z1, q2 hd5, z2, q3 hd5, z3, ix (by omega : 31 + 6 * τ 2 + 1 < 102) (by omega), c3, q4 hd5, z4, ix (by omega : 31 + 6 * τ 2 + 1 < 102) (by omega), c3, q5 hd5, z5, ix (by omega : 31 + 6 * τ 2 + 1 < 102) (by omega), c3, q6 hd5, z6, ix (by omega : 31 + 6 * τ 2 + 5 < 102) (by omega), e134 hd1, iB_t y, z10, q8 hd5, z8, c8, on_succ]
    exact hQ
theorem mG_4 {σ : mS} {t : Nat → Nat} {n : Nat} {g : Rw} (h : mG σ t n g) : mG (uI σ 81 14 1) t n (rSet g 4 1) := by
  obtain ⟨hB, a, b, c, e, f, i, j, k⟩ := h
  refine ⟨⟨fun q hq => by rw [uI_o (by omega)]; exact hB.1 q hq, by rw [uI_1, if_neg (by omega)]; exact hB.2⟩, ?_, ?_, ?_, ?_, ?_, ?_, ?_, ?_⟩
  · rw [uI_1, if_neg (by omega), rS_ne (by omega)]; exact a
  · rw [uI_1, if_neg (by omega), rS_ne (by omega)]; exact b
  · rw [uI_1, if_neg (by omega), rS_ne (by omega)]; exact c
  · rw [uI_1, if_neg (by omega), rS_ne (by omega)]; exact e
  · rw [uI_1, if_neg (by omega), rS_ne (by omega), rS_ne (by omega), rS_ne (by omega)]; exact f
  · rw [uI_1, if_neg (by omega), rS_ne (by omega)]; exact i
  · rw [uI_1, if_pos ⟨rfl, rfl⟩, rS_eq]; rfl
  · rw [uI_1, if_neg (by omega), rS_ne (by omega)]; exact k
theorem o_145 {w : mT} {σ : mS} {t : Nat → Nat} {n : Nat} {g τ : Rw} {nm : Nat → Int32} (hw : lit w) (ht : ∀ i, t i < 256) (hS : rdS σ t n g nm τ) (hV : rV n g τ) (h4 : g 4 ≤ 1) : ∃ σ', fQ σ σ' ∧ ((rGap t n g nm τ).1 ≠ 0 → σ'.1 81 9 = Int32.ofNat (rGap t n g nm τ).1) ∧ ((rGap t n g nm τ).1 = 0 → rdS σ' t n (rGap t n g nm τ).2.1 (rGap t n g nm τ).2.2.1 (rGap t n g nm τ).2.2.2) ∧ ∀ {D : Nat} {K : Int32 → Hp → Prop}, 6 ≤ D → (wpI D 145 [.ref 81] (mW w σ) K ↔ K (if (rGap t n g nm τ).1 = 0 then 1 else 0) (mW w σ')) := by
  obtain ⟨hG, hDr, hN⟩ := hS
  obtain ⟨vg, h03, hv, h5⟩ := hV
  have h90 : σ.1 81 9 = 0 := by rw [hG.2.2.2.2.2.2.1, h03]; rfl
  have h14 := hG.2.2.2.2.2.2.2.1
  by_cases a : g 4 = 0
  case neg =>
    have eR : (rGap t n g nm τ) = (8 * g 0 + 2, g, nm, τ) := by unfold rGap; rw [if_pos a]
    have n0 : ¬ (8 * g 0 + 2 = 0) := by omega
    have c1 : (Int32.ofNat (g 4) = 0) ↔ False := iff_false_intro (fun q => a ((of_eq0 (by omega)).mp q))
    rw [eR]
    refine ⟨uI σ 81 9 (Int32.ofNat (8 * g 0 + 2)), fQ_8 (f8_I (by omega)), fun _ => by rw [uI_1, if_pos ⟨rfl, rfl⟩], fun q => absurd q n0, fun hD => cI_of (m := 5) (fun d hd Q hQ => ?_) rfl hD⟩
    have hd1 : 1 ≤ d := by omega
    have hd2 : 2 ≤ d := by omega
    have hd3 : 3 ≤ d := by omega
    have hd4 : 4 ≤ d := by omega
    have hd5 : 5 ≤ d := by omega
    rw [if_neg n0] at hQ
    refine b145_0 ?_
    simp only [↓br_pos, ↓br_neg, ↓rF_I, ↓rF_L, ↓rF_R, ↓rF_N, rO_m, rB_m, ↓rI_m, wI_m, ↓rB2_m, ↓rB3_m, wB2_m, wB3_m, ↓rL_m, wL_m, ↓rQ_m, wQ_m, ↓lI_m, pI_m, pL_m, pR_m, sI_m, sBy_m, sBo_m, sL_m, sQ_m, fst_m, true_and, and_true, tg_some, ln_some, uI_1, uI_2, uL_1, uL_2, uL_3, uQ_1, uQ_2, uQ_3, rv_i, rv_l, rv_n, rv_b0, rv_b1, RMR, ne_eq, reduceCtorEq, not_false_eq_true, Option.getD_some, if_true, if_false, and_self, false_and, and_false, Nat.add_left_cancel_iff, Nat.add_eq_left, Nat.left_eq_add, Nat.one_ne_zero, Nat.reduceAdd, Nat.reduceLT, Nat.reduceLeDiff, Nat.reduceEqDiff, true_implies, false_implies, implies_true, Option.some.injEq, forall_eq', forall_eq, reduceCtorEq, brT, brF, br_s, i_10, i_01, ib_0_2, ib_1_2, tn_0, tn_1, Int32.le_refl, eq_self, rv_bN, rv_iM, RCM 81, RLY, lit_at hw, h14, c1, g_136 (a := 2) (x := 2) hw h90 hG.2.1 rfl hd1]
    exact hQ
  have c1 : (Int32.ofNat (g 4) = 0) ↔ True := iff_true_intro (by rw [a]; rfl)
  have vg' : vG n (rSet g 4 1) := ⟨by rw [rS_ne (by omega), rS_ne (by omega)]; exact vg.1, by rw [rS_ne (by omega)]; exact vg.2.1, vg.2.2.1, by rw [rS_ne (by omega)]; exact vg.2.2.2⟩
  obtain ⟨σ1, f1, F1, G1, q1⟩ := o_143 (A := 3) (y := 3) (x := 7216) (i := 3) (low := 0) (high := 3) hw ht (mG_4 hG) vg' (by rw [rS_ne (by omega)]; exact h03) (by omega) (by omega) rfl (by decide)
  have fr : fQ σ σ1 := fQ_tr (fQ_8 (f8_I (j := 14) (x := 1) (by omega))) f1
  by_cases z : toldF t n (rSet g 4 1) 3 0 3 = 0
  case neg =>
    have eR : (rGap t n g nm τ) = (toldF t n (rSet g 4 1) 3 0 3, g, nm, τ) := by unfold rGap; rw [if_neg (fun q => q a), if_pos z]
    rw [eR]
    refine ⟨σ1, fr, F1, fun q => absurd q z, fun hD => cI_of (m := 5) (fun d hd Q hQ => ?_) rfl hD⟩
    have hd1 : 1 ≤ d := by omega
    have hd2 : 2 ≤ d := by omega
    have hd3 : 3 ≤ d := by omega
    have hd4 : 4 ≤ d := by omega
    have hd5 : 5 ≤ d := by omega
    rw [if_neg z] at hQ
    refine b145_0 ?_
    simp only [↓br_pos, ↓br_neg, ↓rF_I, ↓rF_L, ↓rF_R, ↓rF_N, rO_m, rB_m, ↓rI_m, wI_m, ↓rB2_m, ↓rB3_m, wB2_m, wB3_m, ↓rL_m, wL_m, ↓rQ_m, wQ_m, ↓lI_m, pI_m, pL_m, pR_m, sI_m, sBy_m, sBo_m, sL_m, sQ_m, fst_m, true_and, and_true, tg_some, ln_some, uI_1, uI_2, uL_1, uL_2, uL_3, uQ_1, uQ_2, uQ_3, rv_i, rv_l, rv_n, rv_b0, rv_b1, RMR, ne_eq, reduceCtorEq, not_false_eq_true, Option.getD_some, if_true, if_false, and_self, false_and, and_false, Nat.add_left_cancel_iff, Nat.add_eq_left, Nat.left_eq_add, Nat.one_ne_zero, Nat.reduceAdd, Nat.reduceLT, Nat.reduceLeDiff, Nat.reduceEqDiff, true_implies, false_implies, implies_true, Option.some.injEq, forall_eq', forall_eq, reduceCtorEq, brT, brF, br_s, i_10, i_01, ib_0_2, ib_1_2, tn_0, tn_1, Int32.le_refl, eq_self, rv_bN, rv_iM, RCM 81, RLY, lit_at hw, h14, c1, q1 hd, z]
    exact hQ
  have eR : (rGap t n g nm τ) = (0, gTd t n (rSet g 4 1), nm, rSet τ 3 (nN t (adv t n (rSet g 4 1)))) := by unfold rGap; rw [if_neg (fun q => q a), if_neg (fun q => q z)]
  obtain ⟨K1, e1⟩ := G1 z
  have w1 := told_v (lo := 0) (hi := 3) rfl rfl (by omega) (by omega) z
  rw [eR]
  refine ⟨σ1, fr, fun q => absurd rfl q, fun _ => ⟨K1, dr_143 e1 (mDr_c hDr (fun j _ => by rw [uI_1, if_neg (by omega)])) w1.1, ?_⟩, fun hD => cI_of (m := 5) (fun d hd Q hQ => ?_) rfl hD⟩
  · show nmR _ t (gTd t n (rSet g 4 1) 5) _
    rw [gTd_g (by omega), rS_ne (by omega)]
    exact nm_143 e1 (nmR_c hN (fun j _ => by rw [uI_1, if_neg (by omega)])) (by omega)
  · have hd1 : 1 ≤ d := by omega
    have hd2 : 2 ≤ d := by omega
    have hd3 : 3 ≤ d := by omega
    have hd4 : 4 ≤ d := by omega
    have hd5 : 5 ≤ d := by omega
    rw [if_pos rfl] at hQ
    refine b145_0 ?_
    simp only [↓br_pos, ↓br_neg, ↓rF_I, ↓rF_L, ↓rF_R, ↓rF_N, rO_m, rB_m, ↓rI_m, wI_m, ↓rB2_m, ↓rB3_m, wB2_m, wB3_m, ↓rL_m, wL_m, ↓rQ_m, wQ_m, ↓lI_m, pI_m, pL_m, pR_m, sI_m, sBy_m, sBo_m, sL_m, sQ_m, fst_m, true_and, and_true, tg_some, ln_some, uI_1, uI_2, uL_1, uL_2, uL_3, uQ_1, uQ_2, uQ_3, rv_i, rv_l, rv_n, rv_b0, rv_b1, RMR, ne_eq, reduceCtorEq, not_false_eq_true, Option.getD_some, if_true, if_false, and_self, false_and, and_false, Nat.add_left_cancel_iff, Nat.add_eq_left, Nat.left_eq_add, Nat.one_ne_zero, Nat.reduceAdd, Nat.reduceLT, Nat.reduceLeDiff, Nat.reduceEqDiff, true_implies, false_implies, implies_true, Option.some.injEq, forall_eq', forall_eq, reduceCtorEq, brT, brF, br_s, i_10, i_01, ib_0_2, ib_1_2, tn_0, tn_1, Int32.le_refl, eq_self, rv_bN, rv_iM, RCM 81, RLY, lit_at hw, h14, c1, q1 hd, z]
    exact hQ
theorem o_146 {w : mT} {σ : mS} {t : Nat → Nat} {n : Nat} {g τ : Rw} {nm : Nat → Int32} (hw : lit w) (ht : ∀ i, t i < 256) (hS : rdS σ t n g nm τ) (hV : rV n g τ) (h4 : g 4 ≤ 1) : ∃ σ', fQ σ σ' ∧ ((rBody t n g nm τ).1 ≠ 0 → σ'.1 81 9 = Int32.ofNat (rBody t n g nm τ).1) ∧ ((rBody t n g nm τ).1 = 0 → rdS σ' t n (rBody t n g nm τ).2.1 (rBody t n g nm τ).2.2.1 (rBody t n g nm τ).2.2.2) ∧ ∀ {D : Nat} {K : Int32 → Hp → Prop}, 7 ≤ D → (wpI D 146 [.ref 81] (mW w σ) K ↔ K (if (rBody t n g nm τ).1 = 0 then 1 else 0) (mW w σ')) := by
  have hS' := hS
  have hV' := hV
  obtain ⟨hG, hDr, hN⟩ := hS
  obtain ⟨vg, h03, hv, h5⟩ := hV
  have h90 : σ.1 81 9 = 0 := by rw [hG.2.2.2.2.2.2.1, h03]; rfl
  have e0 := fun {d : Nat} (hd : 1 ≤ d) {K : Int32 → Hp → Prop} => g_134 (K := K) (D := d) (x := 12788) (i := 0) hw hG vg (by omega) (by decide) hd
  have e1 := fun {d : Nat} (hd : 1 ≤ d) {K : Int32 → Hp → Prop} => g_134 (K := K) (D := d) (x := 533893) (i := 1) hw hG vg (by omega) (by decide) hd
  have e2 := fun {d : Nat} (hd : 1 ≤ d) {K : Int32 → Hp → Prop} => g_134 (K := K) (D := d) (x := 631088) (i := 2) hw hG vg (by omega) (by decide) hd
  have e3 := fun {d : Nat} (hd : 1 ≤ d) {K : Int32 → Hp → Prop} => g_134 (K := K) (D := d) (x := 7216) (i := 3) hw hG vg (by omega) (by decide) hd
  unfold rBody
  by_cases y0 : sayP t g 0
  · rw [if_pos y0]
    obtain ⟨σ', f', F', G', q'⟩ := o_141 hw ht hS' hV'
    refine ⟨σ', f', F', G', fun hD => cI_of (m := 6) (fun d hd Q hQ => ?_) rfl hD⟩
    have hd1 : 1 ≤ d := by omega
    have hd2 : 2 ≤ d := by omega
    have hd3 : 3 ≤ d := by omega
    have hd4 : 4 ≤ d := by omega
    have hd5 : 5 ≤ d := by omega
    have hd6 : 6 ≤ d := by omega
    refine b146_0 ?_
    simp only [↓br_pos, ↓br_neg, ↓rF_I, ↓rF_L, ↓rF_R, ↓rF_N, rO_m, rB_m, ↓rI_m, wI_m, ↓rB2_m, ↓rB3_m, wB2_m, wB3_m, ↓rL_m, wL_m, ↓rQ_m, wQ_m, ↓lI_m, pI_m, pL_m, pR_m, sI_m, sBy_m, sBo_m, sL_m, sQ_m, fst_m, true_and, and_true, tg_some, ln_some, uI_1, uI_2, uL_1, uL_2, uL_3, uQ_1, uQ_2, uQ_3, rv_i, rv_l, rv_n, rv_b0, rv_b1, RMR, ne_eq, reduceCtorEq, not_false_eq_true, Option.getD_some, if_true, if_false, and_self, false_and, and_false, Nat.add_left_cancel_iff, Nat.add_eq_left, Nat.left_eq_add, Nat.one_ne_zero, Nat.reduceAdd, Nat.reduceLT, Nat.reduceLeDiff, Nat.reduceEqDiff, true_implies, false_implies, implies_true, Option.some.injEq, forall_eq', forall_eq, reduceCtorEq, brT, brF, br_s, i_10, i_01, ib_0_2, ib_1_2, tn_0, tn_1, Int32.le_refl, eq_self, rv_bN, rv_iM, RCM 81, RLY, lit_at hw, e0 hd1, iB_t y0, z10, z00, q' hd5]
    exact ⟨by split <;> rfl, hQ⟩
  rw [if_neg y0]
  by_cases y1 : sayP t g 1
  · rw [if_pos y1]
    obtain ⟨σ', f', F', G', q'⟩ := o_142 hw ht hS' hV'
    refine ⟨σ', f', F', G', fun hD => cI_of (m := 6) (fun d hd Q hQ => ?_) rfl hD⟩
    have hd1 : 1 ≤ d := by omega
    have hd2 : 2 ≤ d := by omega
    have hd3 : 3 ≤ d := by omega
    have hd4 : 4 ≤ d := by omega
    have hd5 : 5 ≤ d := by omega
    have hd6 : 6 ≤ d := by omega
    refine b146_0 ?_
    simp only [↓br_pos, ↓br_neg, ↓rF_I, ↓rF_L, ↓rF_R, ↓rF_N, rO_m, rB_m, ↓rI_m, wI_m, ↓rB2_m, ↓rB3_m, wB2_m, wB3_m, ↓rL_m, wL_m, ↓rQ_m, wQ_m, ↓lI_m, pI_m, pL_m, pR_m, sI_m, sBy_m, sBo_m, sL_m, sQ_m, fst_m, true_and, and_true, tg_some, ln_some, uI_1, uI_2, uL_1, uL_2, uL_3, uQ_1, uQ_2, uQ_3, rv_i, rv_l, rv_n, rv_b0, rv_b1, RMR, ne_eq, reduceCtorEq, not_false_eq_true, Option.getD_some, if_true, if_false, and_self, false_and, and_false, Nat.add_left_cancel_iff, Nat.add_eq_left, Nat.left_eq_add, Nat.one_ne_zero, Nat.reduceAdd, Nat.reduceLT, Nat.reduceLeDiff, Nat.reduceEqDiff, true_implies, false_implies, implies_true, Option.some.injEq, forall_eq', forall_eq, reduceCtorEq, brT, brF, br_s, i_10, i_01, ib_0_2, ib_1_2, tn_0, tn_1, Int32.le_refl, eq_self, rv_bN, rv_iM, RCM 81, RLY, lit_at hw, e0 hd1, iB_f y0, e1 hd1, iB_t y1, z10, z00, q' hd5]
    exact ⟨by split <;> rfl, hQ⟩
  rw [if_neg y1]
  by_cases y2 : sayP t g 2
  · rw [if_pos y2]
    obtain ⟨σ', f', F', G', q'⟩ := o_144 hw ht hS' hV'
    refine ⟨σ', f', F', G', fun hD => cI_of (m := 6) (fun d hd Q hQ => ?_) rfl hD⟩
    have hd1 : 1 ≤ d := by omega
    have hd2 : 2 ≤ d := by omega
    have hd3 : 3 ≤ d := by omega
    have hd4 : 4 ≤ d := by omega
    have hd5 : 5 ≤ d := by omega
    have hd6 : 6 ≤ d := by omega
    refine b146_0 ?_
    simp only [↓br_pos, ↓br_neg, ↓rF_I, ↓rF_L, ↓rF_R, ↓rF_N, rO_m, rB_m, ↓rI_m, wI_m, ↓rB2_m, ↓rB3_m, wB2_m, wB3_m, ↓rL_m, wL_m, ↓rQ_m, wQ_m, ↓lI_m, pI_m, pL_m, pR_m, sI_m, sBy_m, sBo_m, sL_m, sQ_m, fst_m, true_and, and_true, tg_some, ln_some, uI_1, uI_2, uL_1, uL_2, uL_3, uQ_1, uQ_2, uQ_3, rv_i, rv_l, rv_n, rv_b0, rv_b1, RMR, ne_eq, reduceCtorEq, not_false_eq_true, Option.getD_some, if_true, if_false, and_self, false_and, and_false, Nat.add_left_cancel_iff, Nat.add_eq_left, Nat.left_eq_add, Nat.one_ne_zero, Nat.reduceAdd, Nat.reduceLT, Nat.reduceLeDiff, Nat.reduceEqDiff, true_implies, false_implies, implies_true, Option.some.injEq, forall_eq', forall_eq, reduceCtorEq, brT, brF, br_s, i_10, i_01, ib_0_2, ib_1_2, tn_0, tn_1, Int32.le_refl, eq_self, rv_bN, rv_iM, RCM 81, RLY, lit_at hw, e0 hd1, iB_f y0, e1 hd1, iB_f y1, e2 hd1, iB_t y2, z10, z00, q' hd]
    exact ⟨by split <;> rfl, hQ⟩
  rw [if_neg y2]
  by_cases y3 : sayP t g 3
  · rw [if_pos y3]
    obtain ⟨σ', f', F', G', q'⟩ := o_145 hw ht hS' hV' h4
    refine ⟨σ', f', F', G', fun hD => cI_of (m := 6) (fun d hd Q hQ => ?_) rfl hD⟩
    have hd1 : 1 ≤ d := by omega
    have hd2 : 2 ≤ d := by omega
    have hd3 : 3 ≤ d := by omega
    have hd4 : 4 ≤ d := by omega
    have hd5 : 5 ≤ d := by omega
    have hd6 : 6 ≤ d := by omega
    refine b146_0 ?_
    simp only [↓br_pos, ↓br_neg, ↓rF_I, ↓rF_L, ↓rF_R, ↓rF_N, rO_m, rB_m, ↓rI_m, wI_m, ↓rB2_m, ↓rB3_m, wB2_m, wB3_m, ↓rL_m, wL_m, ↓rQ_m, wQ_m, ↓lI_m, pI_m, pL_m, pR_m, sI_m, sBy_m, sBo_m, sL_m, sQ_m, fst_m, true_and, and_true, tg_some, ln_some, uI_1, uI_2, uL_1, uL_2, uL_3, uQ_1, uQ_2, uQ_3, rv_i, rv_l, rv_n, rv_b0, rv_b1, RMR, ne_eq, reduceCtorEq, not_false_eq_true, Option.getD_some, if_true, if_false, and_self, false_and, and_false, Nat.add_left_cancel_iff, Nat.add_eq_left, Nat.left_eq_add, Nat.one_ne_zero, Nat.reduceAdd, Nat.reduceLT, Nat.reduceLeDiff, Nat.reduceEqDiff, true_implies, false_implies, implies_true, Option.some.injEq, forall_eq', forall_eq, reduceCtorEq, brT, brF, br_s, i_10, i_01, ib_0_2, ib_1_2, tn_0, tn_1, Int32.le_refl, eq_self, rv_bN, rv_iM, RCM 81, RLY, lit_at hw, e0 hd1, iB_f y0, e1 hd1, iB_f y1, e2 hd1, iB_f y2, e3 hd1, iB_t y3, z10, z00, q' hd]
    exact ⟨by split <;> rfl, hQ⟩
  rw [if_neg y3]
  have n0 : ¬ (8 * g 0 + 1 = 0) := by omega
  refine ⟨uI σ 81 9 (Int32.ofNat (8 * g 0 + 1)), fQ_8 (f8_I (by omega)), fun _ => by rw [uI_1, if_pos ⟨rfl, rfl⟩], fun q => absurd q n0, fun hD => cI_of (m := 6) (fun d hd Q hQ => ?_) rfl hD⟩
  have hd1 : 1 ≤ d := by omega
  have hd2 : 2 ≤ d := by omega
  have hd3 : 3 ≤ d := by omega
  have hd4 : 4 ≤ d := by omega
  have hd5 : 5 ≤ d := by omega
  have hd6 : 6 ≤ d := by omega
  rw [if_neg n0] at hQ
  refine b146_0 ?_
  simp only [↓br_pos, ↓br_neg, ↓rF_I, ↓rF_L, ↓rF_R, ↓rF_N, rO_m, rB_m, ↓rI_m, wI_m, ↓rB2_m, ↓rB3_m, wB2_m, wB3_m, ↓rL_m, wL_m, ↓rQ_m, wQ_m, ↓lI_m, pI_m, pL_m, pR_m, sI_m, sBy_m, sBo_m, sL_m, sQ_m, fst_m, true_and, and_true, tg_some, ln_some, uI_1, uI_2, uL_1, uL_2, uL_3, uQ_1, uQ_2, uQ_3, rv_i, rv_l, rv_n, rv_b0, rv_b1, RMR, ne_eq, reduceCtorEq, not_false_eq_true, Option.getD_some, if_true, if_false, and_self, false_and, and_false, Nat.add_left_cancel_iff, Nat.add_eq_left, Nat.left_eq_add, Nat.one_ne_zero, Nat.reduceAdd, Nat.reduceLT, Nat.reduceLeDiff, Nat.reduceEqDiff, true_implies, false_implies, implies_true, Option.some.injEq, forall_eq', forall_eq, reduceCtorEq, brT, brF, br_s, i_10, i_01, ib_0_2, ib_1_2, tn_0, tn_1, Int32.le_refl, eq_self, rv_bN, rv_iM, RCM 81, RLY, lit_at hw, e0 hd1, e1 hd1, e2 hd1, e3 hd1, iB_f y0, iB_f y1, iB_f y2, iB_f y3, z00, g_136 (a := 1) (x := 1) hw h90 hG.2.1 rfl hd1]
  exact hQ
end
section
/-! the model's text -/
theorem adv_1 {t : Nat → Nat} {n : Nat} {g : Rw} (h : g 1 ≤ n) : g 1 ≤ adv t n g 1 ∧ (adv t n g 2 ≠ 0 → g 1 < adv t n g 1) := by
  have s1 : g 1 ≤ tkS t n (g 1) := spn_ge _ _
  have s2 : tkS t n (g 1) ≤ n := spn_le _ _ h
  have e1 : adv t n g 1 = tkE t n (tkS t n (g 1)) := rfl
  have e2 : adv t n g 2 = tkK t n (tkS t n (g 1)) := rfl
  rw [e1, e2]
  have b := tkE_b (t := t) s2
  refine ⟨by omega, fun q => ?_⟩
  have strict : ∀ s, tkK t n s ≠ 0 → s < tkE t n s := fun s q => by
    by_cases c : n ≤ s
    · exact absurd (by unfold tkK; rw [if_pos c]) q
    obtain ⟨k, hk⟩ : ∃ k, n - s = k + 1 := ⟨n - s - 1, by omega⟩
    unfold tkE
    rw [if_neg c]
    by_cases y : isLt (t s) = true
    · rw [if_pos y, hk, spn_s, if_pos ⟨by omega, y⟩]
      have := spn_ge (P := isLt) (t := t) (n := n) k (s + 1); omega
    rw [if_neg y]
    by_cases x : isDg (t s) = true
    · rw [if_pos x, hk, spn_s, if_pos ⟨by omega, x⟩]
      have := spn_ge (P := isDg) (t := t) (n := n) k (s + 1); omega
    rw [if_neg x]; omega
  have := strict _ q
  omega
theorem gTd_1 {t : Nat → Nat} {n : Nat} {g : Rw} (h : vG n g) : g 1 ≤ gTd t n g 1 := by
  have a := (adv_1 (t := t) h.2.1).1
  have b := (adv_1 (t := t) (vG_adv (t := t) h).2.1).1
  unfold gTd; omega
theorem gNm_1 {t : Nat → Nat} {n : Nat} {g : Rw} (h : vG n g) : g 1 ≤ gNm t n g 1 := by
  have a := (adv_1 (t := t) (g := rSet g 5 (g 5 + 1)) (by rw [rS_ne (by omega)]; exact h.2.1)).1
  rw [rS_ne (by omega)] at a
  exact a
theorem rLot_V {t : Nat → Nat} {n : Nat} {g τ : Rw} {nm : Nat → Int32} (hV : rV n g τ) (z : (rLot t n g nm τ).1 = 0) : rV n (rLot t n g nm τ).2.1 (rLot t n g nm τ).2.2.2 ∧ g 1 ≤ (rLot t n g nm τ).2.1 1 := by
  obtain ⟨vg, h03, hv, h5⟩ := hV
  have V0 : vG n (adv t n g) := vG_adv vg
  have V1 : vG n (gNm t n (adv t n g)) := vG_nm V0
  have o0 := (adv_1 (t := t) vg.2.1).1
  have o1 := gNm_1 (t := t) V0
  have Z1 : (gNm t n (adv t n g)) 3 = 0 := by rw [gNm_3, adv_g (by omega)]; exact h03
  have X1 : (gNm t n (adv t n g)) 5 = g 5 + 1 := by rw [gNm_5, adv_g (by omega)]
  unfold rLot at z ⊢
  by_cases a : 12 ≤ τ 0
  · rw [if_pos a] at z; exact absurd z (by show ¬ 8 * g 0 + 4 = 0; omega)
  rw [if_neg a] at z ⊢
  by_cases b : nameF t (adv t n g) nm ≠ 0
  · rw [if_pos b] at z; exact absurd z b
  rw [if_neg b] at z ⊢
  by_cases z2 : toldF t n (gNm t n (adv t n g)) 4 1 9999 ≠ 0
  · rw [if_pos z2] at z; exact absurd z z2
  rw [if_neg z2] at z ⊢
  have w2 := told_v (lo := 1) (hi := 9999) rfl rfl (by omega) (by omega) (Decidable.not_not.mp z2)
  by_cases z3 : toldF t n (gTd t n (gNm t n (adv t n g))) 5 0 999 ≠ 0
  · rw [if_pos z3] at z; exact absurd z z3
  rw [if_neg z3] at z ⊢
  have w3 := told_v (lo := 0) (hi := 999) rfl rfl (by omega) (by omega) (Decidable.not_not.mp z3)
  have V2 : vG n (gTd t n (gNm t n (adv t n g))) := vG_td V1
  have o2 := gTd_1 (t := t) V1
  have Z2 : (gTd t n (gNm t n (adv t n g))) 3 = 0 := by rw [gTd_g (by omega)]; exact Z1
  have X2 : (gTd t n (gNm t n (adv t n g))) 5 = g 5 + 1 := by rw [gTd_g (by omega)]; exact X1
  have V3 : vG n (gTd t n (gTd t n (gNm t n (adv t n g)))) := vG_td V2
  have o3 := gTd_1 (t := t) V2
  have Z3 : (gTd t n (gTd t n (gNm t n (adv t n g)))) 3 = 0 := by rw [gTd_g (by omega)]; exact Z2
  have X3 : (gTd t n (gTd t n (gNm t n (adv t n g)))) 5 = g 5 + 1 := by rw [gTd_g (by omega)]; exact X2
  show rV n (gTd t n (gTd t n (gNm t n (adv t n g)))) (tLot τ (nN t (adv t n (gNm t n (adv t n g)))) (nN t (adv t n (gTd t n (gNm t n (adv t n g)))))) ∧ g 1 ≤ (gTd t n (gTd t n (gNm t n (adv t n g)))) 1
  have y0 : (tLot τ (nN t (adv t n (gNm t n (adv t n g)))) (nN t (adv t n (gTd t n (gNm t n (adv t n g)))))) 0 = τ 0 + 1 := by rw [tLot_1, if_pos rfl]
  have y1 : (tLot τ (nN t (adv t n (gNm t n (adv t n g)))) (nN t (adv t n (gTd t n (gNm t n (adv t n g)))))) 1 = τ 1 := by rw [tLot_1, if_neg (by omega), if_neg (by omega), if_neg (by omega)]
  have y2 : (tLot τ (nN t (adv t n (gNm t n (adv t n g)))) (nN t (adv t n (gTd t n (gNm t n (adv t n g)))))) 2 = τ 2 := by rw [tLot_1, if_neg (by omega), if_neg (by omega), if_neg (by omega)]
  exact ⟨⟨V3, Z3, vT_lot hv (by omega) ⟨w2.2.1, w2.2.2⟩ w3.2.2, by rw [X3, y0, y1, y2]; omega⟩, by omega⟩
theorem rPil_V {t : Nat → Nat} {n : Nat} {g τ : Rw} {nm : Nat → Int32} (hV : rV n g τ) (z : (rPil t n g nm τ).1 = 0) : rV n (rPil t n g nm τ).2.1 (rPil t n g nm τ).2.2.2 ∧ g 1 ≤ (rPil t n g nm τ).2.1 1 := by
  obtain ⟨vg, h03, hv, h5⟩ := hV
  have V0 : vG n (adv t n g) := vG_adv vg
  have V1 : vG n (gNm t n (adv t n g)) := vG_nm V0
  have o0 := (adv_1 (t := t) vg.2.1).1
  have o1 := gNm_1 (t := t) V0
  have Z1 : (gNm t n (adv t n g)) 3 = 0 := by rw [gNm_3, adv_g (by omega)]; exact h03
  have X1 : (gNm t n (adv t n g)) 5 = g 5 + 1 := by rw [gNm_5, adv_g (by omega)]
  unfold rPil at z ⊢
  by_cases a : 3 ≤ τ 1
  · rw [if_pos a] at z; exact absurd z (by show ¬ 8 * g 0 + 4 = 0; omega)
  rw [if_neg a] at z ⊢
  by_cases b : nameF t (adv t n g) nm ≠ 0
  · rw [if_pos b] at z; exact absurd z b
  rw [if_neg b] at z ⊢
  by_cases z2 : toldF t n (gNm t n (adv t n g)) 6 2 12 ≠ 0
  · rw [if_pos z2] at z; exact absurd z z2
  rw [if_neg z2] at z ⊢
  have w2 := told_v (lo := 2) (hi := 12) rfl rfl (by omega) (by omega) (Decidable.not_not.mp z2)
  have V2 : vG n (gTd t n (gNm t n (adv t n g))) := vG_td V1
  have o2 := gTd_1 (t := t) V1
  have Z2 : (gTd t n (gNm t n (adv t n g))) 3 = 0 := by rw [gTd_g (by omega)]; exact Z1
  have X2 : (gTd t n (gNm t n (adv t n g))) 5 = g 5 + 1 := by rw [gTd_g (by omega)]; exact X1
  show rV n (gTd t n (gNm t n (adv t n g))) (tPil τ (nN t (adv t n (gNm t n (adv t n g))))) ∧ g 1 ≤ (gTd t n (gNm t n (adv t n g))) 1
  have y0 : (tPil τ (nN t (adv t n (gNm t n (adv t n g))))) 0 = τ 0 := by rw [tPil_1, if_neg (by omega), if_neg (by omega)]
  have y1 : (tPil τ (nN t (adv t n (gNm t n (adv t n g))))) 1 = τ 1 + 1 := by rw [tPil_1, if_pos rfl]
  have y2 : (tPil τ (nN t (adv t n (gNm t n (adv t n g))))) 2 = τ 2 := by rw [tPil_1, if_neg (by omega), if_neg (by omega)]
  exact ⟨⟨V2, Z2, vT_pil hv (by omega) ⟨w2.2.1, w2.2.2⟩, by rw [X2, y0, y1, y2]; omega⟩, by omega⟩
theorem rShp_V {t : Nat → Nat} {n : Nat} {g τ : Rw} {nm : Nat → Int32} (hV : rV n g τ) (z : (rShp t n g nm τ).1 = 0) : rV n (rShp t n g nm τ).2.1 (rShp t n g nm τ).2.2.2 ∧ g 1 ≤ (rShp t n g nm τ).2.1 1 := by
  obtain ⟨vg, h03, hv, h5⟩ := hV
  have V0 : vG n (adv t n g) := vG_adv vg
  have V1 : vG n (gNm t n (adv t n g)) := vG_nm V0
  have o0 := (adv_1 (t := t) vg.2.1).1
  have o1 := gNm_1 (t := t) V0
  have Z1 : (gNm t n (adv t n g)) 3 = 0 := by rw [gNm_3, adv_g (by omega)]; exact h03
  have X1 : (gNm t n (adv t n g)) 5 = g 5 + 1 := by rw [gNm_5, adv_g (by omega)]
  unfold rShp at z ⊢
  by_cases a : 8 ≤ τ 2
  · rw [if_pos a] at z; exact absurd z (by show ¬ 8 * g 0 + 4 = 0; omega)
  rw [if_neg a] at z ⊢
  by_cases b : nameF t (adv t n g) nm ≠ 0
  · rw [if_pos b] at z; exact absurd z b
  rw [if_neg b] at z ⊢
  by_cases z2 : toldF t n (gNm t n (adv t n g)) 7 1 999 ≠ 0
  · rw [if_pos z2] at z; exact absurd z z2
  rw [if_neg z2] at z ⊢
  have w2 := told_v (lo := 1) (hi := 999) rfl rfl (by omega) (by omega) (Decidable.not_not.mp z2)
  by_cases z3 : toldF t n (gTd t n (gNm t n (adv t n g))) 8 0 999 ≠ 0
  · rw [if_pos z3] at z; exact absurd z z3
  rw [if_neg z3] at z ⊢
  have w3 := told_v (lo := 0) (hi := 999) rfl rfl (by omega) (by omega) (Decidable.not_not.mp z3)
  by_cases z4 : toldF t n (gTd t n (gTd t n (gNm t n (adv t n g)))) 9 (numV t (adv t n (gTd t n (gNm t n (adv t n g))))) 999 ≠ 0
  · rw [if_pos z4] at z; exact absurd z z4
  rw [if_neg z4] at z ⊢
  have w4 := told_v (lo := (nN t (adv t n (gTd t n (gNm t n (adv t n g)))))) (hi := 999) w3.1 rfl (by omega) (by omega) (Decidable.not_not.mp z4)
  by_cases z5 : toldF t n (gTd t n (gTd t n (gTd t n (gNm t n (adv t n g))))) 10 1 99 ≠ 0
  · rw [if_pos z5] at z; exact absurd z z5
  rw [if_neg z5] at z ⊢
  have w5 := told_v (lo := 1) (hi := 99) rfl rfl (by omega) (by omega) (Decidable.not_not.mp z5)
  by_cases z6 : toldF t n (gTd t n (gTd t n (gTd t n (gTd t n (gNm t n (adv t n g)))))) 11 1 20 ≠ 0
  · rw [if_pos z6] at z; exact absurd z z6
  rw [if_neg z6] at z ⊢
  have w6 := told_v (lo := 1) (hi := 20) rfl rfl (by omega) (by omega) (Decidable.not_not.mp z6)
  have V2 : vG n (gTd t n (gNm t n (adv t n g))) := vG_td V1
  have o2 := gTd_1 (t := t) V1
  have Z2 : (gTd t n (gNm t n (adv t n g))) 3 = 0 := by rw [gTd_g (by omega)]; exact Z1
  have X2 : (gTd t n (gNm t n (adv t n g))) 5 = g 5 + 1 := by rw [gTd_g (by omega)]; exact X1
  have V3 : vG n (gTd t n (gTd t n (gNm t n (adv t n g)))) := vG_td V2
  have o3 := gTd_1 (t := t) V2
  have Z3 : (gTd t n (gTd t n (gNm t n (adv t n g)))) 3 = 0 := by rw [gTd_g (by omega)]; exact Z2
  have X3 : (gTd t n (gTd t n (gNm t n (adv t n g)))) 5 = g 5 + 1 := by rw [gTd_g (by omega)]; exact X2
  have V4 : vG n (gTd t n (gTd t n (gTd t n (gNm t n (adv t n g))))) := vG_td V3
  have o4 := gTd_1 (t := t) V3
  have Z4 : (gTd t n (gTd t n (gTd t n (gNm t n (adv t n g))))) 3 = 0 := by rw [gTd_g (by omega)]; exact Z3
  have X4 : (gTd t n (gTd t n (gTd t n (gNm t n (adv t n g))))) 5 = g 5 + 1 := by rw [gTd_g (by omega)]; exact X3
  have V5 : vG n (gTd t n (gTd t n (gTd t n (gTd t n (gNm t n (adv t n g)))))) := vG_td V4
  have o5 := gTd_1 (t := t) V4
  have Z5 : (gTd t n (gTd t n (gTd t n (gTd t n (gNm t n (adv t n g)))))) 3 = 0 := by rw [gTd_g (by omega)]; exact Z4
  have X5 : (gTd t n (gTd t n (gTd t n (gTd t n (gNm t n (adv t n g)))))) 5 = g 5 + 1 := by rw [gTd_g (by omega)]; exact X4
  have V6 : vG n (gTd t n (gTd t n (gTd t n (gTd t n (gTd t n (gNm t n (adv t n g))))))) := vG_td V5
  have o6 := gTd_1 (t := t) V5
  have Z6 : (gTd t n (gTd t n (gTd t n (gTd t n (gTd t n (gNm t n (adv t n g))))))) 3 = 0 := by rw [gTd_g (by omega)]; exact Z5
  have X6 : (gTd t n (gTd t n (gTd t n (gTd t n (gTd t n (gNm t n (adv t n g))))))) 5 = g 5 + 1 := by rw [gTd_g (by omega)]; exact X5
  have V7 : vG n (gTd t n (gTd t n (gTd t n (gTd t n (gTd t n (gTd t n (gNm t n (adv t n g)))))))) := vG_td V6
  have o7 := gTd_1 (t := t) V6
  have Z7 : (gTd t n (gTd t n (gTd t n (gTd t n (gTd t n (gTd t n (gNm t n (adv t n g)))))))) 3 = 0 := by rw [gTd_g (by omega)]; exact Z6
  have X7 : (gTd t n (gTd t n (gTd t n (gTd t n (gTd t n (gTd t n (gNm t n (adv t n g)))))))) 5 = g 5 + 1 := by rw [gTd_g (by omega)]; exact X6
  by_cases y : sayP t (gTd t n (gTd t n (gTd t n (gTd t n (gTd t n (gNm t n (adv t n g))))))) 12
  case neg =>
    rw [if_pos y] at z ⊢
    show rV n (gTd t n (gTd t n (gTd t n (gTd t n (gTd t n (gNm t n (adv t n g))))))) (tShp τ (nN t (adv t n (gNm t n (adv t n g)))) (nN t (adv t n (gTd t n (gNm t n (adv t n g))))) (nN t (adv t n (gTd t n (gTd t n (gNm t n (adv t n g)))))) (nN t (adv t n (gTd t n (gTd t n (gTd t n (gNm t n (adv t n g))))))) (nN t (adv t n (gTd t n (gTd t n (gTd t n (gTd t n (gNm t n (adv t n g)))))))) 0) ∧ g 1 ≤ (gTd t n (gTd t n (gTd t n (gTd t n (gTd t n (gNm t n (adv t n g))))))) 1
    have y0 : (tShp τ (nN t (adv t n (gNm t n (adv t n g)))) (nN t (adv t n (gTd t n (gNm t n (adv t n g))))) (nN t (adv t n (gTd t n (gTd t n (gNm t n (adv t n g)))))) (nN t (adv t n (gTd t n (gTd t n (gTd t n (gNm t n (adv t n g))))))) (nN t (adv t n (gTd t n (gTd t n (gTd t n (gTd t n (gNm t n (adv t n g)))))))) 0) 0 = τ 0 := by rw [tShp_1, if_neg (by omega), if_neg (by omega), if_neg (by omega), if_neg (by omega), if_neg (by omega), if_neg (by omega), if_neg (by omega)]
    have y1 : (tShp τ (nN t (adv t n (gNm t n (adv t n g)))) (nN t (adv t n (gTd t n (gNm t n (adv t n g))))) (nN t (adv t n (gTd t n (gTd t n (gNm t n (adv t n g)))))) (nN t (adv t n (gTd t n (gTd t n (gTd t n (gNm t n (adv t n g))))))) (nN t (adv t n (gTd t n (gTd t n (gTd t n (gTd t n (gNm t n (adv t n g)))))))) 0) 1 = τ 1 := by rw [tShp_1, if_neg (by omega), if_neg (by omega), if_neg (by omega), if_neg (by omega), if_neg (by omega), if_neg (by omega), if_neg (by omega)]
    have y2 : (tShp τ (nN t (adv t n (gNm t n (adv t n g)))) (nN t (adv t n (gTd t n (gNm t n (adv t n g))))) (nN t (adv t n (gTd t n (gTd t n (gNm t n (adv t n g)))))) (nN t (adv t n (gTd t n (gTd t n (gTd t n (gNm t n (adv t n g))))))) (nN t (adv t n (gTd t n (gTd t n (gTd t n (gTd t n (gNm t n (adv t n g)))))))) 0) 2 = τ 2 + 1 := by rw [tShp_1, if_pos rfl]
    exact ⟨⟨V6, Z6, vT_shp hv (by omega) ⟨w2.2.1, w2.2.2⟩ w3.2.2 w4.2.2 ⟨w5.2.1, w5.2.2⟩ ⟨w6.2.1, w6.2.2⟩ (by omega), by rw [X6, y0, y1, y2]; omega⟩, by omega⟩
  rw [if_neg (fun q => q y)] at z ⊢
  by_cases z7 : toldF t n (gTd t n (gTd t n (gTd t n (gTd t n (gTd t n (gNm t n (adv t n g))))))) 12 0 999 ≠ 0
  · rw [if_pos z7] at z; exact absurd z z7
  rw [if_neg z7] at z ⊢
  have w7 := told_v (lo := 0) (hi := 999) rfl rfl (by omega) (by omega) (Decidable.not_not.mp z7)
  show rV n (gTd t n (gTd t n (gTd t n (gTd t n (gTd t n (gTd t n (gNm t n (adv t n g)))))))) (tShp τ (nN t (adv t n (gNm t n (adv t n g)))) (nN t (adv t n (gTd t n (gNm t n (adv t n g))))) (nN t (adv t n (gTd t n (gTd t n (gNm t n (adv t n g)))))) (nN t (adv t n (gTd t n (gTd t n (gTd t n (gNm t n (adv t n g))))))) (nN t (adv t n (gTd t n (gTd t n (gTd t n (gTd t n (gNm t n (adv t n g)))))))) (nN t (adv t n (gTd t n (gTd t n (gTd t n (gTd t n (gTd t n (gNm t n (adv t n g)))))))))) ∧ g 1 ≤ (gTd t n (gTd t n (gTd t n (gTd t n (gTd t n (gTd t n (gNm t n (adv t n g)))))))) 1
  have y0 : (tShp τ (nN t (adv t n (gNm t n (adv t n g)))) (nN t (adv t n (gTd t n (gNm t n (adv t n g))))) (nN t (adv t n (gTd t n (gTd t n (gNm t n (adv t n g)))))) (nN t (adv t n (gTd t n (gTd t n (gTd t n (gNm t n (adv t n g))))))) (nN t (adv t n (gTd t n (gTd t n (gTd t n (gTd t n (gNm t n (adv t n g)))))))) (nN t (adv t n (gTd t n (gTd t n (gTd t n (gTd t n (gTd t n (gNm t n (adv t n g)))))))))) 0 = τ 0 := by rw [tShp_1, if_neg (by omega), if_neg (by omega), if_neg (by omega), if_neg (by omega), if_neg (by omega), if_neg (by omega), if_neg (by omega)]
  have y1 : (tShp τ (nN t (adv t n (gNm t n (adv t n g)))) (nN t (adv t n (gTd t n (gNm t n (adv t n g))))) (nN t (adv t n (gTd t n (gTd t n (gNm t n (adv t n g)))))) (nN t (adv t n (gTd t n (gTd t n (gTd t n (gNm t n (adv t n g))))))) (nN t (adv t n (gTd t n (gTd t n (gTd t n (gTd t n (gNm t n (adv t n g)))))))) (nN t (adv t n (gTd t n (gTd t n (gTd t n (gTd t n (gTd t n (gNm t n (adv t n g)))))))))) 1 = τ 1 := by rw [tShp_1, if_neg (by omega), if_neg (by omega), if_neg (by omega), if_neg (by omega), if_neg (by omega), if_neg (by omega), if_neg (by omega)]
  have y2 : (tShp τ (nN t (adv t n (gNm t n (adv t n g)))) (nN t (adv t n (gTd t n (gNm t n (adv t n g))))) (nN t (adv t n (gTd t n (gTd t n (gNm t n (adv t n g)))))) (nN t (adv t n (gTd t n (gTd t n (gTd t n (gNm t n (adv t n g))))))) (nN t (adv t n (gTd t n (gTd t n (gTd t n (gTd t n (gNm t n (adv t n g)))))))) (nN t (adv t n (gTd t n (gTd t n (gTd t n (gTd t n (gTd t n (gNm t n (adv t n g)))))))))) 2 = τ 2 + 1 := by rw [tShp_1, if_pos rfl]
  exact ⟨⟨V7, Z7, vT_shp hv (by omega) ⟨w2.2.1, w2.2.2⟩ w3.2.2 w4.2.2 ⟨w5.2.1, w5.2.2⟩ ⟨w6.2.1, w6.2.2⟩ w7.2.2, by rw [X7, y0, y1, y2]; omega⟩, by omega⟩
theorem rGap_V {t : Nat → Nat} {n : Nat} {g τ : Rw} {nm : Nat → Int32} (hV : rV n g τ) (z : (rGap t n g nm τ).1 = 0) : rV n (rGap t n g nm τ).2.1 (rGap t n g nm τ).2.2.2 ∧ g 1 ≤ (rGap t n g nm τ).2.1 1 := by
  obtain ⟨vg, h03, hv, h5⟩ := hV
  have vg2 : vG n (rSet g 4 1) := ⟨by rw [rS_ne (by omega), rS_ne (by omega)]; exact vg.1, by rw [rS_ne (by omega)]; exact vg.2.1, vg.2.2.1, by rw [rS_ne (by omega)]; exact vg.2.2.2⟩
  have vv0 := hv.1
  have vv1 := hv.2.1
  have vv2 := hv.2.2.1
  unfold rGap at z ⊢
  by_cases a : g 4 ≠ 0
  · rw [if_pos a] at z; exact absurd z (by show ¬ 8 * g 0 + 2 = 0; omega)
  rw [if_neg a] at z ⊢
  by_cases b : toldF t n (rSet g 4 1) 3 0 3 ≠ 0
  · rw [if_pos b] at z; exact absurd z b
  rw [if_neg b] at z ⊢
  have w3 := told_v (lo := 0) (hi := 3) rfl rfl (by omega) (by omega) (Decidable.not_not.mp b)
  have o1 := gTd_1 (t := t) vg2
  rw [rS_ne (by omega)] at o1
  refine ⟨⟨vG_td vg2, ?_, ?_, ?_⟩, o1⟩
  · show gTd t n (rSet g 4 1) 3 = 0
    rw [gTd_g (by omega), rS_ne (by omega)]; exact h03
  · obtain ⟨b1, b2, b3, b4, b5, b6, b7⟩ := hv
    show vTold (rSet τ 3 (nN t (adv t n (rSet g 4 1))))
    refine ⟨by rw [rS_ne (by omega)]; exact b1, by rw [rS_ne (by omega)]; exact b2, by rw [rS_ne (by omega)]; exact b3, by rw [rS_eq]; exact w3.2.2, fun l hl => ?_, fun y hy => ?_, fun s hs => ?_⟩
    · rw [rS_ne (by omega)] at hl
      rw [rS_ne (by omega), rS_ne (by omega)]; exact b5 l hl
    · rw [rS_ne (by omega)] at hy
      rw [rS_ne (by omega)]; exact b6 y hy
    · rw [rS_ne (by omega)] at hs
      rw [rS_ne (by omega), rS_ne (by omega), rS_ne (by omega), rS_ne (by omega), rS_ne (by omega), rS_ne (by omega)]
      exact b7 s hs
  · show gTd t n (rSet g 4 1) 5 = (rSet τ 3 (nN t (adv t n (rSet g 4 1)))) 0 + (rSet τ 3 (nN t (adv t n (rSet g 4 1)))) 1 + (rSet τ 3 (nN t (adv t n (rSet g 4 1)))) 2
    rw [gTd_g (by omega), rS_ne (by omega), rS_ne (by omega), rS_ne (by omega), rS_ne (by omega)]; exact h5
theorem rBody_V {t : Nat → Nat} {n : Nat} {g τ : Rw} {nm : Nat → Int32} (hV : rV n g τ) (h4 : g 4 ≤ 1) (z : (rBody t n g nm τ).1 = 0) : (rV n (rBody t n g nm τ).2.1 (rBody t n g nm τ).2.2.2 ∧ g 1 ≤ (rBody t n g nm τ).2.1 1) ∧ (rBody t n g nm τ).2.1 4 ≤ 1 := by
  unfold rBody at z ⊢
  by_cases a : sayP t g 0
  · rw [if_pos a] at z ⊢; exact ⟨rLot_V hV z, by rw [rLot_4]; exact h4⟩
  rw [if_neg a] at z ⊢
  by_cases b : sayP t g 1
  · rw [if_pos b] at z ⊢; exact ⟨rPil_V hV z, by rw [rPil_4]; exact h4⟩
  rw [if_neg b] at z ⊢
  by_cases c : sayP t g 2
  · rw [if_pos c] at z ⊢; exact ⟨rShp_V hV z, by rw [rShp_4]; exact h4⟩
  rw [if_neg c] at z ⊢
  by_cases e : sayP t g 3
  · rw [if_pos e] at z ⊢; exact ⟨rGap_V hV z, rGap_4 h4⟩
  rw [if_neg e] at z
  exact absurd z (by show ¬ 8 * g 0 + 1 = 0; omega)
/-- all lines -/
theorem lp_148 {w : mT} {t : Nat → Nat} {n : Nat} {x : Int32} (hw : lit w) (ht : ∀ i, t i < 256) : ∀ (k : Nat) (σ : mS) (g τ : Rw) (nm : Nat → Int32) (ln : Nat), rdS σ t n g nm τ → rV n g τ → g 4 ≤ 1 → (g 2 ≠ 0 → n + 1 ≤ g 1 + k) → ∃ σ', fQ σ σ' ∧ ((rLp t n k g nm τ ln).1 = 0 → mDr σ' (rLp t n k g nm τ ln).2.1 ∧ vTold (rLp t n k g nm τ ln).2.1) ∧ ∀ {Q : Option (Option Value) → Hp → Prop} {d : Nat}, 7 ≤ d → (if (rLp t n k g nm τ ln).1 = 0 then Wp 148 150 [.ref 81, .int x, .int (Int32.ofNat (rLp t n k g nm τ ln).2.2), .int 1, .int 0] [] (mW w σ') Q d else Q (some (some (.int (-2 - Int32.ofNat (rLp t n k g nm τ ln).1)))) (mW w σ')) → Wp 148 87 [.ref 81, .int x, .int (Int32.ofNat ln), .int 1, jk] [] (mW w σ) Q d := by
  -- the end
  have stop : ∀ (σ : mS) (g τ : Rw) (nm : Nat → Int32) (ln : Nat) {Q : Option (Option Value) → Hp → Prop} {d : Nat}, rdS σ t n g nm τ → g 2 = 0 → Wp 148 150 [.ref 81, .int x, .int (Int32.ofNat ln), .int 1, .int 0] [] (mW w σ) Q d → Wp 148 87 [.ref 81, .int x, .int (Int32.ofNat ln), .int 1, jk] [] (mW w σ) Q d := fun σ g τ nm ln Q d hS h2 hQ => by
    have h6 : σ.1 81 6 = 0 := by rw [hS.1.2.2.2.1, h2]; rfl
    refine b148_87 ?_
    simp only [↓br_pos, ↓br_neg, ↓rF_I, ↓rF_L, ↓rF_R, ↓rF_N, rO_m, rB_m, ↓rI_m, wI_m, ↓rB2_m, ↓rB3_m, wB2_m, wB3_m, ↓rL_m, wL_m, ↓rQ_m, wQ_m, ↓lI_m, pI_m, pL_m, pR_m, sI_m, sBy_m, sBo_m, sL_m, sQ_m, fst_m, true_and, and_true, tg_some, ln_some, uI_1, uI_2, uL_1, uL_2, uL_3, uQ_1, uQ_2, uQ_3, rv_i, rv_l, rv_n, rv_b0, rv_b1, RMR, ne_eq, reduceCtorEq, not_false_eq_true, Option.getD_some, if_true, if_false, and_self, false_and, and_false, Nat.add_left_cancel_iff, Nat.add_eq_left, Nat.left_eq_add, Nat.one_ne_zero, Nat.reduceAdd, Nat.reduceLT, Nat.reduceLeDiff, Nat.reduceEqDiff, true_implies, false_implies, implies_true, Option.some.injEq, forall_eq', forall_eq, reduceCtorEq, brT, brF, br_s, i_10, i_01, ib_0_2, ib_1_2, tn_0, tn_1, Int32.le_refl, eq_self, rv_bN, rv_iM, RCM 81, RLY, lit_at hw, z10, z00, h6]
    exact hQ
  intro k
  induction k with
  | zero =>
    intro σ g τ nm ln hS hV h4 hk
    have h2 : g 2 = 0 := Decidable.byContradiction (fun q => by
      have a := hk q
      have b := hV.1.2.1
      omega)
    refine ⟨σ, fQ_rf, fun _ => ⟨hS.2.1, hV.2.2.1⟩, fun {Q d} hd hQ => ?_⟩
    exact stop σ g τ nm ln hS h2 hQ
  | succ k ih =>
    intro σ g τ nm ln hS hV h4 hk
    by_cases h2 : g 2 = 0
    · have e : rLp t n (k + 1) g nm τ ln = (0, τ, ln) := by
        show (if g 2 = 0 then (0, τ, ln) else _) = _
        rw [if_pos h2]
      rw [e]
      refine ⟨σ, fQ_rf, fun _ => ⟨hS.2.1, hV.2.2.1⟩, fun {Q d} hd hQ => ?_⟩
      exact stop σ g τ nm ln hS h2 hQ
    have hk := hk h2
    have b2 := hV.1.2.2.2
    have c6 : (Int32.ofNat (g 2) = 0) ↔ False := iff_false_intro (fun q => h2 ((of_eq0 (by omega)).mp q))
    obtain ⟨σ1, f1, F1, G1, q1⟩ := o_146 hw ht hS hV h4
    have h6 := hS.1.2.2.2.1
    have e : rLp t n (k + 1) g nm τ ln = if (rLin t n g nm τ).1 ≠ 0 then ((rLin t n g nm τ).1, τ, ln + 1) else rLp t n k (rLin t n g nm τ).2.1 (rLin t n g nm τ).2.2.1 (rLin t n g nm τ).2.2.2 (ln + 1) := by
      show (if g 2 = 0 then (0, τ, ln) else _) = _
      rw [if_neg h2]
    rw [e]
    by_cases z : (rBody t n g nm τ).1 = 0
    case neg =>
      have eL : rLin t n g nm τ = rBody t n g nm τ := by unfold rLin; rw [if_pos z]
      rw [eL, if_pos z]
      refine ⟨σ1, f1, fun q => absurd q z, fun {Q d} hd hQ => ?_⟩
      rw [if_neg z] at hQ
      have h9 := F1 z
      refine b148_87 ?_
      simp only [↓br_pos, ↓br_neg, ↓rF_I, ↓rF_L, ↓rF_R, ↓rF_N, rO_m, rB_m, ↓rI_m, wI_m, ↓rB2_m, ↓rB3_m, wB2_m, wB3_m, ↓rL_m, wL_m, ↓rQ_m, wQ_m, ↓lI_m, pI_m, pL_m, pR_m, sI_m, sBy_m, sBo_m, sL_m, sQ_m, fst_m, true_and, and_true, tg_some, ln_some, uI_1, uI_2, uL_1, uL_2, uL_3, uQ_1, uQ_2, uQ_3, rv_i, rv_l, rv_n, rv_b0, rv_b1, RMR, ne_eq, reduceCtorEq, not_false_eq_true, Option.getD_some, if_true, if_false, and_self, false_and, and_false, Nat.add_left_cancel_iff, Nat.add_eq_left, Nat.left_eq_add, Nat.one_ne_zero, Nat.reduceAdd, Nat.reduceLT, Nat.reduceLeDiff, Nat.reduceEqDiff, true_implies, false_implies, implies_true, Option.some.injEq, forall_eq', forall_eq, reduceCtorEq, brT, brF, br_s, i_10, i_01, ib_0_2, ib_1_2, tn_0, tn_1, Int32.le_refl, eq_self, rv_bN, rv_iM, RCM 81, RLY, lit_at hw, z10, z00, h6, c6, q1 hd, z]
      refine b148_87 ?_
      simp only [↓br_pos, ↓br_neg, ↓rF_I, ↓rF_L, ↓rF_R, ↓rF_N, rO_m, rB_m, ↓rI_m, wI_m, ↓rB2_m, ↓rB3_m, wB2_m, wB3_m, ↓rL_m, wL_m, ↓rQ_m, wQ_m, ↓lI_m, pI_m, pL_m, pR_m, sI_m, sBy_m, sBo_m, sL_m, sQ_m, fst_m, true_and, and_true, tg_some, ln_some, uI_1, uI_2, uL_1, uL_2, uL_3, uQ_1, uQ_2, uQ_3, rv_i, rv_l, rv_n, rv_b0, rv_b1, RMR, ne_eq, reduceCtorEq, not_false_eq_true, Option.getD_some, if_true, if_false, and_self, false_and, and_false, Nat.add_left_cancel_iff, Nat.add_eq_left, Nat.left_eq_add, Nat.one_ne_zero, Nat.reduceAdd, Nat.reduceLT, Nat.reduceLeDiff, Nat.reduceEqDiff, true_implies, false_implies, implies_true, Option.some.injEq, forall_eq', forall_eq, reduceCtorEq, brT, brF, br_s, i_10, i_01, ib_0_2, ib_1_2, tn_0, tn_1, Int32.le_refl, eq_self, rv_bN, rv_iM, RCM 81, RLY, lit_at hw, h9]
      exact hQ
    obtain ⟨K1, D1, N1⟩ := G1 z
    obtain ⟨⟨VV, mo⟩, V4⟩ := rBody_V hV h4 z
    have k6 := K1.2.2.2.1
    have b3 := VV.1.2.2.2
    by_cases y : (rBody t n g nm τ).2.1 2 = 3
    case neg =>
      have eL : rLin t n g nm τ = (8 * (rBody t n g nm τ).2.1 0 + 1, (rBody t n g nm τ).2) := by unfold rLin; rw [if_neg (fun q => q z), if_neg y]
      have n0 : ¬ (8 * (rBody t n g nm τ).2.1 0 + 1 = 0) := by omega
      rw [eL, if_pos n0]
      have c3 : (Int32.ofNat ((rBody t n g nm τ).2.1 2) = (3 : Int32)) ↔ False := iff_false_intro (fun q => y ((of_inj (b := 3) (by omega) (by omega)).mp q))
      have h90 : σ1.1 81 9 = 0 := by rw [K1.2.2.2.2.2.2.1, VV.2.1]; rfl
      refine ⟨uI σ1 81 9 (Int32.ofNat (8 * (rBody t n g nm τ).2.1 0 + 1)), fQ_tr f1 (fQ_8 (f8_I (by omega))), fun q => absurd q n0, fun {Q d} hd hQ => ?_⟩
      have hd1 : 1 ≤ d := by omega
      have hd2 : 2 ≤ d := by omega
      have hd3 : 3 ≤ d := by omega
      have hd4 : 4 ≤ d := by omega
      have hd5 : 5 ≤ d := by omega
      have hd6 : 6 ≤ d := by omega
      rw [if_neg n0] at hQ
      refine b148_87 ?_
      simp only [↓br_pos, ↓br_neg, ↓rF_I, ↓rF_L, ↓rF_R, ↓rF_N, rO_m, rB_m, ↓rI_m, wI_m, ↓rB2_m, ↓rB3_m, wB2_m, wB3_m, ↓rL_m, wL_m, ↓rQ_m, wQ_m, ↓lI_m, pI_m, pL_m, pR_m, sI_m, sBy_m, sBo_m, sL_m, sQ_m, fst_m, true_and, and_true, tg_some, ln_some, uI_1, uI_2, uL_1, uL_2, uL_3, uQ_1, uQ_2, uQ_3, rv_i, rv_l, rv_n, rv_b0, rv_b1, RMR, ne_eq, reduceCtorEq, not_false_eq_true, Option.getD_some, if_true, if_false, and_self, false_and, and_false, Nat.add_left_cancel_iff, Nat.add_eq_left, Nat.left_eq_add, Nat.one_ne_zero, Nat.reduceAdd, Nat.reduceLT, Nat.reduceLeDiff, Nat.reduceEqDiff, true_implies, false_implies, implies_true, Option.some.injEq, forall_eq', forall_eq, reduceCtorEq, brT, brF, br_s, i_10, i_01, ib_0_2, ib_1_2, tn_0, tn_1, Int32.le_refl, eq_self, rv_bN, rv_iM, RCM 81, RLY, lit_at hw, z10, z00, h6, c6, q1 hd, z, k6, c3, g_136 (a := 1) (x := 1) hw h90 K1.2.1 rfl hd1]
      refine b148_87 ?_
      simp only [↓br_pos, ↓br_neg, ↓rF_I, ↓rF_L, ↓rF_R, ↓rF_N, rO_m, rB_m, ↓rI_m, wI_m, ↓rB2_m, ↓rB3_m, wB2_m, wB3_m, ↓rL_m, wL_m, ↓rQ_m, wQ_m, ↓lI_m, pI_m, pL_m, pR_m, sI_m, sBy_m, sBo_m, sL_m, sQ_m, fst_m, true_and, and_true, tg_some, ln_some, uI_1, uI_2, uL_1, uL_2, uL_3, uQ_1, uQ_2, uQ_3, rv_i, rv_l, rv_n, rv_b0, rv_b1, RMR, ne_eq, reduceCtorEq, not_false_eq_true, Option.getD_some, if_true, if_false, and_self, false_and, and_false, Nat.add_left_cancel_iff, Nat.add_eq_left, Nat.left_eq_add, Nat.one_ne_zero, Nat.reduceAdd, Nat.reduceLT, Nat.reduceLeDiff, Nat.reduceEqDiff, true_implies, false_implies, implies_true, Option.some.injEq, forall_eq', forall_eq, reduceCtorEq, brT, brF, br_s, i_10, i_01, ib_0_2, ib_1_2, tn_0, tn_1, Int32.le_refl, eq_self, rv_bN, rv_iM, RCM 81, RLY, lit_at hw]
      exact hQ
    have c3 : (Int32.ofNat ((rBody t n g nm τ).2.1 2) = (3 : Int32)) ↔ True := iff_true_intro (by rw [y]; rfl)
    have eL : rLin t n g nm τ = (0, adv t n (rBody t n g nm τ).2.1, (rBody t n g nm τ).2.2) := by unfold rLin; rw [if_neg (fun q => q z), if_pos y]
    rw [eL, if_neg (fun q => q rfl)]
    obtain ⟨σ2, f2, K2, q2⟩ := o_133g hw ht K1 VV.1
    have md := adv_1 (t := t) VV.1.2.1
    obtain ⟨σ3, f3, R3, q3⟩ := ih σ2 (adv t n (rBody t n g nm τ).2.1) (rBody t n g nm τ).2.2.2 (rBody t n g nm τ).2.2.1 (ln + 1) ⟨K2, mDr_8 D1 (f8_G f2), by rw [adv_g (by omega)]; exact nmR_8 N1 (f8_G f2)⟩ ⟨vG_adv VV.1, by rw [adv_g (by omega)]; exact VV.2.1, VV.2.2.1, by rw [adv_g (by omega)]; exact VV.2.2.2⟩ (by rw [adv_g (by omega)]; exact V4) (fun q => by have := md.2 q; omega)
    refine ⟨σ3, fQ_tr f1 (fQ_tr (fQ_8 (f8_G f2)) f3), R3, fun {Q d} hd hQ => ?_⟩
    have hd1 : 1 ≤ d := by omega
    have hd2 : 2 ≤ d := by omega
    have hd3 : 3 ≤ d := by omega
    have hd4 : 4 ≤ d := by omega
    have hd5 : 5 ≤ d := by omega
    have hd6 : 6 ≤ d := by omega
    refine b148_87 ?_
    simp only [↓br_pos, ↓br_neg, ↓rF_I, ↓rF_L, ↓rF_R, ↓rF_N, rO_m, rB_m, ↓rI_m, wI_m, ↓rB2_m, ↓rB3_m, wB2_m, wB3_m, ↓rL_m, wL_m, ↓rQ_m, wQ_m, ↓lI_m, pI_m, pL_m, pR_m, sI_m, sBy_m, sBo_m, sL_m, sQ_m, fst_m, true_and, and_true, tg_some, ln_some, uI_1, uI_2, uL_1, uL_2, uL_3, uQ_1, uQ_2, uQ_3, rv_i, rv_l, rv_n, rv_b0, rv_b1, RMR, ne_eq, reduceCtorEq, not_false_eq_true, Option.getD_some, if_true, if_false, and_self, false_and, and_false, Nat.add_left_cancel_iff, Nat.add_eq_left, Nat.left_eq_add, Nat.one_ne_zero, Nat.reduceAdd, Nat.reduceLT, Nat.reduceLeDiff, Nat.reduceEqDiff, true_implies, false_implies, implies_true, Option.some.injEq, forall_eq', forall_eq, reduceCtorEq, brT, brF, br_s, i_10, i_01, ib_0_2, ib_1_2, tn_0, tn_1, Int32.le_refl, eq_self, rv_bN, rv_iM, RCM 81, RLY, lit_at hw, z10, z00, h6, c6, q1 hd, z, k6, c3, q2 hd2, on_succ]
    exact q3 hd hQ
end
section
/-! the model's plain row, and its text -/
def zrG (σ : mS) (a n : Nat) : mS := uG σ a (fun j => if j < n then 0 else σ.1 a j)
theorem zrG_0 {σ : mS} {a : Nat} : zrG σ a 0 = σ := uG_s (fun j => if_neg (by omega))
theorem zrG_I {σ : mS} {a n : Nat} : uI (zrG σ a n) a n 0 = zrG σ a (n + 1) := by
  unfold zrG
  rw [uG_I]
  refine uG_c (fun j => ?_)
  by_cases e : j = n
  · rw [if_pos e, if_pos (by omega)]
  · rw [if_neg e]
    by_cases y : j < n
    · rw [if_pos y, if_pos (by omega)]
    · rw [if_neg y, if_neg (by omega)]
theorem zrG_o {σ : mS} {a n c : Nat} (h : c ≠ a) : (zrG σ a n).1 c = σ.1 c := by
  funext j
  unfold zrG
  rw [uG_1, if_neg h]
theorem zrG_a {σ : mS} {a n j : Nat} (h : j < n) : (zrG σ a n).1 a j = 0 := by
  unfold zrG
  rw [uG_1, if_pos rfl, if_pos h]
theorem lp_150a {w : mT} {σ : mS} {d : Nat} {Q : Option (Option Value) → Hp → Prop} (hw : lit w) (hQ : Wp 150 24 [.ref 81, .int 0] [] (mW w (zrG σ 85 2471)) Q d) : ∀ (r i : Nat), i + r = 2471 → Wp 150 2 [.ref 81, .int (Int32.ofNat i)] [] (mW w (zrG σ 85 i)) Q d := by
  intro r
  induction r with
  | zero =>
    intro i hi
    have hi' : i = 2471 := by omega
    subst hi'
    have c : ((2471 : Int32) ≤ Int32.ofNat 2471) ↔ True := by decide
    refine b150_2 ?_
    simp only [↓br_pos, ↓br_neg, ↓rF_I, ↓rF_L, ↓rF_R, ↓rF_N, rO_m, rB_m, ↓rI_m, wI_m, ↓rB2_m, ↓rB3_m, wB2_m, wB3_m, ↓rL_m, wL_m, ↓rQ_m, wQ_m, ↓lI_m, pI_m, pL_m, pR_m, sI_m, sBy_m, sBo_m, sL_m, sQ_m, fst_m, true_and, and_true, tg_some, ln_some, uI_1, uI_2, uL_1, uL_2, uL_3, uQ_1, uQ_2, uQ_3, rv_i, rv_l, rv_n, rv_b0, rv_b1, RMR, ne_eq, reduceCtorEq, not_false_eq_true, Option.getD_some, if_true, if_false, and_self, false_and, and_false, Nat.add_left_cancel_iff, Nat.add_eq_left, Nat.left_eq_add, Nat.one_ne_zero, Nat.reduceAdd, Nat.reduceLT, Nat.reduceLeDiff, Nat.reduceEqDiff, true_implies, false_implies, implies_true, Option.some.injEq, forall_eq', forall_eq, reduceCtorEq, brT, brF, br_s, i_10, i_01, ib_0_2, ib_1_2, tn_0, tn_1, Int32.le_refl, eq_self, rv_bN, rv_iM, RCM 81, RLY, lit_at hw, c]
    exact hQ
  | succ r ih =>
    intro i hi
    have c : ((2471 : Int32) ≤ Int32.ofNat i) ↔ False := iff_false_intro (fun q => absurd ((on_le (i := 2471) (by omega) (by omega)).mp q) (by omega))
    have ih := ih (i + 1) (by omega)
    rw [← zrG_I] at ih
    refine b150_2 ?_
    simp only [↓br_pos, ↓br_neg, ↓rF_I, ↓rF_L, ↓rF_R, ↓rF_N, rO_m, rB_m, ↓rI_m, wI_m, ↓rB2_m, ↓rB3_m, wB2_m, wB3_m, ↓rL_m, wL_m, ↓rQ_m, wQ_m, ↓lI_m, pI_m, pL_m, pR_m, sI_m, sBy_m, sBo_m, sL_m, sQ_m, fst_m, true_and, and_true, tg_some, ln_some, uI_1, uI_2, uL_1, uL_2, uL_3, uQ_1, uQ_2, uQ_3, rv_i, rv_l, rv_n, rv_b0, rv_b1, RMR, ne_eq, reduceCtorEq, not_false_eq_true, Option.getD_some, if_true, if_false, and_self, false_and, and_false, Nat.add_left_cancel_iff, Nat.add_eq_left, Nat.left_eq_add, Nat.one_ne_zero, Nat.reduceAdd, Nat.reduceLT, Nat.reduceLeDiff, Nat.reduceEqDiff, true_implies, false_implies, implies_true, Option.some.injEq, forall_eq', forall_eq, reduceCtorEq, brT, brF, br_s, i_10, i_01, ib_0_2, ib_1_2, tn_0, tn_1, Int32.le_refl, eq_self, rv_bN, rv_iM, RCM 81, RLY, lit_at hw, c, ix (by omega : i < 2471) (by omega), on_succ]
    exact ih
theorem lp_150b {w : mT} {σ : mS} {d : Nat} {Q : Option (Option Value) → Hp → Prop} (hw : lit w) (hQ : Q (some none) (mW w (cpG σ 83 4 85 12 12))) : ∀ (r i : Nat), i + r = 12 → Wp 150 24 [.ref 81, .int (Int32.ofNat i)] [] (mW w (cpG σ 83 4 85 12 i)) Q d := by
  intro r
  induction r with
  | zero =>
    intro i hi
    have hi' : i = 12 := by omega
    subst hi'
    have c : ((12 : Int32) ≤ Int32.ofNat 12) ↔ True := by decide
    refine b150_24 ?_
    simp only [↓br_pos, ↓br_neg, ↓rF_I, ↓rF_L, ↓rF_R, ↓rF_N, rO_m, rB_m, ↓rI_m, wI_m, ↓rB2_m, ↓rB3_m, wB2_m, wB3_m, ↓rL_m, wL_m, ↓rQ_m, wQ_m, ↓lI_m, pI_m, pL_m, pR_m, sI_m, sBy_m, sBo_m, sL_m, sQ_m, fst_m, true_and, and_true, tg_some, ln_some, uI_1, uI_2, uL_1, uL_2, uL_3, uQ_1, uQ_2, uQ_3, rv_i, rv_l, rv_n, rv_b0, rv_b1, RMR, ne_eq, reduceCtorEq, not_false_eq_true, Option.getD_some, if_true, if_false, and_self, false_and, and_false, Nat.add_left_cancel_iff, Nat.add_eq_left, Nat.left_eq_add, Nat.one_ne_zero, Nat.reduceAdd, Nat.reduceLT, Nat.reduceLeDiff, Nat.reduceEqDiff, true_implies, false_implies, implies_true, Option.some.injEq, forall_eq', forall_eq, reduceCtorEq, brT, brF, br_s, i_10, i_01, ib_0_2, ib_1_2, tn_0, tn_1, Int32.le_refl, eq_self, rv_bN, rv_iM, RCM 81, RLY, lit_at hw, c]
    exact hQ
  | succ r ih =>
    intro i hi
    have c : ((12 : Int32) ≤ Int32.ofNat i) ↔ False := iff_false_intro (fun q => absurd ((on_le (i := 12) (by omega) (by omega)).mp q) (by omega))
    have ih := ih (i + 1) (by omega)
    rw [← cpG_I] at ih
    have e3 : (cpG σ 83 4 85 12 i).1 83 (4 + i) = σ.1 83 (4 + i) := congrFun (cpG_o (by omega)) _
    refine b150_24 ?_
    simp only [↓br_pos, ↓br_neg, ↓rF_I, ↓rF_L, ↓rF_R, ↓rF_N, rO_m, rB_m, ↓rI_m, wI_m, ↓rB2_m, ↓rB3_m, wB2_m, wB3_m, ↓rL_m, wL_m, ↓rQ_m, wQ_m, ↓lI_m, pI_m, pL_m, pR_m, sI_m, sBy_m, sBo_m, sL_m, sQ_m, fst_m, true_and, and_true, tg_some, ln_some, uI_1, uI_2, uL_1, uL_2, uL_3, uQ_1, uQ_2, uQ_3, rv_i, rv_l, rv_n, rv_b0, rv_b1, RMR, ne_eq, reduceCtorEq, not_false_eq_true, Option.getD_some, if_true, if_false, and_self, false_and, and_false, Nat.add_left_cancel_iff, Nat.add_eq_left, Nat.left_eq_add, Nat.one_ne_zero, Nat.reduceAdd, Nat.reduceLT, Nat.reduceLeDiff, Nat.reduceEqDiff, true_implies, false_implies, implies_true, Option.some.injEq, forall_eq', forall_eq, reduceCtorEq, brT, brF, br_s, i_10, i_01, ib_0_2, ib_1_2, tn_0, tn_1, Int32.le_refl, eq_self, rv_bN, rv_iM, RCM 81, RLY, lit_at hw, c, ad_4, ad_12, ix (by omega : 4 + i < 102) (by omega), ix (by omega : 12 + i < 2471) (by omega), e3, on_succ]
    exact ih
def plS (σ : mS) : mS := cpG (zrG σ 85 2471) 83 4 85 12 12
theorem g_150 {w : mT} {σ : mS} {D : Nat} {K : Hp → Prop} (hw : lit w) (hD : 1 ≤ D) : wpV D 150 [.ref 81] (mW w σ) K ↔ K (mW w (plS σ)) := by
  refine cV_of (m := 0) (fun d hd Q hQ => ?_) rfl hD
  refine b150_0 ?_
  have h2 := lp_150b (σ := zrG σ 85 2471) (d := d) (Q := Q) hw hQ 12 0 (by omega)
  rw [cpG_0] at h2
  have h1 := lp_150a (σ := σ) (d := d) (Q := Q) hw h2 2471 0 (by omega)
  rw [zrG_0] at h1
  exact h1
theorem plS_o {σ : mS} {c : Nat} (h : c ≠ 85) : (plS σ).1 c = σ.1 c := (cpG_o h).trans (zrG_o h)
theorem plS_r {σ : mS} {τ : Rw} (h : mTold σ τ) : mRow (plS σ) 85 0 (sBeg τ) := fun j hj => by
  unfold plS cpG sBeg
  rw [uG_1, if_pos rfl, Nat.zero_add]
  by_cases c : 12 ≤ j ∧ j < 24
  · rw [if_pos (by omega), if_pos c, zrG_o (by omega), show 4 + (j - 12) = j - 8 by omega]
    exact h (j - 8) (by omega)
  · rw [if_neg (by omega), if_neg c, zrG_a hj]; rfl
theorem frA_G' {σ : mS} {a n : Nat} (h : 81 ≤ a ∧ a < 99) : frA σ (zrG σ a n) := frA_G h
theorem frA_cp {σ : mS} {a oa b ob n : Nat} (h : 81 ≤ b ∧ b < 99) : frA σ (cpG σ a oa b ob n) := frA_G h
theorem frA_pl {σ : mS} : frA σ (plS σ) := frA_tr (frA_G' (by omega)) (frA_cp (by omega))
theorem frA_Q {σ σ' : mS} (f : fQ σ σ') : frA σ σ' := ⟨fun a q => ⟨f.1 a (by omega) (by omega), by rw [f.2.2]⟩, by rw [f.2.2]⟩
/-- what is read is told -/
def txS (σ : mS) : mS := uI (uI (uI (plS (cpG σ 84 0 83 0 102)) 81 18 0) 87 0 0) 87 1 0
theorem lp_148c {w : mT} {σ : mS} {d : Nat} {x y : Int32} {Q : Option (Option Value) → Hp → Prop} (hw : lit w) (hd : 1 ≤ d) (hQ : Q (some (some (.int y))) (mW w (txS σ))) : ∀ (r i : Nat), i + r = 102 → Wp 148 150 [.ref 81, .int x, .int y, .int 1, .int (Int32.ofNat i)] [] (mW w (cpG σ 84 0 83 0 i)) Q d := by
  intro r
  induction r with
  | zero =>
    intro i hi
    have hi' : i = 102 := by omega
    subst hi'
    have c : ((102 : Int32) ≤ Int32.ofNat 102) ↔ True := by decide
    refine b148_150 ?_
    simp only [↓br_pos, ↓br_neg, ↓rF_I, ↓rF_L, ↓rF_R, ↓rF_N, rO_m, rB_m, ↓rI_m, wI_m, ↓rB2_m, ↓rB3_m, wB2_m, wB3_m, ↓rL_m, wL_m, ↓rQ_m, wQ_m, ↓lI_m, pI_m, pL_m, pR_m, sI_m, sBy_m, sBo_m, sL_m, sQ_m, fst_m, true_and, and_true, tg_some, ln_some, uI_1, uI_2, uL_1, uL_2, uL_3, uQ_1, uQ_2, uQ_3, rv_i, rv_l, rv_n, rv_b0, rv_b1, RMR, ne_eq, reduceCtorEq, not_false_eq_true, Option.getD_some, if_true, if_false, and_self, false_and, and_false, Nat.add_left_cancel_iff, Nat.add_eq_left, Nat.left_eq_add, Nat.one_ne_zero, Nat.reduceAdd, Nat.reduceLT, Nat.reduceLeDiff, Nat.reduceEqDiff, true_implies, false_implies, implies_true, Option.some.injEq, forall_eq', forall_eq, reduceCtorEq, brT, brF, br_s, i_10, i_01, ib_0_2, ib_1_2, tn_0, tn_1, Int32.le_refl, eq_self, rv_bN, rv_iM, RCM 81, RLY, lit_at hw, c, g_150 hw hd]
    exact hQ
  | succ r ih =>
    intro i hi
    have c : ((102 : Int32) ≤ Int32.ofNat i) ↔ False := iff_false_intro (fun q => absurd ((on_le (i := 102) (by omega) (by omega)).mp q) (by omega))
    have ih := ih (i + 1) (by omega)
    rw [← cpG_I, Nat.zero_add] at ih
    have e3 : (cpG σ 84 0 83 0 i).1 84 i = σ.1 84 i := congrFun (cpG_o (by omega)) _
    refine b148_150 ?_
    simp only [↓br_pos, ↓br_neg, ↓rF_I, ↓rF_L, ↓rF_R, ↓rF_N, rO_m, rB_m, ↓rI_m, wI_m, ↓rB2_m, ↓rB3_m, wB2_m, wB3_m, ↓rL_m, wL_m, ↓rQ_m, wQ_m, ↓lI_m, pI_m, pL_m, pR_m, sI_m, sBy_m, sBo_m, sL_m, sQ_m, fst_m, true_and, and_true, tg_some, ln_some, uI_1, uI_2, uL_1, uL_2, uL_3, uQ_1, uQ_2, uQ_3, rv_i, rv_l, rv_n, rv_b0, rv_b1, RMR, ne_eq, reduceCtorEq, not_false_eq_true, Option.getD_some, if_true, if_false, and_self, false_and, and_false, Nat.add_left_cancel_iff, Nat.add_eq_left, Nat.left_eq_add, Nat.one_ne_zero, Nat.reduceAdd, Nat.reduceLT, Nat.reduceLeDiff, Nat.reduceEqDiff, true_implies, false_implies, implies_true, Option.some.injEq, forall_eq', forall_eq, reduceCtorEq, brT, brF, br_s, i_10, i_01, ib_0_2, ib_1_2, tn_0, tn_1, Int32.le_refl, eq_self, rv_bN, rv_iM, RCM 81, RLY, lit_at hw, c, ix (by omega : i < 102) (by omega), e3, on_succ]
    exact ih
theorem mIn_tx {w : mT} {σ : mS} {t : Nat → Nat} {τ : Rw} (hw : lit w) (hD : mDr σ τ) (hv : vTold τ) (h2 : σ.1 81 2 = 0) (hb : ∀ i, i < 600 → (σ.1 82 i) &&& 255 = Int32.ofNat (t i)) (ht : ∀ i, t i < 256) : mIn w (txS σ) 0 t τ (sBeg τ) 0 (fun _ => τ00) (fun _ => false) (fun _ => τ00) := by
  have hT : mTold (cpG σ 84 0 83 0 102) τ := fun j hj => by
    unfold cpG
    rw [uG_1, if_pos rfl, if_pos (by omega), show 0 + (j - 0) = j by omega]
    exact hD j hj
  have o : ∀ c, c ≠ 81 → c ≠ 87 → (txS σ).1 c = (plS (cpG σ 84 0 83 0 102)).1 c := fun c h1 h2 => by
    unfold txS
    rw [uI_o (by omega), uI_o (by omega), uI_o (by omega)]
  have r := plS_r hT
  refine ⟨hw, mT_c hT (by rw [o 83 (by omega) (by omega), plS_o (by omega)]), mR_c r (o 85 (by omega) (by omega)), hv, vRow_beg hv, ?_, by omega, fun i hi => ?_, ht, ?_, by omega, fun i hi => absurd hi (Nat.not_lt_zero _), fun k hk => ⟨?_, fun q => absurd (show false = true from q) Bool.false_ne_true⟩⟩
  · unfold txS
    rw [uI_1, if_neg (by omega), uI_1, if_neg (by omega), uI_1, if_neg (by omega), plS_o (by omega), cpG_o (by omega)]; exact h2
  · rw [o 82 (by omega) (by omega), plS_o (by omega), cpG_o (by omega)]; exact hb i hi
  · unfold txS
    rw [uI_1, if_neg (by omega), uI_1, if_neg (by omega), uI_1, if_pos ⟨rfl, rfl⟩]; rfl
  · have e : k = 0 ∨ k = 1 := by omega
    rw [if_neg (show ¬ ((fun _ : Nat => false) k = true) from Bool.false_ne_true)]
    unfold txS
    rcases e with rfl | rfl
    · rw [uI_1, if_neg (by omega), uI_1, if_pos ⟨rfl, rfl⟩]
    · rw [uI_1, if_pos ⟨rfl, rfl⟩]
theorem frA_tx {σ : mS} : frA σ (txS σ) := frA_tr (frA_tr (frA_cp (by omega)) frA_pl) (frA_tr (frA_I (by omega)) (frA_tr (frA_I (by omega)) (frA_I (by omega))))
/-- what is kept when it isn't read -/
theorem mIn_Qt {w : mT} {σ σ' : mS} {tp n : Nat} {t : Nat → Nat} {τ ρ : Rw} {bk : Nat → Rw} {has : Nat → Bool} {im : Nat → Rw} (h : mIn w σ tp t τ ρ n bk has im) (f : ∀ a, a ≠ 81 → a ≠ 84 → σ'.1 a = σ.1 a) (h2 : σ'.1 81 2 = 0) (h18 : σ'.1 81 18 = σ.1 81 18) : mIn w σ' 0 t τ ρ n bk has im := by
  obtain ⟨hw, hτ, hρ, hv, hr, hp2, htp, htb, htl, hn, hn12, hbk, him⟩ := h
  refine ⟨hw, mT_c hτ (f 83 (by omega) (by omega)), mR_c hρ (f 85 (by omega) (by omega)), hv, hr, h2, by omega, fun i hi => by rw [f 82 (by omega) (by omega)]; exact htb i hi, htl, by rw [h18]; exact hn, hn12, fun i hi => ⟨mR_c (hbk i hi).1 (f 86 (by omega) (by omega)), (hbk i hi).2⟩, fun k hk => ?_⟩
  obtain ⟨a, b⟩ := him k hk
  exact ⟨by rw [f 87 (by omega) (by omega)]; exact a, fun q => ⟨mR_c (b q).1 (f 88 (by omega) (by omega)), (b q).2⟩⟩
theorem m_148z {w : mT} {σ : mS} {tp D : Nat} {a : Int32} {K : Int32 → Hp → Prop} (hw : lit w) (h2 : σ.1 81 2 = Int32.ofNat tp) (htp : tp ≤ 600) (ha : ¬ (0 ≤ a.toInt ∧ a.toInt ≤ (tp : Nat))) (hD : 8 ≤ D) : wpI D 148 [.ref 81, .int a] (mW w σ) K ↔ K (-1) (mW w (uI σ 81 0 0)) := by
  refine cI_of (m := 7) (fun d hd Q hQ => ?_) rfl hD
  have hd1 : 1 ≤ d := by omega
  have b0 : bN a (tp + 1) = 0 := if_neg (by omega)
  refine b148_0 ?_
  simp only [↓br_pos, ↓br_neg, ↓rF_I, ↓rF_L, ↓rF_R, ↓rF_N, rO_m, rB_m, ↓rI_m, wI_m, ↓rB2_m, ↓rB3_m, wB2_m, wB3_m, ↓rL_m, wL_m, ↓rQ_m, wQ_m, ↓lI_m, pI_m, pL_m, pR_m, sI_m, sBy_m, sBo_m, sL_m, sQ_m, fst_m, true_and, and_true, tg_some, ln_some, uI_1, uI_2, uL_1, uL_2, uL_3, uQ_1, uQ_2, uQ_3, rv_i, rv_l, rv_n, rv_b0, rv_b1, RMR, ne_eq, reduceCtorEq, not_false_eq_true, Option.getD_some, if_true, if_false, and_self, false_and, and_false, Nat.add_left_cancel_iff, Nat.add_eq_left, Nat.left_eq_add, Nat.one_ne_zero, Nat.reduceAdd, Nat.reduceLT, Nat.reduceLeDiff, Nat.reduceEqDiff, true_implies, false_implies, implies_true, Option.some.injEq, forall_eq', forall_eq, reduceCtorEq, brT, brF, br_s, i_10, i_01, ib_0_2, ib_1_2, tn_0, tn_1, Int32.le_refl, eq_self, rv_bN, rv_iM, RCM 81, RLY, lit_at hw, h2, g_129 hd1, vin_m (by omega : tp < 2147483648), b0]
  exact hQ
theorem lp_148b {w : mT} {σ : mS} {d : Nat} {x : Int32} {Q : Option (Option Value) → Hp → Prop} (hw : lit w) (hQ : wpV d 133 [.ref 81] (mW w (uI (zrG σ 84 102) 84 3 1)) (fun h2 => Wp 148 87 [.ref 81, .int x, .int (0 : Int32), .int (1 : Int32), jk] [] h2 Q d)) : ∀ (r i : Nat), i + r = 102 → Wp 148 53 [.ref 81, .int x, .int (Int32.ofNat i), jk, jk] [] (mW w (zrG σ 84 i)) Q d := by
  intro r
  induction r with
  | zero =>
    intro i hi
    have hi' : i = 102 := by omega
    subst hi'
    have c : ((102 : Int32) ≤ Int32.ofNat 102) ↔ True := by decide
    refine b148_53 ?_
    simp only [↓br_pos, ↓br_neg, ↓rF_I, ↓rF_L, ↓rF_R, ↓rF_N, rO_m, rB_m, ↓rI_m, wI_m, ↓rB2_m, ↓rB3_m, wB2_m, wB3_m, ↓rL_m, wL_m, ↓rQ_m, wQ_m, ↓lI_m, pI_m, pL_m, pR_m, sI_m, sBy_m, sBo_m, sL_m, sQ_m, fst_m, true_and, and_true, tg_some, ln_some, uI_1, uI_2, uL_1, uL_2, uL_3, uQ_1, uQ_2, uQ_3, rv_i, rv_l, rv_n, rv_b0, rv_b1, RMR, ne_eq, reduceCtorEq, not_false_eq_true, Option.getD_some, if_true, if_false, and_self, false_and, and_false, Nat.add_left_cancel_iff, Nat.add_eq_left, Nat.left_eq_add, Nat.one_ne_zero, Nat.reduceAdd, Nat.reduceLT, Nat.reduceLeDiff, Nat.reduceEqDiff, true_implies, false_implies, implies_true, Option.some.injEq, forall_eq', forall_eq, reduceCtorEq, brT, brF, br_s, i_10, i_01, ib_0_2, ib_1_2, tn_0, tn_1, Int32.le_refl, eq_self, rv_bN, rv_iM, RCM 81, RLY, lit_at hw, c, ix_3]
    exact hQ
  | succ r ih =>
    intro i hi
    have c : ((102 : Int32) ≤ Int32.ofNat i) ↔ False := iff_false_intro (fun q => absurd ((on_le (i := 102) (by omega) (by omega)).mp q) (by omega))
    have ih := ih (i + 1) (by omega)
    rw [← zrG_I] at ih
    refine b148_53 ?_
    simp only [↓br_pos, ↓br_neg, ↓rF_I, ↓rF_L, ↓rF_R, ↓rF_N, rO_m, rB_m, ↓rI_m, wI_m, ↓rB2_m, ↓rB3_m, wB2_m, wB3_m, ↓rL_m, wL_m, ↓rQ_m, wQ_m, ↓lI_m, pI_m, pL_m, pR_m, sI_m, sBy_m, sBo_m, sL_m, sQ_m, fst_m, true_and, and_true, tg_some, ln_some, uI_1, uI_2, uL_1, uL_2, uL_3, uQ_1, uQ_2, uQ_3, rv_i, rv_l, rv_n, rv_b0, rv_b1, RMR, ne_eq, reduceCtorEq, not_false_eq_true, Option.getD_some, if_true, if_false, and_self, false_and, and_false, Nat.add_left_cancel_iff, Nat.add_eq_left, Nat.left_eq_add, Nat.one_ne_zero, Nat.reduceAdd, Nat.reduceLT, Nat.reduceLeDiff, Nat.reduceEqDiff, true_implies, false_implies, implies_true, Option.some.injEq, forall_eq', forall_eq, reduceCtorEq, brT, brF, br_s, i_10, i_01, ib_0_2, ib_1_2, tn_0, tn_1, Int32.le_refl, eq_self, rv_bN, rv_iM, RCM 81, RLY, lit_at hw, c, ix (by omega : i < 102) (by omega), on_succ]
    exact ih
def tx0 (σ : mS) (m : Nat) : mS := uI (uI (uI (uI (uI (uI (uI σ 81 0 0) 81 3 (Int32.ofNat m)) 81 2 0) 81 5 0) 81 9 0) 81 13 0) 81 14 0
theorem tx0_o {σ : mS} {m a : Nat} (h : a ≠ 81) : (tx0 σ m).1 a = σ.1 a := by
  unfold tx0
  rw [uI_o h, uI_o h, uI_o h, uI_o h, uI_o h, uI_o h, uI_o h]
theorem tx0_f {σ : mS} {m j : Nat} : (tx0 σ m).1 81 j = if j = 14 then 0 else if j = 13 then 0 else if j = 9 then 0 else if j = 5 then 0 else if j = 2 then 0 else if j = 3 then Int32.ofNat m else if j = 0 then 0 else σ.1 81 j := by
  unfold tx0
  simp only [uI_1, true_and]
theorem frA_t0 {σ : mS} {m : Nat} : frA σ (tx0 σ m) := frA_tr (frA_I (by omega)) (frA_tr (frA_I (by omega)) (frA_tr (frA_I (by omega)) (frA_tr (frA_I (by omega)) (frA_tr (frA_I (by omega)) (frA_tr (frA_I (by omega)) (frA_I (by omega)))))))
theorem m_148 {w : mT} {σ : mS} {tp n m : Nat} {t : Nat → Nat} {τ ρ : Rw} {bk : Nat → Rw} {has : Nat → Bool} {im : Nat → Rw} (h : mIn w σ tp t τ ρ n bk has im) (hm : m ≤ tp) : ∃ σ', frA σ σ' ∧ (if (rAll t m).1 = 0 then mIn w σ' 0 t (rAll t m).2.1 (sBeg (rAll t m).2.1) 0 (fun _ => τ00) (fun _ => false) (fun _ => τ00) else mIn w σ' 0 t τ ρ n bk has im) ∧ ∀ {D : Nat} {K : Int32 → Hp → Prop}, 8 ≤ D → (wpI D 148 [.ref 81, .int (Int32.ofNat m)] (mW w σ) K ↔ K (if (rAll t m).1 = 0 then Int32.ofNat (rAll t m).2.2 else -2 - Int32.ofNat (rAll t m).1) (mW w σ')) := by
  have h' := h
  obtain ⟨hw, hτ, hρ, hv, hr, hp2, htp, htb, ht, hn, hn12, hbk, him⟩ := h
  have hm6 : m ≤ 600 := by omega
  have b1 : bN (Int32.ofNat m) (tp + 1) = 1 := if_pos (by rw [on_int (by omega)]; omega)
  have oS : ∀ a, a ≠ 84 → (uI (zrG (tx0 σ m) 84 102) 84 3 1).1 a = (tx0 σ m).1 a := fun a ha => by rw [uI_o ha, zrG_o ha]
  have B1 : mBy (uI (zrG (tx0 σ m) 84 102) 84 3 1) t m := ⟨fun i hi => by rw [oS 82 (by omega), tx0_o (by omega)]; exact htb i hi, by rw [oS 81 (by omega), tx0_f]; rfl⟩
  obtain ⟨σ1, f1, G1, q1⟩ := o_133 (g := g00) hw ht hm6 B1 (by rw [oS 81 (by omega), tx0_f]; rfl) (by rw [oS 81 (by omega), tx0_f]; rfl) (by rw [oS 81 (by omega), tx0_f]; rfl) (by rw [oS 81 (by omega), tx0_f]; rfl) (Nat.zero_le _)
  have vg1 := vG_w (t := t) (n := m) (g := g00) (Nat.zero_le _) hm6
  have D1 : mDr σ1 τ00 := fun j hj => by
    rw [f1.1 84 (by omega), uI_1]
    unfold τ00
    by_cases e : j = 3
    · rw [if_pos ⟨rfl, e⟩, if_pos e]; rfl
    · rw [if_neg (fun q => e q.2), if_neg e, zrG_a (by omega)]; rfl
  have V1 : rV m (adv t m g00) τ00 := ⟨vg1, by rw [adv_g (by omega)]; rfl, vT_00, by rw [adv_g (by omega)]; rfl⟩
  have S1 : rdS σ1 t m (adv t m g00) (fun _ => 0) τ00 := ⟨G1, D1, fun i hi => absurd hi (by rw [adv_g (by omega)]; show ¬ i < 0; omega)⟩
  have md := adv_1 (t := t) (n := m) (g := g00) (Nat.zero_le _)
  obtain ⟨σ2, f2, R2, q2⟩ := lp_148 (x := Int32.ofNat m) hw ht 600 σ1 (adv t m g00) τ00 (fun _ => 0) 0 S1 V1 (by rw [adv_g (by omega)]; exact Nat.zero_le _) (fun q => by have := md.2 q; omega)
  have eA : rLp t m 600 (adv t m g00) (fun _ => 0) τ00 0 = rAll t m := rfl
  rw [eA] at R2 q2
  have fA : frA σ σ2 := frA_tr (frA_tr (frA_tr frA_t0 (frA_tr (frA_G' (by omega)) (frA_I (by omega)))) (frA_Q (fQ_8 (f8_G f1)))) (frA_Q f2)
  have o2 : ∀ a, a ≠ 81 → a ≠ 84 → σ2.1 a = σ.1 a := fun a h1 h2 => by rw [f2.1 a h1 h2, f1.1 a h1, oS a h2, tx0_o h1]
  have p2 : ∀ j, j < 3 ∨ 14 < j → σ2.1 81 j = (tx0 σ m).1 81 j := fun j hj => by rw [f2.2.1 j hj, f1.2.1 j (by omega), oS 81 (by omega)]
  have z2 : σ2.1 81 2 = 0 := by rw [p2 2 (by omega), tx0_f]; rfl
  have n18 : σ2.1 81 18 = σ.1 81 18 := by rw [p2 18 (by omega), tx0_f]; rfl
  have start : ∀ {d : Nat} {Q : Option (Option Value) → Hp → Prop}, 7 ≤ d → Wp 148 87 [.ref 81, .int (Int32.ofNat m), .int (0 : Int32), .int (1 : Int32), jk] [] (mW w σ1) Q d → Wp 148 0 [.ref 81, .int (Int32.ofNat m), jk, jk, jk] [] (mW w σ) Q d := fun {d Q} hd hQ => by
    have hd1 : 1 ≤ d := by omega
    have hd2 : 2 ≤ d := by omega
    have L := lp_148b (σ := tx0 σ m) (d := d) (x := Int32.ofNat m) (Q := Q) hw ((q1 hd2).mpr hQ) 102 0 (by omega)
    rw [zrG_0] at L
    refine b148_0 ?_
    simp only [↓br_pos, ↓br_neg, ↓rF_I, ↓rF_L, ↓rF_R, ↓rF_N, rO_m, rB_m, ↓rI_m, wI_m, ↓rB2_m, ↓rB3_m, wB2_m, wB3_m, ↓rL_m, wL_m, ↓rQ_m, wQ_m, ↓lI_m, pI_m, pL_m, pR_m, sI_m, sBy_m, sBo_m, sL_m, sQ_m, fst_m, true_and, and_true, tg_some, ln_some, uI_1, uI_2, uL_1, uL_2, uL_3, uQ_1, uQ_2, uQ_3, rv_i, rv_l, rv_n, rv_b0, rv_b1, RMR, ne_eq, reduceCtorEq, not_false_eq_true, Option.getD_some, if_true, if_false, and_self, false_and, and_false, Nat.add_left_cancel_iff, Nat.add_eq_left, Nat.left_eq_add, Nat.one_ne_zero, Nat.reduceAdd, Nat.reduceLT, Nat.reduceLeDiff, Nat.reduceEqDiff, true_implies, false_implies, implies_true, Option.some.injEq, forall_eq', forall_eq, reduceCtorEq, brT, brF, br_s, i_10, i_01, ib_0_2, ib_1_2, tn_0, tn_1, Int32.le_refl, eq_self, rv_bN, rv_iM, RCM 81, RLY, lit_at hw, hp2, g_129 hd1, vin_m (by omega : tp < 2147483648), b1, z10]
    exact L
  by_cases z : (rAll t m).1 = 0
  · obtain ⟨D2, v2⟩ := R2 z
    refine ⟨txS σ2, frA_tr fA frA_tx, by rw [if_pos z]; exact mIn_tx hw D2 v2 z2 (fun i hi => by rw [o2 82 (by omega) (by omega)]; exact htb i hi) ht, fun hD => cI_of (m := 7) (fun d hd Q hQ => ?_) rfl hD⟩
    rw [if_pos z] at hQ
    refine start hd (q2 hd ?_)
    rw [if_pos z]
    have := lp_148c (σ := σ2) (d := d) (x := Int32.ofNat m) (y := Int32.ofNat (rAll t m).2.2) (Q := Q) hw (by omega) hQ 102 0 (by omega)
    rw [cpG_0] at this
    exact this
  · refine ⟨σ2, fA, by rw [if_neg z]; exact mIn_Qt h' o2 z2 n18, fun hD => cI_of (m := 7) (fun d hd Q hQ => ?_) rfl hD⟩
    rw [if_neg z] at hQ
    refine start hd (q2 hd ?_)
    rw [if_neg z]
    exact hQ
end
section
/-! the model's feed -/
theorem bp_b' (x : Int32) : x.toInt8.toInt32 &&& 255 = x &&& 255 := by
  apply Int32.toBitVec_inj.mp
  rw [Int32.toBitVec_and, Int32.toBitVec_and, Int8.toBitVec_toInt32, Int32.toBitVec_toInt8]
  apply BitVec.eq_of_getLsbD_eq
  intro i hi
  rw [BitVec.getLsbD_and, BitVec.getLsbD_and]
  have hm : ∀ i < 32, 8 ≤ i → (255 : Int32).toBitVec.getLsbD i = false := by decide
  rcases Nat.lt_or_ge i 8 with z | z
  · rw [BitVec.getLsbD_signExtend, BitVec.getLsbD_signExtend, if_pos z, if_pos hi]
    simp only [z, hi, decide_true, Bool.true_and]
  · rw [hm i hi z]; simp
theorem bvN_e {x : Int32} : (vp_nar .byte (Int8.toInt32 (Int32.toInt8 x))) &&& 255 = Int32.ofNat (byN x) := by
  rw [vp_nar_byte, bp_b', bp_b', byN_e]
def f31 (σ σ' : mS) : Prop := (∀ a, a ≠ 81 → a ≠ 82 → σ'.1 a = σ.1 a) ∧ σ'.2 = σ.2 ∧ ∀ j, j ≠ 2 → σ'.1 81 j = σ.1 81 j
theorem g_131 {w : mT} {σ : mS} {t : Nat → Nat} {tp : Nat} {v : Int32} (hw : lit w) (h1 : σ.1 81 2 = Int32.ofNat tp) (htp : tp + 4 ≤ 600) (ht : ∀ i, i < 600 → (σ.1 82 i) &&& 255 = Int32.ofNat (t i)) : ∃ σ', f31 σ σ' ∧ σ'.1 81 2 = Int32.ofNat (tp + 4) ∧ (∀ i, i < 600 → (σ'.1 82 i) &&& 255 = Int32.ofNat (tPut t tp v i)) ∧ ∀ {D : Nat} {K : Hp → Prop}, 1 ≤ D → (wpV D 131 [.ref 81, .int v] (mW w σ) K ↔ K (mW w σ')) := by
  refine ⟨uI (uI (uI (uI (uI (uI (uI (uI σ 82 tp (vp_nar .byte (Int8.toInt32 (Int32.toInt8 (v >>> 24))))) 81 2 (Int32.ofNat (tp + 1))) 82 (tp + 1) (vp_nar .byte (Int8.toInt32 (Int32.toInt8 (v >>> 16))))) 81 2 (Int32.ofNat (tp + 1 + 1))) 82 (tp + 1 + 1) (vp_nar .byte (Int8.toInt32 (Int32.toInt8 (v >>> 8))))) 81 2 (Int32.ofNat (tp + 1 + 1 + 1))) 82 (tp + 1 + 1 + 1) (vp_nar .byte (Int8.toInt32 (Int32.toInt8 (v >>> 0))))) 81 2 (Int32.ofNat (tp + 1 + 1 + 1 + 1)), ⟨fun a ha hb => funext fun j => ?_, rfl, fun j hj => ?_⟩, ?_, fun i hi => ?_, fun hD => cV_of (m := 0) (fun d hd Q hQ => ?_) rfl hD⟩
  · rw [uI_1, if_neg (by omega), uI_1, if_neg (by omega), uI_1, if_neg (by omega), uI_1, if_neg (by omega), uI_1, if_neg (by omega), uI_1, if_neg (by omega), uI_1, if_neg (by omega), uI_1, if_neg (by omega)]
  · rw [uI_1, if_neg (by omega), uI_1, if_neg (by omega), uI_1, if_neg (by omega), uI_1, if_neg (by omega), uI_1, if_neg (by omega), uI_1, if_neg (by omega), uI_1, if_neg (by omega), uI_1, if_neg (by omega)]
  · rw [uI_1, if_pos ⟨rfl, rfl⟩]
  · unfold tPut
    rw [uI_1, if_neg (by omega), uI_1]
    by_cases e3 : i = tp + 3
    · rw [if_pos ⟨rfl, e3⟩, if_pos e3, bvN_e]
    rw [if_neg (fun q => e3 q.2), if_neg e3, uI_1, if_neg (by omega), uI_1]
    by_cases e2 : i = tp + 2
    · rw [if_pos ⟨rfl, e2⟩, if_pos e2, bvN_e]
    rw [if_neg (fun q => e2 q.2), if_neg e2, uI_1, if_neg (by omega), uI_1]
    by_cases e1 : i = tp + 1
    · rw [if_pos ⟨rfl, e1⟩, if_pos e1, bvN_e]
    rw [if_neg (fun q => e1 q.2), if_neg e1, uI_1, if_neg (by omega), uI_1]
    by_cases e0 : i = tp
    · rw [if_pos ⟨rfl, e0⟩, if_pos e0, bvN_e]
    rw [if_neg (fun q => e0 q.2), if_neg e0]
    exact ht i hi
  · have s24 : ((24 : Int32) &&& 31) = 24 := by decide
    have s16 : ((16 : Int32) &&& 31) = 16 := by decide
    have s8 : ((8 : Int32) &&& 31) = 8 := by decide
    have s0 : ((0 : Int32) &&& 31) = 0 := by decide
    have p24 : (24 : Int32) + -8 = 16 := by decide
    have p16 : (16 : Int32) + -8 = 8 := by decide
    have p8 : (8 : Int32) + -8 = 0 := by decide
    have p0 : (0 : Int32) + -8 = -8 := by decide
    have n24 : ((24 : Int32) < 0) ↔ False := by decide
    have n16 : ((16 : Int32) < 0) ↔ False := by decide
    have n8 : ((8 : Int32) < 0) ↔ False := by decide
    have n0 : ((0 : Int32) < 0) ↔ False := by decide
    have nm : ((-8 : Int32) < 0) ↔ True := by decide
    have eb : ∀ x : Nat, x < 600 → inB (Int32.ofNat x) 600 = true := fun x hx => on_inB hx (by omega)
    have en : ∀ x : Nat, x < 600 → (Int32.ofNat x).toNatClampNeg = x := fun x hx => on_nat (by omega)
    refine b131_0 ?_
    refine b131_3 ?_
    simp only [↓br_pos, ↓br_neg, ↓rF_I, ↓rF_L, ↓rF_R, ↓rF_N, rO_m, rB_m, ↓rI_m, wI_m, ↓rB2_m, ↓rB3_m, wB2_m, wB3_m, ↓rL_m, wL_m, ↓rQ_m, wQ_m, ↓lI_m, pI_m, pL_m, pR_m, sI_m, sBy_m, sBo_m, sL_m, sQ_m, fst_m, true_and, and_true, tg_some, ln_some, uI_1, uI_2, uL_1, uL_2, uL_3, uQ_1, uQ_2, uQ_3, rv_i, rv_l, rv_n, rv_b0, rv_b1, RMR, ne_eq, reduceCtorEq, not_false_eq_true, Option.getD_some, if_true, if_false, and_self, false_and, and_false, Nat.add_left_cancel_iff, Nat.add_eq_left, Nat.left_eq_add, Nat.one_ne_zero, Nat.reduceAdd, Nat.reduceLT, Nat.reduceLeDiff, Nat.reduceEqDiff, true_implies, false_implies, implies_true, Option.some.injEq, forall_eq', forall_eq, reduceCtorEq, brT, brF, br_s, i_10, i_01, ib_0_2, ib_1_2, tn_0, tn_1, Int32.le_refl, eq_self, rv_bN, rv_iM, RCM 81, RLY, lit_at hw, n24, h1, eb tp (by omega), en tp (by omega), s24, p24, on_succ]
    refine b131_3 ?_
    simp only [↓br_pos, ↓br_neg, ↓rF_I, ↓rF_L, ↓rF_R, ↓rF_N, rO_m, rB_m, ↓rI_m, wI_m, ↓rB2_m, ↓rB3_m, wB2_m, wB3_m, ↓rL_m, wL_m, ↓rQ_m, wQ_m, ↓lI_m, pI_m, pL_m, pR_m, sI_m, sBy_m, sBo_m, sL_m, sQ_m, fst_m, true_and, and_true, tg_some, ln_some, uI_1, uI_2, uL_1, uL_2, uL_3, uQ_1, uQ_2, uQ_3, rv_i, rv_l, rv_n, rv_b0, rv_b1, RMR, ne_eq, reduceCtorEq, not_false_eq_true, Option.getD_some, if_true, if_false, and_self, false_and, and_false, Nat.add_left_cancel_iff, Nat.add_eq_left, Nat.left_eq_add, Nat.one_ne_zero, Nat.reduceAdd, Nat.reduceLT, Nat.reduceLeDiff, Nat.reduceEqDiff, true_implies, false_implies, implies_true, Option.some.injEq, forall_eq', forall_eq, reduceCtorEq, brT, brF, br_s, i_10, i_01, ib_0_2, ib_1_2, tn_0, tn_1, Int32.le_refl, eq_self, rv_bN, rv_iM, RCM 81, RLY, lit_at hw, n16, eb (tp + 1) (by omega), en (tp + 1) (by omega), s16, p16, on_succ]
    refine b131_3 ?_
    simp only [↓br_pos, ↓br_neg, ↓rF_I, ↓rF_L, ↓rF_R, ↓rF_N, rO_m, rB_m, ↓rI_m, wI_m, ↓rB2_m, ↓rB3_m, wB2_m, wB3_m, ↓rL_m, wL_m, ↓rQ_m, wQ_m, ↓lI_m, pI_m, pL_m, pR_m, sI_m, sBy_m, sBo_m, sL_m, sQ_m, fst_m, true_and, and_true, tg_some, ln_some, uI_1, uI_2, uL_1, uL_2, uL_3, uQ_1, uQ_2, uQ_3, rv_i, rv_l, rv_n, rv_b0, rv_b1, RMR, ne_eq, reduceCtorEq, not_false_eq_true, Option.getD_some, if_true, if_false, and_self, false_and, and_false, Nat.add_left_cancel_iff, Nat.add_eq_left, Nat.left_eq_add, Nat.one_ne_zero, Nat.reduceAdd, Nat.reduceLT, Nat.reduceLeDiff, Nat.reduceEqDiff, true_implies, false_implies, implies_true, Option.some.injEq, forall_eq', forall_eq, reduceCtorEq, brT, brF, br_s, i_10, i_01, ib_0_2, ib_1_2, tn_0, tn_1, Int32.le_refl, eq_self, rv_bN, rv_iM, RCM 81, RLY, lit_at hw, n8, eb (tp + 1 + 1) (by omega), en (tp + 1 + 1) (by omega), s8, p8, on_succ]
    refine b131_3 ?_
    simp only [↓br_pos, ↓br_neg, ↓rF_I, ↓rF_L, ↓rF_R, ↓rF_N, rO_m, rB_m, ↓rI_m, wI_m, ↓rB2_m, ↓rB3_m, wB2_m, wB3_m, ↓rL_m, wL_m, ↓rQ_m, wQ_m, ↓lI_m, pI_m, pL_m, pR_m, sI_m, sBy_m, sBo_m, sL_m, sQ_m, fst_m, true_and, and_true, tg_some, ln_some, uI_1, uI_2, uL_1, uL_2, uL_3, uQ_1, uQ_2, uQ_3, rv_i, rv_l, rv_n, rv_b0, rv_b1, RMR, ne_eq, reduceCtorEq, not_false_eq_true, Option.getD_some, if_true, if_false, and_self, false_and, and_false, Nat.add_left_cancel_iff, Nat.add_eq_left, Nat.left_eq_add, Nat.one_ne_zero, Nat.reduceAdd, Nat.reduceLT, Nat.reduceLeDiff, Nat.reduceEqDiff, true_implies, false_implies, implies_true, Option.some.injEq, forall_eq', forall_eq, reduceCtorEq, brT, brF, br_s, i_10, i_01, ib_0_2, ib_1_2, tn_0, tn_1, Int32.le_refl, eq_self, rv_bN, rv_iM, RCM 81, RLY, lit_at hw, n0, eb (tp + 1 + 1 + 1) (by omega), en (tp + 1 + 1 + 1) (by omega), s0, p0, on_succ]
    refine b131_3 ?_
    simp only [↓br_pos, ↓br_neg, ↓rF_I, ↓rF_L, ↓rF_R, ↓rF_N, rO_m, rB_m, ↓rI_m, wI_m, ↓rB2_m, ↓rB3_m, wB2_m, wB3_m, ↓rL_m, wL_m, ↓rQ_m, wQ_m, ↓lI_m, pI_m, pL_m, pR_m, sI_m, sBy_m, sBo_m, sL_m, sQ_m, fst_m, true_and, and_true, tg_some, ln_some, uI_1, uI_2, uL_1, uL_2, uL_3, uQ_1, uQ_2, uQ_3, rv_i, rv_l, rv_n, rv_b0, rv_b1, RMR, ne_eq, reduceCtorEq, not_false_eq_true, Option.getD_some, if_true, if_false, and_self, false_and, and_false, Nat.add_left_cancel_iff, Nat.add_eq_left, Nat.left_eq_add, Nat.one_ne_zero, Nat.reduceAdd, Nat.reduceLT, Nat.reduceLeDiff, Nat.reduceEqDiff, true_implies, false_implies, implies_true, Option.some.injEq, forall_eq', forall_eq, reduceCtorEq, brT, brF, br_s, i_10, i_01, ib_0_2, ib_1_2, tn_0, tn_1, Int32.le_refl, eq_self, rv_bN, rv_iM, nm]
    exact hQ
theorem frA_31 {σ σ' : mS} (f : f31 σ σ') : frA σ σ' := ⟨fun a q => ⟨f.1 a (by omega) (by omega), by rw [f.2.1]⟩, by rw [f.2.1]⟩
/-- what a change of the tape keeps -/
theorem mIn_31 {w : mT} {σ σ' : mS} {tp tp' n : Nat} {t t' : Nat → Nat} {τ ρ : Rw} {bk : Nat → Rw} {has : Nat → Bool} {im : Nat → Rw} (h : mIn w σ tp t τ ρ n bk has im) (f : f31 σ σ') (h2 : σ'.1 81 2 = Int32.ofNat tp') (h3 : tp' ≤ 600) (hb : ∀ i, i < 600 → (σ'.1 82 i) &&& 255 = Int32.ofNat (t' i)) (ht' : ∀ i, t' i < 256) : mIn w σ' tp' t' τ ρ n bk has im := by
  obtain ⟨hw, hτ, hρ, hv, hr, hp2, htp, htb, ht, hn, hn12, hbk, him⟩ := h
  obtain ⟨f1, f2, f3⟩ := f
  refine ⟨hw, mT_c hτ (f1 83 (by omega) (by omega)), mR_c hρ (f1 85 (by omega) (by omega)), hv, hr, h2, h3, hb, ht', by rw [f3 18 (by omega)]; exact hn, hn12, fun i hi => ⟨mR_c (hbk i hi).1 (f1 86 (by omega) (by omega)), (hbk i hi).2⟩, fun k hk => ?_⟩
  obtain ⟨a, b⟩ := him k hk
  exact ⟨by rw [f1 87 (by omega) (by omega)]; exact a, fun q => ⟨mR_c (b q).1 (f1 88 (by omega) (by omega)), (b q).2⟩⟩
theorem f31_tr {σ σ' σ'' : mS} (h : f31 σ σ') (h' : f31 σ' σ'') : f31 σ σ'' := ⟨fun a x y => (h'.1 a x y).trans (h.1 a x y), h'.2.1.trans h.2.1, fun j hj => (h'.2.2 j hj).trans (h.2.2 j hj)⟩
theorem m_130 {w : mT} {σ : mS} {tp n : Nat} {t : Nat → Nat} {τ ρ : Rw} {bk : Nat → Rw} {has : Nat → Bool} {im : Nat → Rw} {a b c e f : Int32} (h : mIn w σ tp t τ ρ n bk has im) : ∃ σ', frA σ σ' ∧ mIn w σ' (if tp + 20 ≤ 600 then tp + 20 else tp) (if tp + 20 ≤ 600 then feedT t tp a b c e f else t) τ ρ n bk has im ∧ ∀ {D : Nat} {K : Int32 → Hp → Prop}, 2 ≤ D → (wpI D 130 [.ref 81, .int a, .int b, .int c, .int e, .int f] (mW w σ) K ↔ K (if tp + 20 ≤ 600 then Int32.ofNat (tp + 20) else -1) (mW w σ')) := by
  have h0 : mIn w (uI σ 81 0 0) tp t τ ρ n bk has im := mIn_Z h (frZ_0 (by omega))
  have h' := h0
  obtain ⟨hw, hτ, hρ, hv, hr, hp2, htp, htb, ht, hn, hn12, hbk, him⟩ := h0
  have hp2' : σ.1 81 2 = Int32.ofNat tp := by have q := hp2; rw [uI_1, if_neg (by omega)] at q; exact q
  have lf : (Int32.ofNat tp + 20 ≤ (600 : Int32)) ↔ tp + 20 ≤ 600 := by
    rw [show Int32.ofNat tp + 20 = Int32.ofNat (tp + 20) from of_add]
    exact on_le (j := 600) (by omega) (by omega)
  by_cases z : tp + 20 ≤ 600
  · rw [if_pos z, if_pos z, if_pos z]
    obtain ⟨σ1, f1, c1, b1, e1⟩ := g_131 (v := a) hw hp2 (by omega) htb
    obtain ⟨σ2, f2, c2, b2, e2⟩ := g_131 (v := b) hw c1 (by omega) b1
    obtain ⟨σ3, f3, c3, b3, e3⟩ := g_131 (v := c) hw c2 (by omega) b2
    obtain ⟨σ4, f4, c4, b4, e4⟩ := g_131 (v := e) hw c3 (by omega) b3
    obtain ⟨σ5, f5, c5, b5, e5⟩ := g_131 (v := f) hw c4 (by omega) b4
    have ff := f31_tr f1 (f31_tr f2 (f31_tr f3 (f31_tr f4 f5)))
    refine ⟨σ5, frA_tr (frA_I (by omega)) (frA_31 ff), mIn_31 h' ff c5 (by omega) b5 (fun i => tPut_lt (tPut_lt (tPut_lt (tPut_lt (tPut_lt ht)))) i), fun hD => cI_of (m := 1) (fun d hd Q hQ => ?_) rfl hD⟩
    have hd1 : 1 ≤ d := by omega
    have zz := iff_true_intro (lf.mpr z)
    refine b130_0 ?_
    simp only [↓br_pos, ↓br_neg, ↓rF_I, ↓rF_L, ↓rF_R, ↓rF_N, rO_m, rB_m, ↓rI_m, wI_m, ↓rB2_m, ↓rB3_m, wB2_m, wB3_m, ↓rL_m, wL_m, ↓rQ_m, wQ_m, ↓lI_m, pI_m, pL_m, pR_m, sI_m, sBy_m, sBo_m, sL_m, sQ_m, fst_m, true_and, and_true, tg_some, ln_some, uI_1, uI_2, uL_1, uL_2, uL_3, uQ_1, uQ_2, uQ_3, rv_i, rv_l, rv_n, rv_b0, rv_b1, RMR, ne_eq, reduceCtorEq, not_false_eq_true, Option.getD_some, if_true, if_false, and_self, false_and, and_false, Nat.add_left_cancel_iff, Nat.add_eq_left, Nat.left_eq_add, Nat.one_ne_zero, Nat.reduceAdd, Nat.reduceLT, Nat.reduceLeDiff, Nat.reduceEqDiff, true_implies, false_implies, implies_true, Option.some.injEq, forall_eq', forall_eq, reduceCtorEq, brT, brF, br_s, i_10, i_01, ib_0_2, ib_1_2, tn_0, tn_1, Int32.le_refl, eq_self, rv_bN, rv_iM, RCM 81, RLY, lit_at hw, hp2', zz, e1 hd1, e2 hd1, e3 hd1, e4 hd1, e5 hd1, c5]
    exact hQ
  · rw [if_neg z, if_neg z, if_neg z]
    refine ⟨uI σ 81 0 0, frA_I (by omega), h', fun hD => cI_of (m := 1) (fun d hd Q hQ => ?_) rfl hD⟩
    have zz := iff_false_intro (fun q => z (lf.mp q))
    refine b130_0 ?_
    simp only [↓br_pos, ↓br_neg, ↓rF_I, ↓rF_L, ↓rF_R, ↓rF_N, rO_m, rB_m, ↓rI_m, wI_m, ↓rB2_m, ↓rB3_m, wB2_m, wB3_m, ↓rL_m, wL_m, ↓rQ_m, wQ_m, ↓lI_m, pI_m, pL_m, pR_m, sI_m, sBy_m, sBo_m, sL_m, sQ_m, fst_m, true_and, and_true, tg_some, ln_some, uI_1, uI_2, uL_1, uL_2, uL_3, uQ_1, uQ_2, uQ_3, rv_i, rv_l, rv_n, rv_b0, rv_b1, RMR, ne_eq, reduceCtorEq, not_false_eq_true, Option.getD_some, if_true, if_false, and_self, false_and, and_false, Nat.add_left_cancel_iff, Nat.add_eq_left, Nat.left_eq_add, Nat.one_ne_zero, Nat.reduceAdd, Nat.reduceLT, Nat.reduceLeDiff, Nat.reduceEqDiff, true_implies, false_implies, implies_true, Option.some.injEq, forall_eq', forall_eq, reduceCtorEq, brT, brF, br_s, i_10, i_01, ib_0_2, ib_1_2, tn_0, tn_1, Int32.le_refl, eq_self, rv_bN, rv_iM, RCM 81, RLY, lit_at hw, hp2', zz]
    exact hQ
end
section
/-! beyond a pile's last cell nothing lies -/
def eP (τ ρ : Rw) : Prop := ∀ q k c, q < τ 1 → k < 60 → τ (28 + q) ≤ c → c < 12 → ρ (li q k c) = 0
theorem eP_hi {τ ρ ρ' : Rw} (h : eP τ ρ) (e : ∀ j, 311 ≤ j → ρ' j = ρ j) : eP τ ρ' := fun q k c a b d f => (e _ (by unfold li; omega)).trans (h q k c a b d f)
theorem eP_s {τ ρ : Rw} {j x : Nat} (h : eP τ ρ) (hj : j < 311) : eP τ (rSet ρ j x) := eP_hi h (fun i hi => by rw [rSet_1, if_neg (by omega)])
theorem eP_mo {τ ρ : Rw} {p c s : Nat} (h : eP τ ρ) (hs : s < 8) : eP τ (sMove τ ρ p c s) := fun q k c' a b d f => by
  have := h q k c' a b d f
  unfold sMove
  split
  · rfl
  · rw [if_neg (by unfold li; omega), if_neg (by unfold li; omega)]; exact this
theorem li_inj {q k' c' p k c : Nat} (e : li q k' c' = li p k c) (h1 : k' < 60) (h2 : k < 60) (h3 : c < 12) (h4 : c' < 12) : q = p ∧ k' = k ∧ c' = c := by
  unfold li at e; omega
theorem eP_po {τ ρ : Rw} {p k c t : Nat} (h : eP τ ρ) (hl : ρ (lo p k) < 12) (hk : k < 60) (hc : c < τ (28 + p)) (hc2 : c < 12) : eP τ (sPour ρ p k c t) := fun q k' c' a b d f => by
  rw [sPour_1, if_neg (by unfold li; omega), if_neg (fun e => by obtain ⟨rfl, -, rfl⟩ := li_inj e b hk hc2 f; omega)]
  exact h q k' c' a b d f
theorem eP_ps {τ ρ : Rw} {p k b t N : Nat} (h : eP τ ρ) (hp : p < 3) (hk : k < 60) (hl : ρ (lo p k) < 12) (hN : b + N ≤ τ (28 + p)) (h12 : τ (28 + p) ≤ 12) : ∀ j, j ≤ N → eP τ (pours ρ p k b t j) := by
  intro j
  induction j with
  | zero => intro _; exact h
  | succ j ih =>
    intro hj
    have e : pours ρ p k b t j (lo p k) = ρ (lo p k) := (pours_g hp hk hl j).1 _ (by unfold lo; omega)
    exact eP_po (ih (by omega)) (by rw [e]; exact hl) hk (by omega) (by omega)
theorem eP_go {τ ρ : Rw} {m p c : Nat} (h : eP τ ρ) (hm : m < 2) : eP τ (sGo ρ m p c) := by
  unfold sGo
  exact eP_s (eP_s h (by omega)) (by omega)
theorem eP_ad {τ ρ : Rw} {p l : Nat} (h : eP τ ρ) (hp : p < 3) (hk : ρ (24 + p) < 60) : eP τ (sAdd ρ p l) := by
  unfold sAdd
  exact eP_s (eP_s h (by unfold lo; omega)) (by omega)
theorem eP_lay {τ ρ : Rw} {p l a b t : Nat} (hv : vTold τ) (h : eP τ ρ) (hp : p < τ 1) (hl : l < τ 0) (ha : a < τ (28 + p)) (hb : b < τ (28 + p)) (hk : ρ (24 + p) < 60) : eP τ (sLayA ρ p l a b t) := by
  have v0 := hv.1
  have v1 := hv.2.1
  have v2 := (hv.2.2.2.2.2.1 p hp).2
  have e : sGo (sGo ρ 0 p a) 0 p b (24 + p) = ρ (24 + p) := by rw [sGo_g (by omega) (by omega), sGo_g (by omega) (by omega)]
  have el : sTo ρ p l a b (lo p (ρ (24 + p))) = l := by
    unfold sTo
    rw [sAdd_1, e, if_neg (by unfold lo; omega), if_pos rfl]
  unfold sLayA
  refine eP_s (eP_ps (N := dist b a + 1) (by unfold sTo; exact eP_ad (eP_go (eP_go h (by omega)) (by omega)) (by omega) (by rw [e]; exact hk)) (by omega) hk (by rw [el]; omega) ?_ v2 _ (Nat.le_refl _)) (by omega)
  unfold dist; omega
theorem eP_cut {τ ρ : Rw} {p c s : Nat} (h : eP τ ρ) (hs : s < 8) : eP τ (sCutA τ ρ p c s) := by
  unfold sCutA
  exact eP_mo (eP_s (eP_go h (by omega)) (by omega)) hs
theorem eP_o0 {τ ρ : Rw} {p l a b t : Nat} (h : eP τ ρ) (hn : ρ 10 < 8) : eP τ (sO0 ρ p l a b t) := eP_hi h (fun j hj => by unfold sO0; rw [if_neg (by omega), if_neg (by omega)])
theorem eP_o1 {τ ρ : Rw} {p c s : Nat} (h : eP τ ρ) (hn : ρ 11 < 8) : eP τ (sO1 ρ p c s) := eP_hi h (fun j hj => by unfold sO1; rw [if_neg (by omega), if_neg (by omega)])
theorem eP_E0 {τ ρ : Rw} (h : eP τ ρ) (hn : ρ 10 ≤ 8) : eP τ (sE0 ρ) := eP_hi h (fun j hj => by unfold sE0; rw [if_neg (by omega), if_neg (by omega), if_neg (by omega)])
theorem eP_E1 {τ ρ : Rw} (h : eP τ ρ) (hn : ρ 11 ≤ 8) : eP τ (sE1 ρ) := eP_hi h (fun j hj => by unfold sE1; rw [if_neg (by omega), if_neg (by omega), if_neg (by omega)])
theorem eP_mv {τ ρ : Rw} {m p c : Nat} (h : eP τ ρ) (hm : m < 2) : eP τ (sMv τ ρ m p c) := by
  unfold sMv
  split
  · exact eP_go h hm
  · exact h
theorem eP_w1 {τ ρ : Rw} {m : Nat} (h : eP τ ρ) (hm : m < 2) : eP τ (way1 ρ m) := by
  unfold way1
  split
  · exact eP_s h (by omega)
  · exact h
theorem eP_tr {τ ρ : Rw} {m p g : Nat} (h : eP τ ρ) (hm : m < 2) : eP τ (sTr τ ρ m p g) := by
  unfold sTr
  split
  · exact eP_s (eP_go (eP_w1 h hm) hm) (by omega)
  · exact eP_w1 h hm
theorem eP_ct {τ ρ : Rw} {p g : Nat} (hv : vTold τ) (hr : vRow τ ρ) (h : eP τ ρ) (hn : 0 < ρ 11) : eP τ (sCut τ ρ p g) := by
  have hs : ρ 109 < τ 2 := (vR_o1 hr 0 hn).2.2
  have v2 := hv.2.2.1
  have h11 : ρ 11 ≤ 8 := hr.2.2.2.2.2.2.1
  unfold sCut
  split
  · exact eP_E1 (eP_mo h (by omega)) (by rw [sMove_g (by omega) (by omega) (by omega)]; exact h11)
  · exact eP_E1 h h11
theorem eP_af {τ ρ : Rw} {p g : Nat} (h : eP τ ρ) (hn : ρ 10 ≤ 8) : eP τ (sAft τ ρ p g) := by
  unfold sAft
  split
  · exact eP_E0 h hn
  · exact eP_mv (eP_s h (by omega)) (by omega)
theorem eP_ly {τ ρ : Rw} {p g : Nat} (hv : vTold τ) (hr : vRow τ ρ) (h : eP τ ρ) (hn : 0 < ρ 10) (hp : p = ρ 51) (hg : g < τ (28 + p)) : eP τ (sLay τ ρ p g) := by
  have o := vR_o0 hr 0 hn
  have o0 : ρ 51 < τ 1 := o.1
  have o1 : ρ 52 < τ 0 := o.2.1
  have v0 := hv.1
  have v1 := hv.2.1
  have v2 := (hv.2.2.2.2.2.1 p (by omega)).2
  have h10 : ρ 10 ≤ 8 := hr.2.2.2.2.2.1
  have h60 := vR_la hr p (by omega)
  unfold sLay
  split
  · exact eP_E0 h h10
  · rename_i hz
    split
    · rename_i hL
      have hk : ρ (24 + p) < 60 := by omega
      obtain ⟨a, b, c⟩ := pour_new (g := g) hv hr hn hp hg hk
      have el : sNew ρ p (lo p (ρ (24 + p))) = ρ 52 := by rw [sNew_1, if_neg (by unfold lo; omega), if_neg (by unfold lo; omega), if_pos rfl]
      refine eP_af (eP_po (by unfold sNew; exact eP_s (eP_ad h (by omega) hk) (by omega)) (by rw [el]; omega) hk hg (by omega)) (by rw [(c _).1]; exact h10)
    · rename_i hL
      obtain ⟨a, b, c⟩ := pour_old (g := g) hv hr hn hp hL
      exact eP_af (eP_po h (by rw [b]; omega) (by omega) hg (by omega)) (by rw [(c _).1]; exact h10)
theorem eP_k {τ ρ : Rw} {m : Nat} (hv : vTold τ) (hr : vRow τ ρ) (h : eP τ ρ) (hm : m < 2) (hn : 0 < ρ (10 + m)) : eP τ (kSt τ ρ m) := by
  obtain ⟨a, b⟩ := pg_lt hr hm hn
  unfold kSt
  split
  · split
    · have : m = 0 ∨ m = 1 := by omega
      rcases this with rfl | rfl
      · rw [if_neg (by omega)]
        exact eP_ly hv hr h hn rfl b
      · rw [if_pos rfl]
        exact eP_ct hv hr h hn
    · exact eP_mv h hm
  · exact eP_tr h hm
theorem eP_min {τ ρ : Rw} (hv : vTold τ) (hr : vRow τ ρ) (h : eP τ ρ) : eP τ (sMin τ ρ) := by
  have h1 : eP τ (mR1 τ ρ) := by
    unfold mR1
    split
    · rename_i z; exact eP_k hv hr h (by omega) z
    · exact h
  have h0 : eP τ (mR0 τ ρ) := by
    unfold mR0
    split
    · rename_i z; exact eP_k hv (vRow_m1 hv hr) h1 (by omega) (by show 0 < mR1 τ ρ 10; rw [m1_10 hv hr]; exact z)
    · exact h1
  exact eP_s (eP_s (eP_s h0 (by omega)) (by omega)) (by omega)
theorem eP_mn {τ ρ : Rw} (hv : vTold τ) (hr : vRow τ ρ) (h : eP τ ρ) : ∀ k, eP τ (mnR τ ρ k) ∧ vRow τ (mnR τ ρ k) := by
  intro k
  induction k with
  | zero => exact ⟨h, hr⟩
  | succ k ih => exact ⟨eP_min hv ih.2 ih.1, vRow_min hv ih.2⟩
theorem eP_bg {τ : Rw} : eP τ (sBeg τ) := fun q k c _ _ _ _ => sBeg_0 (by unfold li; omega)
/-- it holds of what was done, and of the images -/
def eX (τ ρ : Rw) (n : Nat) (bk : Nat → Rw) (has : Nat → Bool) (im : Nat → Rw) : Prop := eP τ ρ ∧ (∀ i, i < n → eP τ (bk i)) ∧ ∀ k, k < 2 → has k = true → eP τ (im k)
theorem eX_d {τ ρ ρ' : Rw} {n : Nat} {bk : Nat → Rw} {has : Nat → Bool} {im : Nat → Rw} (hn : n ≤ 12) (h : eX τ ρ n bk has im) (h' : eP τ ρ') : eX τ ρ' (nPh n) (bkPh n bk ρ) has im := by
  obtain ⟨a, b, c⟩ := h
  refine ⟨h', fun i hi => ?_, c⟩
  unfold nPh at hi
  unfold bkPh
  split
  · rename_i z
    rw [if_pos z] at hi
    show eP τ (if i < 11 then bk (i + 1) else ρ)
    split
    · exact b _ (by omega)
    · exact a
  · rename_i z
    rw [if_neg z] at hi
    show eP τ (if i = n then ρ else bk i)
    split
    · exact a
    · exact b _ (by omega)
theorem eX_u {τ ρ : Rw} {n : Nat} {bk : Nat → Rw} {has : Nat → Bool} {im : Nat → Rw} (h : eX τ ρ n bk has im) (hn : 0 < n) : eX τ (bk (n - 1)) (n - 1) bk has im := ⟨h.2.1 _ (by omega), fun i hi => h.2.1 i (by omega), h.2.2⟩
theorem eX_l {τ ρ : Rw} {n k : Nat} {bk : Nat → Rw} {has : Nat → Bool} {im : Nat → Rw} (h : eX τ ρ n bk has im) : eX τ ρ n bk (hasS has k) (imS im k ρ) := ⟨h.1, h.2.1, fun j hj hh => by
  unfold imS
  unfold hasS at hh
  by_cases e : j = k
  · rw [if_pos e]; exact h.1
  · rw [if_neg e] at hh ⊢; exact h.2.2 j hj hh⟩
theorem eX_r {τ ρ : Rw} {n k : Nat} {bk : Nat → Rw} {has : Nat → Bool} {im : Nat → Rw} (h : eX τ ρ n bk has im) (hk : k < 2) (hh : has k = true) : eX τ (im k) 0 bk has im := ⟨h.2.2 k hk hh, fun i hi => absurd hi (Nat.not_lt_zero _), h.2.2⟩
theorem eX_t {τ : Rw} : eX τ (sBeg τ) 0 (fun _ => τ00) (fun _ => false) (fun _ => τ00) := ⟨eP_bg, fun i hi => absurd hi (Nat.not_lt_zero _), fun k _ q => absurd (show false = true from q) Bool.false_ne_true⟩
/-- a layer, told both ways -/
theorem layer_eq {τ ρ : Rw} {p k a : Nat} (hv : vTold τ) (h : eP τ ρ) (hp : p < τ 1) (hk : k < 60) : layerV τ ρ p k a = layerM ρ p k a := by
  have v2 := (hv.2.2.2.2.2.1 p hp).2
  have z : ∀ c, τ (28 + p) ≤ c → c < 12 → ρ (li p k c) = 0 := fun c h1 h2 => h p k c hp hk h1 h2
  unfold layerV layerM
  split
  · rfl
  · split
    · congr 1
      have : ∀ r, τ (28 + p) + r ≤ 12 → sm (τ (28 + p) + r) (fun c => ρ (li p k c)) = sm (τ (28 + p)) (fun c => ρ (li p k c)) := by
        intro r
        induction r with
        | zero => intro _; rfl
        | succ r ih => intro hr; rw [← Nat.add_assoc, sm_s, ih (by omega), z _ (by omega) (by omega), Nat.add_zero]
      have := this (12 - τ (28 + p)) (by omega)
      rw [show τ (28 + p) + (12 - τ (28 + p)) = 12 by omega] at this
      exact this.symm
    · have : ∀ r, τ (28 + p) + r ≤ 12 → lyB ρ p k (τ (28 + p) + r) = lyB ρ p k (τ (28 + p)) := by
        intro r
        induction r with
        | zero => intro _; rfl
        | succ r ih =>
          intro hr
          rw [← Nat.add_assoc]
          show lyB ρ p k (τ (28 + p) + r) ||| (if 0 < ρ (li p k (τ (28 + p) + r)) then (1 : Int32) <<< (Int32.ofNat (τ (28 + p) + r) &&& 31) else 0) = _
          rw [ih (by omega), z _ (by omega) (by omega), if_neg (Nat.lt_irrefl 0), Int32.or_zero]
      have := this (12 - τ (28 + p)) (by omega)
      rw [show τ (28 + p) + (12 - τ (28 + p)) = 12 by omega] at this
      exact this.symm
end
section
/-! class and model, call by call -/
def wOk (w w' : mT) : Prop := wExt w w' ∧ lit w' ∧ w'.2.2.2.length ≤ 295
def cmI (w : mT) (σ : mS) : Prop := ∃ tp t τ ρ n bk has im, cIn w σ tp t τ ρ n bk has im ∧ mIn w σ tp t τ ρ n bk has im ∧ eX τ ρ n bk has im
theorem wOk_of {w w' : mT} {σ : mS} {tp n : Nat} {t : Nat → Nat} {τ ρ : Rw} {bk : Nat → Rw} {has : Nat → Bool} {im : Nat → Rw} (hx : wExt w w') (hc : cIn w' σ tp t τ ρ n bk has im) : wOk w w' := ⟨hx, hc.1, by have := hc.2.1.2.2.2.1; omega⟩
theorem wOk_cm {w : mT} {σ : mS} (h : cmI w σ) : wOk w w := by
  obtain ⟨tp, t, τ, ρ, n, bk, has, im, hc, hm, hX⟩ := h
  exact wOk_of wE_rf hc
theorem cm_sz {w : mT} {σ : mS} (h : cmI w σ) : lit w ∧ w.2.2.2.length ≤ 295 ∧ mSz w.2.2.2 ≤ 200000 := by
  obtain ⟨tp, t, τ, ρ, n, bk, has, im, hc, hm, hX⟩ := h
  exact ⟨hc.1, by have := hc.2.1.2.2.2.1; omega, by have := hc.2.1.2.2.2.2; omega⟩
theorem finI {w w' : mT} {σ σ' σ'' : mS} {D k k' : Nat} {as as' : List Value} {v : Int32} {G : Int32 → Hp → Prop} {Kc : Int32 → Int32 → Hp → Prop} {tp n : Nat} {t : Nat → Nat} {τ ρ : Rw} {bk : Nat → Rw} {has : Nat → Bool} {im : Nat → Rw} (e1 : wpI D k as (mW w σ) G ↔ G v (mW w' σ')) (e2 : wpI D k' as' (mW w' σ') (Kc v) ↔ Kc v v (mW w' σ'')) (hx : wExt w w') (hc : cIn w' σ' tp t τ ρ n bk has im) (hm : mIn w' σ'' tp t τ ρ n bk has im) (f : frA σ' σ'') (hX : eX τ ρ n bk has im) (hG : ∀ v w' σ', wOk w w' → wpI D k' as' (mW w' σ') (Kc v) → G v (mW w' σ')) (hK : ∀ v w' σ', wOk w w' → cmI w' σ' → Kc v v (mW w' σ')) : wpI D k as (mW w σ) G :=
  e1.mpr (hG v w' σ' (wOk_of hx hc) (e2.mpr (hK v w' σ'' (wOk_of hx hc) ⟨tp, t, τ, ρ, n, bk, has, im, cIn_A hc f, hm, hX⟩)))
theorem finL {w w' : mT} {σ σ' σ'' : mS} {D k k' : Nat} {as as' : List Value} {v : Int64} {G : Int64 → Hp → Prop} {Kc : Int64 → Int64 → Hp → Prop} {tp n : Nat} {t : Nat → Nat} {τ ρ : Rw} {bk : Nat → Rw} {has : Nat → Bool} {im : Nat → Rw} (e1 : wpL D k as (mW w σ) G ↔ G v (mW w' σ')) (e2 : wpL D k' as' (mW w' σ') (Kc v) ↔ Kc v v (mW w' σ'')) (hx : wExt w w') (hc : cIn w' σ' tp t τ ρ n bk has im) (hm : mIn w' σ'' tp t τ ρ n bk has im) (f : frA σ' σ'') (hX : eX τ ρ n bk has im) (hG : ∀ v w' σ', wOk w w' → wpL D k' as' (mW w' σ') (Kc v) → G v (mW w' σ')) (hK : ∀ v w' σ', wOk w w' → cmI w' σ' → Kc v v (mW w' σ')) : wpL D k as (mW w σ) G :=
  e1.mpr (hG v w' σ' (wOk_of hx hc) (e2.mpr (hK v w' σ'' (wOk_of hx hc) ⟨tp, t, τ, ρ, n, bk, has, im, cIn_A hc f, hm, hX⟩)))
theorem pr_76 {w : mT} {σ : mS} {a b c e f : Int32} {D : Nat} {G : Int32 → Hp → Prop} {Kc : Int32 → Int32 → Hp → Prop} (h : cmI w σ) (hD : 12 ≤ D) (hG : ∀ v w' σ', wOk w w' → wpI D 130 [.ref 81, .int a, .int b, .int c, .int e, .int f] (mW w' σ') (Kc v) → G v (mW w' σ')) (hK : ∀ v w' σ', wOk w w' → cmI w' σ' → Kc v v (mW w' σ')) : wpI D 76 [.ref 0, .int a, .int b, .int c, .int e, .int f] (mW w σ) G := by
  obtain ⟨tp, t, τ, ρ, n, bk, has, im, hc, hm, hX⟩ := h
  have hc' := hc
  obtain ⟨hw, hS, hH, ⟨P, hP, hp3, hp4, hτ⟩, hρ, hv, hr, h1, htp, htb, htl⟩ := hc'
  have v0 := hv.1
  have v1 := hv.2.1
  have v2 := hv.2.2.1
  obtain ⟨σ1, f1, c1, e1⟩ := c_76 (a := a) (b := b) (c := c) (e := e) (f := f) hc
  obtain ⟨σ2, f2, m2, e2⟩ := m_130 (a := a) (b := b) (c := c) (e := e) (f := f) (mIn_M hm hc.1 f1)
  exact finI (e1 (by omega)) (e2 (by omega)) wE_rf c1 m2 f2 hX hG hK
theorem pr_77 {w : mT} {σ : mS} {a : Int32} {D : Nat} {G : Int32 → Hp → Prop} {Kc : Int32 → Int32 → Hp → Prop} (h : cmI w σ) (hD : 12 ≤ D) (hG : ∀ v w' σ', wOk w w' → wpI D 148 [.ref 81, .int a] (mW w' σ') (Kc v) → G v (mW w' σ')) (hK : ∀ v w' σ', wOk w w' → cmI w' σ' → Kc v v (mW w' σ')) : wpI D 77 [.ref 0, .int a] (mW w σ) G := by
  obtain ⟨tp, t, τ, ρ, n, bk, has, im, hc, hm, hX⟩ := h
  have hc' := hc
  obtain ⟨hw, hS, hH, ⟨P, hP, hp3, hp4, hτ⟩, hρ, hv, hr, h1, htp, htb, htl⟩ := hc'
  have v0 := hv.1
  have v1 := hv.2.1
  have v2 := hv.2.2.1
  by_cases z : 0 ≤ a.toInt ∧ a.toInt ≤ (tp : Nat)
  · obtain ⟨m, rfl, hm1⟩ := ex_on (a := a) (n := tp + 1) ⟨z.1, by omega⟩
    obtain ⟨σ1, f1, c1, e1⟩ := c_77 hc (show m ≤ tp by omega)
    obtain ⟨σ2, f2, m2, e2⟩ := m_148 (mIn_M hm hc.1 f1) (show m ≤ tp by omega)
    have e1' := e1 (D := D) (K := G) (by omega)
    have e2' := fun v => e2 (D := D) (K := Kc v) (by omega)
    by_cases q : (rAll t m).1 = 0
    · rw [if_pos q] at c1 m2 e1'
      simp only [if_pos q] at e2'
      exact finI e1' (e2' _) wE_rf c1 m2 f2 eX_t hG hK
    · rw [if_neg q] at c1 m2 e1'
      simp only [if_neg q] at e2'
      exact finI e1' (e2' _) wE_rf c1 m2 f2 hX hG hK
  · exact finI (c_77z hc.1 h1 htp z (by omega)) (m_148z hm.1 hm.2.2.2.2.2.1 htp z (by omega)) wE_rf hc (mIn_Z hm (frZ_0 (by omega))) (frA_I (by omega)) hX hG hK
theorem pr_78 {w : mT} {σ : mS} {a : Int32} {D : Nat} {G : Int32 → Hp → Prop} {Kc : Int32 → Int32 → Hp → Prop} (h : cmI w σ) (hD : 12 ≤ D) (hG : ∀ v w' σ', wOk w w' → wpI D 161 [.ref 81, .int a] (mW w' σ') (Kc v) → G v (mW w' σ')) (hK : ∀ v w' σ', wOk w w' → cmI w' σ' → Kc v v (mW w' σ')) : wpI D 78 [.ref 0, .int a] (mW w σ) G := by
  obtain ⟨tp, t, τ, ρ, n, bk, has, im, hc, hm, hX⟩ := h
  have hc' := hc
  obtain ⟨hw, hS, hH, ⟨P, hP, hp3, hp4, hτ⟩, hρ, hv, hr, h1, htp, htb, htl⟩ := hc'
  have v0 := hv.1
  have v1 := hv.2.1
  have v2 := hv.2.2.1
  exact finI (c_78 hc (by omega)) (m_161 hm (by omega)) wE_rf hc (mIn_Z hm (frZ_0 (by omega))) (frA_I (by omega)) hX hG hK
theorem pr_81 {w : mT} {σ : mS} {p a : Int32} {D : Nat} {G : Int32 → Hp → Prop} {Kc : Int32 → Int32 → Hp → Prop} (h : cmI w σ) (hD : 12 ≤ D) (hG : ∀ v w' σ', wOk w w' → wpI D 164 [.ref 81, .int p, .int a] (mW w' σ') (Kc v) → G v (mW w' σ')) (hK : ∀ v w' σ', wOk w w' → cmI w' σ' → Kc v v (mW w' σ')) : wpI D 81 [.ref 0, .int p, .int a] (mW w σ) G := by
  obtain ⟨tp, t, τ, ρ, n, bk, has, im, hc, hm, hX⟩ := h
  have hc' := hc
  obtain ⟨hw, hS, hH, ⟨P, hP, hp3, hp4, hτ⟩, hρ, hv, hr, h1, htp, htb, htl⟩ := hc'
  have v0 := hv.1
  have v1 := hv.2.1
  have v2 := hv.2.2.1
  by_cases z : bN p (τ 1) = 1 ∧ 0 ≤ a.toInt ∧ a.toInt ≤ 2
  · obtain ⟨p, rfl, hp⟩ := bN_ex z.1
    obtain ⟨a, rfl, ha⟩ := ex_on (a := a) (n := 3) ⟨z.2.1, by omega⟩
    obtain ⟨σ2, f2, m2, e2⟩ := m_164 (a := a) hm hp (by omega)
    exact finI (c_81 (a := a) hc hp (by omega) (by omega)) (e2 (by omega)) wE_rf hc m2 f2 hX hG hK
  · exact finI (c_81z hc z (by omega)) (m_164z hm z (by omega)) wE_rf hc (mIn_Z hm (frZ_0 (by omega))) (frA_I (by omega)) hX hG hK
theorem pr_82 {w : mT} {σ : mS} {p k a : Int32} {D : Nat} {G : Int32 → Hp → Prop} {Kc : Int32 → Int32 → Hp → Prop} (h : cmI w σ) (hD : 12 ≤ D) (hG : ∀ v w' σ', wOk w w' → wpI D 166 [.ref 81, .int p, .int k, .int a] (mW w' σ') (Kc v) → G v (mW w' σ')) (hK : ∀ v w' σ', wOk w w' → cmI w' σ' → Kc v v (mW w' σ')) : wpI D 82 [.ref 0, .int p, .int k, .int a] (mW w σ) G := by
  obtain ⟨tp, t, τ, ρ, n, bk, has, im, hc, hm, hX⟩ := h
  have hc' := hc
  obtain ⟨hw, hS, hH, ⟨P, hP, hp3, hp4, hτ⟩, hρ, hv, hr, h1, htp, htb, htl⟩ := hc'
  have v0 := hv.1
  have v1 := hv.2.1
  have v2 := hv.2.2.1
  by_cases z : laP τ ρ p k ∧ 0 ≤ a.toInt ∧ a.toInt ≤ 2
  · obtain ⟨⟨zp, zk⟩, za⟩ := z
    obtain ⟨p, rfl, hp⟩ := bN_ex zp
    rw [on_nat (by omega : p < 2147483648)] at zk
    obtain ⟨k, rfl, hk⟩ := ex_on (a := k) (n := ρ (24 + p)) zk
    obtain ⟨a, rfl, ha⟩ := ex_on (a := a) (n := 3) ⟨za.1, by omega⟩
    have h60 := vR_la hr p (by omega)
    have e2 := m_166 (a := a) (D := D) (K := Kc (layerM ρ p k a)) hm hp hk (by omega) (by omega)
    have e1 := c_82 (a := a) (D := D) (K := G) hc hp hk (by omega) (by omega)
    rw [layer_eq hv hX.1 hp (by omega)] at e1
    exact finI e1 e2 wE_rf hc (mIn_Z hm (frZ_0 (by omega))) (frA_I (by omega)) hX hG hK
  · exact finI (c_82z hc z (by omega)) (m_166z hm z (by omega)) wE_rf hc (mIn_Z hm (frZ_0 (by omega))) (frA_I (by omega)) hX hG hK
theorem pr_83 {w : mT} {σ : mS} {p k c : Int32} {D : Nat} {G : Int32 → Hp → Prop} {Kc : Int32 → Int32 → Hp → Prop} (h : cmI w σ) (hD : 12 ≤ D) (hG : ∀ v w' σ', wOk w w' → wpI D 167 [.ref 81, .int p, .int k, .int c] (mW w' σ') (Kc v) → G v (mW w' σ')) (hK : ∀ v w' σ', wOk w w' → cmI w' σ' → Kc v v (mW w' σ')) : wpI D 83 [.ref 0, .int p, .int k, .int c] (mW w σ) G := by
  obtain ⟨tp, t, τ, ρ, n, bk, has, im, hc, hm, hX⟩ := h
  have hc' := hc
  obtain ⟨hw, hS, hH, ⟨P, hP, hp3, hp4, hτ⟩, hρ, hv, hr, h1, htp, htb, htl⟩ := hc'
  have v0 := hv.1
  have v1 := hv.2.1
  have v2 := hv.2.2.1
  by_cases z : laP τ ρ p k ∧ bC τ p c = 1
  · obtain ⟨⟨zp, zk⟩, za⟩ := z
    obtain ⟨p, c, rfl, rfl, hp, hcc⟩ := bC_ex hv za
    rw [on_nat (by omega : p < 2147483648)] at zk
    obtain ⟨k, rfl, hk⟩ := ex_on (a := k) (n := ρ (24 + p)) zk
    exact finI (c_83 hc hp hk hcc (by omega)) (m_167 hm hp hk hcc (by omega)) wE_rf hc (mIn_Z hm (frZ_0 (by omega))) (frA_I (by omega)) hX hG hK
  · exact finI (c_83z hc z (by omega)) (m_167z hm z (by omega)) wE_rf hc (mIn_Z hm (frZ_0 (by omega))) (frA_I (by omega)) hX hG hK
theorem pr_84 {w : mT} {σ : mS} {a : Int32} {D : Nat} {G : Int32 → Hp → Prop} {Kc : Int32 → Int32 → Hp → Prop} (h : cmI w σ) (hD : 12 ≤ D) (hG : ∀ v w' σ', wOk w w' → wpI D 168 [.ref 81, .int a] (mW w' σ') (Kc v) → G v (mW w' σ')) (hK : ∀ v w' σ', wOk w w' → cmI w' σ' → Kc v v (mW w' σ')) : wpI D 84 [.ref 0, .int a] (mW w σ) G := by
  obtain ⟨tp, t, τ, ρ, n, bk, has, im, hc, hm, hX⟩ := h
  have hc' := hc
  obtain ⟨hw, hS, hH, ⟨P, hP, hp3, hp4, hτ⟩, hρ, hv, hr, h1, htp, htb, htl⟩ := hc'
  have v0 := hv.1
  have v1 := hv.2.1
  have v2 := hv.2.2.1
  by_cases z : bN a 2 = 1
  · obtain ⟨m, rfl, hm2⟩ := bN_ex z
    exact finI (c_84 hc hm2 (by omega)) (m_168 hm hm2 (by omega)) wE_rf hc (mIn_Z hm (frZ_0 (by omega))) (frA_I (by omega)) hX hG hK
  · exact finI (c_84z z (by omega)) (m_168z hm z (by omega)) wE_rf hc (mIn_Z hm (frZ_0 (by omega))) (frA_I (by omega)) hX hG hK
theorem pr_85 {w : mT} {σ : mS} {D : Nat} {G : Int32 → Hp → Prop} {Kc : Int32 → Int32 → Hp → Prop} (h : cmI w σ) (hD : 12 ≤ D) (hG : ∀ v w' σ', wOk w w' → wpI D 169 [.ref 81] (mW w' σ') (Kc v) → G v (mW w' σ')) (hK : ∀ v w' σ', wOk w w' → cmI w' σ' → Kc v v (mW w' σ')) : wpI D 85 [.ref 0] (mW w σ) G := by
  obtain ⟨tp, t, τ, ρ, n, bk, has, im, hc, hm, hX⟩ := h
  have hc' := hc
  obtain ⟨hw, hS, hH, ⟨P, hP, hp3, hp4, hτ⟩, hρ, hv, hr, h1, htp, htb, htl⟩ := hc'
  have v0 := hv.1
  have v1 := hv.2.1
  have v2 := hv.2.2.1
  exact finI (c_85 hc (by omega)) (m_169 hm (by omega)) wE_rf hc (mIn_Z hm (frZ_0 (by omega))) (frA_I (by omega)) hX hG hK
theorem pr_86 {w : mT} {σ : mS} {p l a b c : Int32} {D : Nat} {G : Int32 → Hp → Prop} {Kc : Int32 → Int32 → Hp → Prop} (h : cmI w σ) (hD : 12 ≤ D) (hG : ∀ v w' σ', wOk w w' → wpI D 180 [.ref 81, .int p, .int l, .int a, .int b, .int c] (mW w' σ') (Kc v) → G v (mW w' σ')) (hK : ∀ v w' σ', wOk w w' → cmI w' σ' → Kc v v (mW w' σ')) : wpI D 86 [.ref 0, .int p, .int l, .int a, .int b, .int c] (mW w σ) G := by
  obtain ⟨tp, t, τ, ρ, n, bk, has, im, hc, hm, hX⟩ := h
  have hc' := hc
  obtain ⟨hw, hS, hH, ⟨P, hP, hp3, hp4, hτ⟩, hρ, hv, hr, h1, htp, htb, htl⟩ := hc'
  have v0 := hv.1
  have v1 := hv.2.1
  have v2 := hv.2.2.1
  by_cases z : cbP τ p l a b c
  · obtain ⟨p, l, a, b, c, rfl, rfl, rfl, rfl, rfl, y1, y2, y3, y4, y5, y6⟩ := cbP_ex hv z
    exact finI (g_86 hw hP hp3 hτ hv hρ hr y1 y2 y3 y4 ⟨y5, y6⟩ (by omega)) (m_180 hm y1 y2 y3 y4 ⟨y5, y6⟩ (by omega)) wE_rf hc (mIn_Z hm (frZ_0 (by omega))) (frA_I (by omega)) hX hG hK
  · exact finI (g_86z hw hP hp3 hτ hv z (by omega)) (m_180z hm z (by omega)) wE_rf hc (mIn_Z hm (frZ_0 (by omega))) (frA_I (by omega)) hX hG hK
theorem pr_87 {w : mT} {σ : mS} {p l a b c : Int32} {D : Nat} {G : Int32 → Hp → Prop} {Kc : Int32 → Int32 → Hp → Prop} (h : cmI w σ) (hD : 12 ≤ D) (hG : ∀ v w' σ', wOk w w' → wpI D 183 [.ref 81, .int p, .int l, .int a, .int b, .int c] (mW w' σ') (Kc v) → G v (mW w' σ')) (hK : ∀ v w' σ', wOk w w' → cmI w' σ' → Kc v v (mW w' σ')) : wpI D 87 [.ref 0, .int p, .int l, .int a, .int b, .int c] (mW w σ) G := by
  obtain ⟨tp, t, τ, ρ, n, bk, has, im, hc, hm, hX⟩ := h
  have hc' := hc
  obtain ⟨hw, hS, hH, ⟨P, hP, hp3, hp4, hτ⟩, hρ, hv, hr, h1, htp, htb, htl⟩ := hc'
  have v0 := hv.1
  have v1 := hv.2.1
  have v2 := hv.2.2.1
  by_cases z : cbP τ p l a b c
  · obtain ⟨p, l, a, b, c, rfl, rfl, rfl, rfl, rfl, y1, y2, y3, y4, y5, y6⟩ := cbP_ex hv z
    by_cases y : wlN τ ρ p l a b c = 0
    · obtain ⟨w1, σ1, x1, f1, c1, e1⟩ := c_87 hc y1 y2 y3 y4 ⟨y5, y6⟩ y
      obtain ⟨σ2, f2, m2, e2⟩ := m_183 (mIn_M hm c1.1 f1) y1 y2 y3 y4 ⟨y5, y6⟩ y
      have hk : ρ (24 + p) < 60 := by
        unfold wlN at y
        split at y
        · omega
        · split at y
          · omega
          · split at y <;> omega
      exact finI (e1 (by omega)) (e2 (by omega)) x1 c1 m2 f2 (eX_d hm.2.2.2.2.2.2.2.2.2.2.1 hX (eP_lay hv hX.1 y1 y2 y3 y4 hk)) hG hK
    · exact finI (c_87n hc y1 y2 y3 y4 ⟨y5, y6⟩ y (by omega)) (m_183n hm y1 y2 y3 y4 ⟨y5, y6⟩ y (by omega)) wE_rf hc (mIn_Z hm (frZ_0 (by omega))) (frA_I (by omega)) hX hG hK
  · exact finI (c_87z hc z (by omega)) (m_183z hm z (by omega)) wE_rf hc (mIn_Z hm (frZ_0 (by omega))) (frA_I (by omega)) hX hG hK
theorem pr_88 {w : mT} {σ : mS} {p c s : Int32} {D : Nat} {G : Int32 → Hp → Prop} {Kc : Int32 → Int32 → Hp → Prop} (h : cmI w σ) (hD : 12 ≤ D) (hG : ∀ v w' σ', wOk w w' → wpI D 186 [.ref 81, .int p, .int c, .int s] (mW w' σ') (Kc v) → G v (mW w' σ')) (hK : ∀ v w' σ', wOk w w' → cmI w' σ' → Kc v v (mW w' σ')) : wpI D 88 [.ref 0, .int p, .int c, .int s] (mW w σ) G := by
  obtain ⟨tp, t, τ, ρ, n, bk, has, im, hc, hm, hX⟩ := h
  have hc' := hc
  obtain ⟨hw, hS, hH, ⟨P, hP, hp3, hp4, hτ⟩, hρ, hv, hr, h1, htp, htb, htl⟩ := hc'
  have v0 := hv.1
  have v1 := hv.2.1
  have v2 := hv.2.2.1
  by_cases z : bC τ p c = 1 ∧ bN s (τ 2) = 1
  · obtain ⟨p, c, rfl, rfl, hp, hcc⟩ := bC_ex hv z.1
    obtain ⟨s, rfl, hs⟩ := bN_ex z.2
    obtain ⟨σ2, f2, m2, e2⟩ := m_186 hm hp hcc hs
    exact finI (g_88 hw hP hp3 hτ hv hρ hr hp hcc hs (by omega)) (e2 (by omega)) wE_rf hc m2 f2 hX hG hK
  · exact finI (g_88z hw hP hp3 hτ hv z (by omega)) (m_186z hm z (by omega)) wE_rf hc (mIn_Z hm (frZ_0 (by omega))) (frA_I (by omega)) hX hG hK
theorem pr_89 {w : mT} {σ : mS} {p c s : Int32} {D : Nat} {G : Int32 → Hp → Prop} {Kc : Int32 → Int32 → Hp → Prop} (h : cmI w σ) (hD : 12 ≤ D) (hG : ∀ v w' σ', wOk w w' → wpI D 188 [.ref 81, .int p, .int c, .int s] (mW w' σ') (Kc v) → G v (mW w' σ')) (hK : ∀ v w' σ', wOk w w' → cmI w' σ' → Kc v v (mW w' σ')) : wpI D 89 [.ref 0, .int p, .int c, .int s] (mW w σ) G := by
  obtain ⟨tp, t, τ, ρ, n, bk, has, im, hc, hm, hX⟩ := h
  have hc' := hc
  obtain ⟨hw, hS, hH, ⟨P, hP, hp3, hp4, hτ⟩, hρ, hv, hr, h1, htp, htb, htl⟩ := hc'
  have v0 := hv.1
  have v1 := hv.2.1
  have v2 := hv.2.2.1
  by_cases z : bC τ p c = 1 ∧ bN s (τ 2) = 1
  · obtain ⟨p, c, rfl, rfl, hp, hcc⟩ := bC_ex hv z.1
    obtain ⟨s, rfl, hs⟩ := bN_ex z.2
    by_cases y : wcN τ ρ p c s = 0
    · obtain ⟨w1, σ1, x1, f1, c1, e1⟩ := c_89 hc hp hcc hs y
      obtain ⟨σ2, f2, m2, e2⟩ := m_188 (mIn_M hm c1.1 f1) hp hcc hs y
      exact finI (e1 (by omega)) (e2 (by omega)) x1 c1 m2 f2 (eX_d hm.2.2.2.2.2.2.2.2.2.2.1 hX (eP_cut hX.1 (by omega))) hG hK
    · obtain ⟨σ2, f2, m2, e2⟩ := m_188n hm hp hcc hs y
      exact finI (c_89n hc hp hcc hs y (by omega)) (e2 (by omega)) wE_rf hc m2 f2 hX hG hK
  · exact finI (c_89z hc z (by omega)) (m_188z hm z (by omega)) wE_rf hc (mIn_Z hm (frZ_0 (by omega))) (frA_I (by omega)) hX hG hK
theorem pr_90 {w : mT} {σ : mS} {a : Int32} {D : Nat} {G : Int32 → Hp → Prop} {Kc : Int32 → Int32 → Hp → Prop} (h : cmI w σ) (hD : 12 ≤ D) (hG : ∀ v w' σ', wOk w w' → wpI D 189 [.ref 81, .int a] (mW w' σ') (Kc v) → G v (mW w' σ')) (hK : ∀ v w' σ', wOk w w' → cmI w' σ' → Kc v v (mW w' σ')) : wpI D 90 [.ref 0, .int a] (mW w σ) G := by
  obtain ⟨tp, t, τ, ρ, n, bk, has, im, hc, hm, hX⟩ := h
  have hc' := hc
  obtain ⟨hw, hS, hH, ⟨P, hP, hp3, hp4, hτ⟩, hρ, hv, hr, h1, htp, htb, htl⟩ := hc'
  have v0 := hv.1
  have v1 := hv.2.1
  have v2 := hv.2.2.1
  by_cases z : bN a 2 = 1 ∧ ρ (2 + a.toNatClampNeg) ≠ 0
  · obtain ⟨m, rfl, hm2⟩ := bN_ex z.1
    have y := z.2
    rw [on_nat (by omega : m < 2147483648)] at y
    obtain ⟨w1, σ1, x1, f1, c1, e1⟩ := c_90 hc hm2 y
    obtain ⟨σ2, f2, m2, e2⟩ := m_189 (mIn_M hm c1.1 f1) hm2 y
    exact finI (e1 (by omega)) (e2 (by omega)) x1 c1 m2 f2 (eX_d hm.2.2.2.2.2.2.2.2.2.2.1 hX (eP_s (eP_s hX.1 (by omega)) (by omega))) hG hK
  · exact finI (c_90z hc z (by omega)) (m_189z hm z (by omega)) wE_rf hc (mIn_Z hm (frZ_0 (by omega))) (frA_I (by omega)) hX hG hK
theorem pr_91 {w : mT} {σ : mS} {a : Int32} {D : Nat} {G : Int32 → Hp → Prop} {Kc : Int32 → Int32 → Hp → Prop} (h : cmI w σ) (hD : 12 ≤ D) (hG : ∀ v w' σ', wOk w w' → wpI D 191 [.ref 81, .int a] (mW w' σ') (Kc v) → G v (mW w' σ')) (hK : ∀ v w' σ', wOk w w' → cmI w' σ' → Kc v v (mW w' σ')) : wpI D 91 [.ref 0, .int a] (mW w σ) G := by
  obtain ⟨tp, t, τ, ρ, n, bk, has, im, hc, hm, hX⟩ := h
  have hc' := hc
  obtain ⟨hw, hS, hH, ⟨P, hP, hp3, hp4, hτ⟩, hρ, hv, hr, h1, htp, htb, htl⟩ := hc'
  have v0 := hv.1
  have v1 := hv.2.1
  have v2 := hv.2.2.1
  by_cases z : bN a (τ 2) = 1 ∧ saP τ ρ a.toNatClampNeg
  · obtain ⟨s, rfl, hs⟩ := bN_ex z.1
    have y := z.2
    rw [on_nat (by omega : s < 2147483648)] at y
    obtain ⟨w1, σ1, x1, f1, c1, e1⟩ := c_91 hc hs y
    obtain ⟨σ2, f2, m2, e2⟩ := m_191 (mIn_M hm c1.1 f1) hs y
    exact finI (e1 (by omega)) (e2 (by omega)) x1 c1 m2 f2 (eX_d hm.2.2.2.2.2.2.2.2.2.2.1 hX (eP_s hX.1 (by omega))) hG hK
  · exact finI (c_91z hc z (by omega)) (m_191z hm z (by omega)) wE_rf hc (mIn_Z hm (frZ_0 (by omega))) (frA_I (by omega)) hX hG hK
theorem pr_92 {w : mT} {σ : mS} {a : Int32} {D : Nat} {G : Int32 → Hp → Prop} {Kc : Int32 → Int32 → Hp → Prop} (h : cmI w σ) (hD : 12 ≤ D) (hG : ∀ v w' σ', wOk w w' → wpI D 192 [.ref 81, .int a] (mW w' σ') (Kc v) → G v (mW w' σ')) (hK : ∀ v w' σ', wOk w w' → cmI w' σ' → Kc v v (mW w' σ')) : wpI D 92 [.ref 0, .int a] (mW w σ) G := by
  obtain ⟨tp, t, τ, ρ, n, bk, has, im, hc, hm, hX⟩ := h
  have hc' := hc
  obtain ⟨hw, hS, hH, ⟨P, hP, hp3, hp4, hτ⟩, hρ, hv, hr, h1, htp, htb, htl⟩ := hc'
  have v0 := hv.1
  have v1 := hv.2.1
  have v2 := hv.2.2.1
  by_cases z : 1 ≤ a.toInt ∧ a.toInt ≤ 99 ∧ (ρ 0 : Int) + a.toInt ≤ 999
  · obtain ⟨k, rfl, hk⟩ := ex_on (a := a) (n := 100) ⟨by omega, by omega⟩
    rw [on_int (by omega : k < 2147483648)] at z
    have y1 : 1 ≤ k ∧ k ≤ 99 := by omega
    have y2 : ρ 0 + k ≤ 999 := by omega
    obtain ⟨w1, σ1, x1, f1, c1, e1⟩ := c_92 hc y1 y2
    obtain ⟨σ2, f2, m2, e2⟩ := m_192 (mIn_M hm c1.1 f1) y1 y2
    exact finI (e1 (by omega)) (e2 (by omega)) x1 c1 m2 f2 (eX_d hm.2.2.2.2.2.2.2.2.2.2.1 hX (eP_s hX.1 (by omega))) hG hK
  · exact finI (c_92z hc z (by omega)) (m_192z hm z (by omega)) wE_rf hc (mIn_Z hm (frZ_0 (by omega))) (frA_I (by omega)) hX hG hK
theorem pr_93 {w : mT} {σ : mS} {p l a b c : Int32} {D : Nat} {G : Int32 → Hp → Prop} {Kc : Int32 → Int32 → Hp → Prop} (h : cmI w σ) (hD : 12 ≤ D) (hG : ∀ v w' σ', wOk w w' → wpI D 193 [.ref 81, .int p, .int l, .int a, .int b, .int c] (mW w' σ') (Kc v) → G v (mW w' σ')) (hK : ∀ v w' σ', wOk w w' → cmI w' σ' → Kc v v (mW w' σ')) : wpI D 93 [.ref 0, .int p, .int l, .int a, .int b, .int c] (mW w σ) G := by
  obtain ⟨tp, t, τ, ρ, n, bk, has, im, hc, hm, hX⟩ := h
  have hc' := hc
  obtain ⟨hw, hS, hH, ⟨P, hP, hp3, hp4, hτ⟩, hρ, hv, hr, h1, htp, htb, htl⟩ := hc'
  have v0 := hv.1
  have v1 := hv.2.1
  have v2 := hv.2.2.1
  by_cases z : cbP τ p l a b c ∧ ρ 10 < 8
  · obtain ⟨z, y⟩ := z
    obtain ⟨p, l, a, b, c, rfl, rfl, rfl, rfl, rfl, y1, y2, y3, y4, y5, y6⟩ := cbP_ex hv z
    obtain ⟨w1, σ1, x1, f1, c1, e1⟩ := c_93 hc y1 y2 y3 y4 ⟨y5, y6⟩ y
    obtain ⟨σ2, f2, m2, e2⟩ := m_193 (mIn_M hm c1.1 f1) y1 y2 y3 y4 ⟨y5, y6⟩ y
    exact finI (e1 (by omega)) (e2 (by omega)) x1 c1 m2 f2 (eX_d hm.2.2.2.2.2.2.2.2.2.2.1 hX (eP_o0 hX.1 y)) hG hK
  · exact finI (c_93z hc z (by omega)) (m_193z hm z (by omega)) wE_rf hc (mIn_Z hm (frZ_0 (by omega))) (frA_I (by omega)) hX hG hK
theorem pr_94 {w : mT} {σ : mS} {p c s : Int32} {D : Nat} {G : Int32 → Hp → Prop} {Kc : Int32 → Int32 → Hp → Prop} (h : cmI w σ) (hD : 12 ≤ D) (hG : ∀ v w' σ', wOk w w' → wpI D 194 [.ref 81, .int p, .int c, .int s] (mW w' σ') (Kc v) → G v (mW w' σ')) (hK : ∀ v w' σ', wOk w w' → cmI w' σ' → Kc v v (mW w' σ')) : wpI D 94 [.ref 0, .int p, .int c, .int s] (mW w σ) G := by
  obtain ⟨tp, t, τ, ρ, n, bk, has, im, hc, hm, hX⟩ := h
  have hc' := hc
  obtain ⟨hw, hS, hH, ⟨P, hP, hp3, hp4, hτ⟩, hρ, hv, hr, h1, htp, htb, htl⟩ := hc'
  have v0 := hv.1
  have v1 := hv.2.1
  have v2 := hv.2.2.1
  by_cases z : bC τ p c = 1 ∧ bN s (τ 2) = 1 ∧ ρ 11 < 8
  · obtain ⟨za, zb, y⟩ := z
    obtain ⟨p, c, rfl, rfl, hp, hcc⟩ := bC_ex hv za
    obtain ⟨s, rfl, hs⟩ := bN_ex zb
    obtain ⟨w1, σ1, x1, f1, c1, e1⟩ := c_94 hc hp hcc hs y
    obtain ⟨σ2, f2, m2, e2⟩ := m_194 (mIn_M hm c1.1 f1) hp hcc hs y
    exact finI (e1 (by omega)) (e2 (by omega)) x1 c1 m2 f2 (eX_d hm.2.2.2.2.2.2.2.2.2.2.1 hX (eP_o1 hX.1 y)) hG hK
  · exact finI (c_94z hc z (by omega)) (m_194z hm z (by omega)) wE_rf hc (mIn_Z hm (frZ_0 (by omega))) (frA_I (by omega)) hX hG hK
theorem pr_95 {w : mT} {σ : mS} {a : Int32} {D : Nat} {G : Int32 → Hp → Prop} {Kc : Int32 → Int32 → Hp → Prop} (h : cmI w σ) (hD : 12 ≤ D) (hG : ∀ v w' σ', wOk w w' → wpI D 195 [.ref 81, .int a] (mW w' σ') (Kc v) → G v (mW w' σ')) (hK : ∀ v w' σ', wOk w w' → cmI w' σ' → Kc v v (mW w' σ')) : wpI D 95 [.ref 0, .int a] (mW w σ) G := by
  obtain ⟨tp, t, τ, ρ, n, bk, has, im, hc, hm, hX⟩ := h
  have hc' := hc
  obtain ⟨hw, hS, hH, ⟨P, hP, hp3, hp4, hτ⟩, hρ, hv, hr, h1, htp, htb, htl⟩ := hc'
  have v0 := hv.1
  have v1 := hv.2.1
  have v2 := hv.2.2.1
  by_cases z : bN a 2 = 1 ∧ ρ (10 + a.toNatClampNeg) ≠ 0
  · obtain ⟨m, rfl, hm2⟩ := bN_ex z.1
    have y := z.2
    rw [on_nat (by omega : m < 2147483648)] at y
    obtain ⟨w1, σ1, x1, f1, c1, e1⟩ := c_95 hc hm2 y
    obtain ⟨σ2, f2, m2, e2⟩ := m_195 (mIn_M hm c1.1 f1) hm2 y
    exact finI (e1 (by omega)) (e2 (by omega)) x1 c1 m2 f2 (eX_d hm.2.2.2.2.2.2.2.2.2.2.1 hX (eP_s (eP_s hX.1 (by omega)) (by omega))) hG hK
  · exact finI (c_95z hc z (by omega)) (m_195z hm z (by omega)) wE_rf hc (mIn_Z hm (frZ_0 (by omega))) (frA_I (by omega)) hX hG hK
theorem pr_96 {w : mT} {σ : mS} {a : Int32} {D : Nat} {G : Int32 → Hp → Prop} {Kc : Int32 → Int32 → Hp → Prop} (h : cmI w σ) (hD : 12 ≤ D) (hG : ∀ v w' σ', wOk w w' → wpI D 203 [.ref 81, .int a] (mW w' σ') (Kc v) → G v (mW w' σ')) (hK : ∀ v w' σ', wOk w w' → cmI w' σ' → Kc v v (mW w' σ')) : wpI D 96 [.ref 0, .int a] (mW w σ) G := by
  obtain ⟨tp, t, τ, ρ, n, bk, has, im, hc, hm, hX⟩ := h
  have hc' := hc
  obtain ⟨hw, hS, hH, ⟨P, hP, hp3, hp4, hτ⟩, hρ, hv, hr, h1, htp, htb, htl⟩ := hc'
  have v0 := hv.1
  have v1 := hv.2.1
  have v2 := hv.2.2.1
  by_cases z : 1 ≤ a.toInt ∧ a.toInt ≤ 200
  · obtain ⟨k, rfl, hk⟩ := ex_on (a := a) (n := 201) ⟨by omega, by omega⟩
    rw [on_int (by omega : k < 2147483648)] at z
    have y1 : 1 ≤ k ∧ k ≤ 200 := by omega
    obtain ⟨w1, σ1, x1, f1, c1, e1⟩ := c_96 hc y1
    obtain ⟨σ2, f2, m2, e2⟩ := m_203 (mIn_M hm c1.1 f1) y1
    exact finI (e1 (by omega)) (e2 (by omega)) x1 c1 m2 f2 (eX_d hm.2.2.2.2.2.2.2.2.2.2.1 hX ((eP_mn hv hr hX.1 k).1)) hG hK
  · exact finI (c_96z z (by omega)) (m_203z hm z (by omega)) wE_rf hc (mIn_Z hm (frZ_0 (by omega))) (frA_I (by omega)) hX hG hK
theorem pr_97 {w : mT} {σ : mS} {D : Nat} {G : Int32 → Hp → Prop} {Kc : Int32 → Int32 → Hp → Prop} (h : cmI w σ) (hD : 12 ≤ D) (hG : ∀ v w' σ', wOk w w' → wpI D 204 [.ref 81] (mW w' σ') (Kc v) → G v (mW w' σ')) (hK : ∀ v w' σ', wOk w w' → cmI w' σ' → Kc v v (mW w' σ')) : wpI D 97 [.ref 0] (mW w σ) G := by
  obtain ⟨tp, t, τ, ρ, n, bk, has, im, hc, hm, hX⟩ := h
  have hc' := hc
  obtain ⟨hw, hS, hH, ⟨P, hP, hp3, hp4, hτ⟩, hρ, hv, hr, h1, htp, htb, htl⟩ := hc'
  have v0 := hv.1
  have v1 := hv.2.1
  have v2 := hv.2.2.1
  obtain ⟨σ1, f1, c1, e1⟩ := c_97 hc
  obtain ⟨σ2, f2, m2, e2⟩ := m_204 (mIn_M hm hc.1 f1)
  exact finI (e1 (by omega)) (e2 (by omega)) wE_rf c1 m2 f2 hX hG hK
theorem pr_98 {w : mT} {σ : mS} {D : Nat} {G : Int32 → Hp → Prop} {Kc : Int32 → Int32 → Hp → Prop} (h : cmI w σ) (hD : 12 ≤ D) (hG : ∀ v w' σ', wOk w w' → wpI D 205 [.ref 81] (mW w' σ') (Kc v) → G v (mW w' σ')) (hK : ∀ v w' σ', wOk w w' → cmI w' σ' → Kc v v (mW w' σ')) : wpI D 98 [.ref 0] (mW w σ) G := by
  obtain ⟨tp, t, τ, ρ, n, bk, has, im, hc, hm, hX⟩ := h
  have hc' := hc
  obtain ⟨hw, hS, hH, ⟨P, hP, hp3, hp4, hτ⟩, hρ, hv, hr, h1, htp, htb, htl⟩ := hc'
  have v0 := hv.1
  have v1 := hv.2.1
  have v2 := hv.2.2.1
  by_cases z : 0 < n
  · obtain ⟨σ1, f1, c1, e1⟩ := c_98 hc z
    obtain ⟨σ2, f2, m2, e2⟩ := m_205 (mIn_M hm hc.1 f1) z
    exact finI (e1 (by omega)) (e2 (by omega)) wE_rf c1 m2 f2 (eX_u hX z) hG hK
  · have y : n = 0 := by omega
    subst y
    exact finI (c_98z hc (by omega)) (m_205z hm (by omega)) wE_rf hc (mIn_Z hm (frZ_0 (by omega))) (frA_I (by omega)) hX hG hK
theorem pr_99 {w : mT} {σ : mS} {a b : Int32} {D : Nat} {G : Int32 → Hp → Prop} {Kc : Int32 → Int32 → Hp → Prop} (h : cmI w σ) (hD : 12 ≤ D) (hG : ∀ v w' σ', wOk w w' → wpI D 206 [.ref 81, .int a, .int b] (mW w' σ') (Kc v) → G v (mW w' σ')) (hK : ∀ v w' σ', wOk w w' → cmI w' σ' → Kc v v (mW w' σ')) : wpI D 99 [.ref 0, .int a, .int b] (mW w σ) G := by
  obtain ⟨tp, t, τ, ρ, n, bk, has, im, hc, hm, hX⟩ := h
  have hc' := hc
  obtain ⟨hw, hS, hH, ⟨P, hP, hp3, hp4, hτ⟩, hρ, hv, hr, h1, htp, htb, htl⟩ := hc'
  have v0 := hv.1
  have v1 := hv.2.1
  have v2 := hv.2.2.1
  by_cases z : 0 ≤ a.toInt ∧ a.toInt < 2
  · obtain ⟨k, rfl, hk⟩ := ex_on (a := a) (n := 2) z
    by_cases y : b = 0
    · subst y
      obtain ⟨w1, σ1, x1, f1, c1, e1⟩ := c_99l hc hk
      obtain ⟨σ2, f2, m2, e2⟩ := m_206l (mIn_M hm c1.1 f1) hk
      exact finI (e1 (by omega)) (e2 (by omega)) x1 c1 m2 f2 (eX_l hX) hG hK
    · by_cases hh : has k = true
      · obtain ⟨σ1, f1, c1, e1⟩ := c_99r hc hk y hh
        obtain ⟨σ2, f2, m2, e2⟩ := m_206r (mIn_M hm hc.1 f1) hk y hh
        exact finI (e1 (by omega)) (e2 (by omega)) wE_rf c1 m2 f2 (eX_r hX hk hh) hG hK
      · have hh' : has k = false := by simpa using hh
        exact finI (c_99f hc hk y hh' (by omega)) (m_206f hm hk y hh' (by omega)) wE_rf hc (mIn_Z hm (frZ_0 (by omega))) (frA_I (by omega)) hX hG hK
  · exact finI (c_99z hw z (by omega)) (m_206z hm z (by omega)) wE_rf hc (mIn_Z hm (frZ_0 (by omega))) (frA_I (by omega)) hX hG hK
theorem pr_100 {w : mT} {σ : mS} {p c : Int32} {D : Nat} {G : Int32 → Hp → Prop} {Kc : Int32 → Int32 → Hp → Prop} (h : cmI w σ) (hD : 12 ≤ D) (hG : ∀ v w' σ', wOk w w' → wpI D 210 [.ref 81, .int p, .int c] (mW w' σ') (Kc v) → G v (mW w' σ')) (hK : ∀ v w' σ', wOk w w' → cmI w' σ' → Kc v v (mW w' σ')) : wpI D 100 [.ref 0, .int p, .int c] (mW w σ) G := by
  obtain ⟨tp, t, τ, ρ, n, bk, has, im, hc, hm, hX⟩ := h
  have hc' := hc
  obtain ⟨hw, hS, hH, ⟨P, hP, hp3, hp4, hτ⟩, hρ, hv, hr, h1, htp, htb, htl⟩ := hc'
  have v0 := hv.1
  have v1 := hv.2.1
  have v2 := hv.2.2.1
  by_cases z : bC τ p c = 1
  · obtain ⟨p, c, rfl, rfl, hp, hcc⟩ := bC_ex hv z
    obtain ⟨c1, f1⟩ := cIn_gU (T := tOn ρ p c) (O := gOn τ ρ p c) hc
    obtain ⟨σ2, f2, m2, e2⟩ := m_210 (mIn_M hm hc.1 f1) hp hcc
    exact finI (c_100 hc hp hcc (by omega)) (e2 (by omega)) wE_rf c1 m2 f2 hX hG hK
  · exact finI (c_100z hc z (by omega)) (m_210z hm z (by omega)) wE_rf hc (mIn_Z hm (frZ_0 (by omega))) (frA_I (by omega)) hX hG hK
theorem pr_101 {w : mT} {σ : mS} {p : Int32} {D : Nat} {G : Int32 → Hp → Prop} {Kc : Int32 → Int32 → Hp → Prop} (h : cmI w σ) (hD : 12 ≤ D) (hG : ∀ v w' σ', wOk w w' → wpI D 211 [.ref 81, .int p] (mW w' σ') (Kc v) → G v (mW w' σ')) (hK : ∀ v w' σ', wOk w w' → cmI w' σ' → Kc v v (mW w' σ')) : wpI D 101 [.ref 0, .int p] (mW w σ) G := by
  obtain ⟨tp, t, τ, ρ, n, bk, has, im, hc, hm, hX⟩ := h
  have hc' := hc
  obtain ⟨hw, hS, hH, ⟨P, hP, hp3, hp4, hτ⟩, hρ, hv, hr, h1, htp, htb, htl⟩ := hc'
  have v0 := hv.1
  have v1 := hv.2.1
  have v2 := hv.2.2.1
  by_cases z : bN p (τ 1) = 1
  · obtain ⟨p, rfl, hp⟩ := bN_ex z
    obtain ⟨c1, f1⟩ := cIn_gU (T := tPi τ ρ p) (O := gPi τ ρ p) hc
    obtain ⟨σ2, f2, m2, e2⟩ := m_211 (mIn_M hm hc.1 f1) hp
    exact finI (c_101 hc hp (by omega)) (e2 (by omega)) wE_rf c1 m2 f2 hX hG hK
  · exact finI (c_101z hc z (by omega)) (m_211z hm z (by omega)) wE_rf hc (mIn_Z hm (frZ_0 (by omega))) (frA_I (by omega)) hX hG hK
theorem pr_102 {w : mT} {σ : mS} {p : Int32} {D : Nat} {G : Int32 → Hp → Prop} {Kc : Int32 → Int32 → Hp → Prop} (h : cmI w σ) (hD : 12 ≤ D) (hG : ∀ v w' σ', wOk w w' → wpI D 212 [.ref 81, .int p] (mW w' σ') (Kc v) → G v (mW w' σ')) (hK : ∀ v w' σ', wOk w w' → cmI w' σ' → Kc v v (mW w' σ')) : wpI D 102 [.ref 0, .int p] (mW w σ) G := by
  obtain ⟨tp, t, τ, ρ, n, bk, has, im, hc, hm, hX⟩ := h
  have hc' := hc
  obtain ⟨hw, hS, hH, ⟨P, hP, hp3, hp4, hτ⟩, hρ, hv, hr, h1, htp, htb, htl⟩ := hc'
  have v0 := hv.1
  have v1 := hv.2.1
  have v2 := hv.2.2.1
  by_cases z : bN p (τ 2) = 1
  · obtain ⟨s, rfl, hs⟩ := bN_ex z
    obtain ⟨c1, f1⟩ := cIn_gU (T := ρ (27 + s)) (O := ρ (35 + s)) hc
    obtain ⟨σ2, f2, m2, e2⟩ := m_212 (mIn_M hm hc.1 f1) hs
    exact finI (c_102 hc hs (by omega)) (e2 (by omega)) wE_rf c1 m2 f2 hX hG hK
  · exact finI (c_102z hc z (by omega)) (m_212z hm z (by omega)) wE_rf hc (mIn_Z hm (frZ_0 (by omega))) (frA_I (by omega)) hX hG hK
theorem pr_103 {w : mT} {σ : mS} {D : Nat} {G : Int32 → Hp → Prop} {Kc : Int32 → Int32 → Hp → Prop} (h : cmI w σ) (hD : 12 ≤ D) (hG : ∀ v w' σ', wOk w w' → wpI D 213 [.ref 81] (mW w' σ') (Kc v) → G v (mW w' σ')) (hK : ∀ v v' w' σ', wOk w w' → cmI w' σ' → Kc v v' (mW w' σ')) : wpI D 103 [.ref 0] (mW w σ) G := by
  obtain ⟨tp, t, τ, ρ, n, bk, has, im, hc, hm, hX⟩ := h
  have hc' := hc
  obtain ⟨hw, hS, hH, ⟨P, hP, hp3, hp4, hτ⟩, hρ, hv, hr, h1, htp, htb, htl⟩ := hc'
  have v0 := hv.1
  have v1 := hv.2.1
  have v2 := hv.2.2.1
  exact (c_103 hw (by omega)).mpr (hG _ _ _ (wOk_of wE_rf hc) ((m_213 hm.1 (by omega)).mpr (hK _ _ _ _ (wOk_of wE_rf hc) ⟨tp, t, τ, ρ, n, bk, has, im, cIn_A hc (frA_I (by omega)), (mIn_Z hm (frZ_0 (by omega))), hX⟩)))
theorem pr_106 {w : mT} {σ : mS} {D : Nat} {G : Int64 → Hp → Prop} {Kc : Int64 → Int64 → Hp → Prop} (h : cmI w σ) (hD : 12 ≤ D) (hG : ∀ v w' σ', wOk w w' → wpL D 216 [.ref 81] (mW w' σ') (Kc v) → G v (mW w' σ')) (hK : ∀ v v' w' σ', wOk w w' → cmI w' σ' → Kc v v' (mW w' σ')) : wpL D 106 [.ref 0] (mW w σ) G := by
  obtain ⟨tp, t, τ, ρ, n, bk, has, im, hc, hm, hX⟩ := h
  have hc' := hc
  obtain ⟨hw, hS, hH, ⟨P, hP, hp3, hp4, hτ⟩, hρ, hv, hr, h1, htp, htb, htl⟩ := hc'
  have v0 := hv.1
  have v1 := hv.2.1
  have v2 := hv.2.2.1
  exact (c_106 hw (by omega)).mpr (hG _ _ _ (wOk_of wE_rf hc) ((m_216 hm.1 (by omega)).mpr (hK _ _ _ _ (wOk_of wE_rf hc) ⟨tp, t, τ, ρ, n, bk, has, im, cIn_A hc (frA_I (by omega)), (mIn_Z hm (frZ_0 (by omega))), hX⟩)))
theorem pr_110 {w : mT} {σ : mS} {D : Nat} {G : Int64 → Hp → Prop} {Kc : Int64 → Int64 → Hp → Prop} (h : cmI w σ) (hD : 12 ≤ D) (hG : ∀ v w' σ', wOk w w' → wpL D 222 [.ref 81] (mW w' σ') (Kc v) → G v (mW w' σ')) (hK : ∀ v v' w' σ', wOk w w' → cmI w' σ' → Kc v v' (mW w' σ')) : wpL D 110 [.ref 0] (mW w σ) G := by
  obtain ⟨tp, t, τ, ρ, n, bk, has, im, hc, hm, hX⟩ := h
  have hc' := hc
  obtain ⟨hw, hS, hH, ⟨P, hP, hp3, hp4, hτ⟩, hρ, hv, hr, h1, htp, htb, htl⟩ := hc'
  have v0 := hv.1
  have v1 := hv.2.1
  have v2 := hv.2.2.1
  exact (c_110 hw (by omega)).mpr (hG _ _ _ (wOk_of wE_rf hc) ((m_222 hm.1 (by omega)).mpr (hK _ _ _ _ (wOk_of wE_rf hc) ⟨tp, t, τ, ρ, n, bk, has, im, cIn_A hc (frA_I (by omega)), (mIn_Z hm (frZ_0 (by omega))), hX⟩)))
theorem pr_104 {w : mT} {σ : mS} {p a b : Int32} {D : Nat} {G : Int32 → Hp → Prop} {Kc : Int32 → Int32 → Hp → Prop} (h : cmI w σ) (hD : 12 ≤ D) (hG : ∀ v w' σ', wOk w w' → wpI D 214 [.ref 81, .int p, .int a, .int b] (mW w' σ') (Kc v) → G v (mW w' σ')) (hK : ∀ v w' σ', wOk w w' → cmI w' σ' → Kc v v (mW w' σ')) : wpI D 104 [.ref 0, .int p, .int a, .int b] (mW w σ) G := by
  obtain ⟨tp, t, τ, ρ, n, bk, has, im, hc, hm, hX⟩ := h
  have hc' := hc
  obtain ⟨hw, hS, hH, ⟨P, hP, hp3, hp4, hτ⟩, hρ, hv, hr, h1, htp, htb, htl⟩ := hc'
  have v0 := hv.1
  have v1 := hv.2.1
  have v2 := hv.2.2.1
  by_cases z : bN p (τ 1) = 1 ∧ grP a ∧ grP b ∧ a ≤ b
  · obtain ⟨zp, za, zb, zc⟩ := z
    obtain ⟨p, rfl, hp⟩ := bN_ex zp
    obtain ⟨a, rfl, ha⟩ := ex_on (a := a) (n := 1000) ⟨za.1, by have := za.2; omega⟩
    obtain ⟨b, rfl, hb⟩ := ex_on (a := b) (n := 1000) ⟨zb.1, by have := zb.2; omega⟩
    have hab : a ≤ b := (on_le (by omega) (by omega)).mp zc
    obtain ⟨σ2, f2, m2, e2⟩ := m_214 hm hp hab (by omega)
    exact finI (c_104 hc hp hab (by omega) (by omega)) (e2 (by omega)) wE_rf hc m2 f2 hX hG hK
  · exact finI (c_104z hc z (by omega)) (m_214z hm z (by omega)) wE_rf hc (mIn_Z hm (frZ_0 (by omega))) (frA_I (by omega)) hX hG hK
theorem pr_105 {w : mT} {σ : mS} {p : Int32} {D : Nat} {G : Int64 → Hp → Prop} {Kc : Int64 → Int64 → Hp → Prop} (h : cmI w σ) (hD : 12 ≤ D) (hG : ∀ v w' σ', wOk w w' → wpL D 215 [.ref 81, .int p] (mW w' σ') (Kc v) → G v (mW w' σ')) (hK : ∀ v w' σ', wOk w w' → cmI w' σ' → Kc v v (mW w' σ')) : wpL D 105 [.ref 0, .int p] (mW w σ) G := by
  obtain ⟨tp, t, τ, ρ, n, bk, has, im, hc, hm, hX⟩ := h
  have hc' := hc
  obtain ⟨hw, hS, hH, ⟨P, hP, hp3, hp4, hτ⟩, hρ, hv, hr, h1, htp, htb, htl⟩ := hc'
  have v0 := hv.1
  have v1 := hv.2.1
  have v2 := hv.2.2.1
  by_cases z : bN p (τ 1) = 1
  · obtain ⟨p, rfl, hp⟩ := bN_ex z
    obtain ⟨c1, f1⟩ := cIn_spU (s := spB τ ρ p (τ (28 + p))) hc
    obtain ⟨σ2, f2, m2, e2⟩ := m_215 (mIn_M hm hc.1 f1) hp
    exact finL (c_105 hc hp (by omega)) (e2 (by omega)) wE_rf c1 m2 f2 hX hG hK
  · exact finL (c_105z hc z (by omega)) (m_215z hm z (by omega)) wE_rf hc (mIn_Z hm (frZ_0 (by omega))) (frA_I (by omega)) hX hG hK
theorem pr_107 {w : mT} {σ : mS} {p l a b c q : Int32} {D : Nat} {G : Int32 → Hp → Prop} {Kc : Int32 → Int32 → Hp → Prop} (h : cmI w σ) (hD : 12 ≤ D) (hG : ∀ v w' σ', wOk w w' → wpI D 217 [.ref 81, .int p, .int l, .int a, .int b, .int c, .int q] (mW w' σ') (Kc v) → G v (mW w' σ')) (hK : ∀ v w' σ', wOk w w' → cmI w' σ' → Kc v v (mW w' σ')) : wpI D 107 [.ref 0, .int p, .int l, .int a, .int b, .int c, .int q] (mW w σ) G := by
  obtain ⟨tp, t, τ, ρ, n, bk, has, im, hc, hm, hX⟩ := h
  have hc' := hc
  obtain ⟨hw, hS, hH, ⟨P, hP, hp3, hp4, hτ⟩, hρ, hv, hr, h1, htp, htb, htl⟩ := hc'
  have v0 := hv.1
  have v1 := hv.2.1
  have v2 := hv.2.2.1
  by_cases z : bC τ p q = 1 ∧ cbP τ p l a b c
  · obtain ⟨zq, z⟩ := z
    obtain ⟨p, l, a, b, c, rfl, rfl, rfl, rfl, rfl, y1, y2, y3, y4, y5, y6⟩ := cbP_ex hv z
    obtain ⟨p2, q, e, rfl, hp2, hq⟩ := bC_ex hv zq
    have ep : p = p2 := (of_inj (by omega) (by omega)).mp e
    subst ep
    by_cases y : wlN τ ρ p l a b c = 0
    · obtain ⟨c1, f1⟩ := cIn_gU (T := ilT ρ p a b c q) (O := ilG τ ρ p l a b c q) hc
      obtain ⟨σ2, f2, m2, e2⟩ := m_217 (mIn_M hm hc.1 f1) y1 y2 y3 y4 ⟨y5, y6⟩ hq y
      exact finI (c_107 hc y1 y2 y3 y4 ⟨y5, y6⟩ hq y (by omega)) (e2 (by omega)) wE_rf c1 m2 f2 hX hG hK
    · exact finI (c_107n hc y1 y2 y3 y4 ⟨y5, y6⟩ hq y (by omega)) (m_217n hm y1 y2 y3 y4 ⟨y5, y6⟩ hq y (by omega)) wE_rf hc (mIn_Z hm (frZ_0 (by omega))) (frA_I (by omega)) hX hG hK
  · exact finI (c_107z hc z (by omega)) (m_217z hm z (by omega)) wE_rf hc (mIn_Z hm (frZ_0 (by omega))) (frA_I (by omega)) hX hG hK
theorem pr_108 {w : mT} {σ : mS} {a b c : Int32} {D : Nat} {G : Int32 → Hp → Prop} {Kc : Int32 → Int32 → Hp → Prop} (h : cmI w σ) (hD : 12 ≤ D) (hG : ∀ v w' σ', wOk w w' → wpI D 220 [.ref 81, .int a, .int b, .int c] (mW w' σ') (Kc v) → G v (mW w' σ')) (hK : ∀ v v' w' σ', wOk w w' → cmI w' σ' → Kc v v' (mW w' σ')) : wpI D 108 [.ref 0, .int a, .int b, .int c] (mW w σ) G := by
  obtain ⟨tp, t, τ, ρ, n, bk, has, im, hc, hm, hX⟩ := h
  have hc' := hc
  obtain ⟨hw, hS, hH, ⟨P, hP, hp3, hp4, hτ⟩, hρ, hv, hr, h1, htp, htb, htl⟩ := hc'
  have v0 := hv.1
  have v1 := hv.2.1
  have v2 := hv.2.2.1
  exact s_108 hc (fun v σ1 f1 c1 => hG v w σ1 (wOk_of wE_rf hc) (m_220 (mIn_M hm hc.1 f1) (fun v' σ2 f2 m2 => hK v v' w σ2 (wOk_of wE_rf hc) ⟨tp, t, τ, ρ, n, bk, has, im, cIn_A c1 f2, m2, hX⟩) (by omega))) (by omega)
theorem pr_109 {w : mT} {σ : mS} {a b : Int32} {D : Nat} {G : Int64 → Hp → Prop} {Kc : Int64 → Int64 → Hp → Prop} (h : cmI w σ) (hD : 12 ≤ D) (hG : ∀ v w' σ', wOk w w' → wpL D 221 [.ref 81, .int a, .int b] (mW w' σ') (Kc v) → G v (mW w' σ')) (hK : ∀ v v' w' σ', wOk w w' → cmI w' σ' → Kc v v' (mW w' σ')) : wpL D 109 [.ref 0, .int a, .int b] (mW w σ) G := by
  obtain ⟨tp, t, τ, ρ, n, bk, has, im, hc, hm, hX⟩ := h
  have hc' := hc
  obtain ⟨hw, hS, hH, ⟨P, hP, hp3, hp4, hτ⟩, hρ, hv, hr, h1, htp, htb, htl⟩ := hc'
  have v0 := hv.1
  have v1 := hv.2.1
  have v2 := hv.2.2.1
  exact s_109 hc (fun v σ1 f1 c1 => hG v w σ1 (wOk_of wE_rf hc) (m_221 (mIn_M hm hc.1 f1) (fun v' σ2 f2 m2 => hK v v' w σ2 (wOk_of wE_rf hc) ⟨tp, t, τ, ρ, n, bk, has, im, cIn_A c1 f2, m2, hX⟩) (by omega))) (by omega)
theorem pr_111 {w : mT} {σ : mS} {p y0 aim : Int32} {D : Nat} {G : Int32 → Hp → Prop} {Kc : Int32 → Int32 → Hp → Prop} (h : cmI w σ) (hD : 12 ≤ D) (hG : ∀ v w' σ', wOk w w' → wpI D 223 [.ref 81, .int p, .int y0, .int aim] (mW w' σ') (Kc v) → G v (mW w' σ')) (hK : ∀ v w' σ', wOk w w' → cmI w' σ' → Kc v v (mW w' σ')) : wpI D 111 [.ref 0, .int p, .int y0, .int aim] (mW w σ) G := by
  obtain ⟨tp, t, τ, ρ, n, bk, has, im, hc, hm, hX⟩ := h
  have hc' := hc
  obtain ⟨hw, hS, hH, ⟨P, hP, hp3, hp4, hτ⟩, hρ, hv, hr, h1, htp, htb, htl⟩ := hc'
  have v0 := hv.1
  have v1 := hv.2.1
  have v2 := hv.2.2.1
  by_cases z : neP τ p y0 aim
  · have z' := z
    obtain ⟨zp, za, zb⟩ := z'
    obtain ⟨p, rfl, hp⟩ := bN_ex zp
    obtain ⟨y0, rfl, hy⟩ := ex_on (a := y0) (n := 100) ⟨by omega, by omega⟩
    obtain ⟨aim, rfl, haim⟩ := ex_on (a := aim) (n := 1000) ⟨by have := zb.1; omega, by have := zb.2; omega⟩
    rw [on_int (by omega : y0 < 2147483648)] at za
    have y1 : 1 ≤ y0 ∧ y0 ≤ 99 := by omega
    obtain ⟨σ2, f2, m2, e2⟩ := m_223 hm hp y1 (show aim ≤ 999 by omega)
    exact finI (c_111 hc hp y1 (show aim ≤ 999 by omega) (by omega)) (e2 (by omega)) wE_rf hc m2 f2 hX hG hK
  · exact finI (c_111z hc z (by omega)) (m_223z hm z (by omega)) wE_rf hc (mIn_Z hm (frZ_0 (by omega))) (frA_I (by omega)) hX hG hK
theorem pr_112 {w : mT} {σ : mS} {a b c : Int32} {D : Nat} {G : Int32 → Hp → Prop} {Kc : Int32 → Int32 → Hp → Prop} (h : cmI w σ) (hD : 12 ≤ D) (hG : ∀ v w' σ', wOk w w' → wpI D 227 [.ref 81, .int a, .int b, .int c] (mW w' σ') (Kc v) → G v (mW w' σ')) (hK : ∀ v v' w' σ', wOk w w' → cmI w' σ' → Kc v v' (mW w' σ')) : wpI D 112 [.ref 0, .int a, .int b, .int c] (mW w σ) G := by
  obtain ⟨tp, t, τ, ρ, n, bk, has, im, hc, hm, hX⟩ := h
  have hc' := hc
  obtain ⟨hw, hS, hH, ⟨P, hP, hp3, hp4, hτ⟩, hρ, hv, hr, h1, htp, htb, htl⟩ := hc'
  have v0 := hv.1
  have v1 := hv.2.1
  have v2 := hv.2.2.1
  exact s_112 hc (fun v σ1 f1 c1 => hG v w σ1 (wOk_of wE_rf hc) (m_227 (mIn_M hm hc.1 f1) (fun v' σ2 f2 m2 => hK v v' w σ2 (wOk_of wE_rf hc) ⟨tp, t, τ, ρ, n, bk, has, im, cIn_A c1 f2, m2, hX⟩) (by omega))) (by omega)
theorem pr_113 {w : mT} {σ : mS} {D : Nat} {G : Int32 → Hp → Prop} {Kc : Int32 → Int32 → Hp → Prop} (h : cmI w σ) (hD : 12 ≤ D) (hG : ∀ v w' σ', wOk w w' → wpI D 232 [.ref 81] (mW w' σ') (Kc v) → G v (mW w' σ')) (hK : ∀ v v' w' σ', wOk w w' → cmI w' σ' → Kc v v' (mW w' σ')) : wpI D 113 [.ref 0] (mW w σ) G := by
  obtain ⟨tp, t, τ, ρ, n, bk, has, im, hc, hm, hX⟩ := h
  have hc' := hc
  obtain ⟨hw, hS, hH, ⟨P, hP, hp3, hp4, hτ⟩, hρ, hv, hr, h1, htp, htb, htl⟩ := hc'
  have v0 := hv.1
  have v1 := hv.2.1
  have v2 := hv.2.2.1
  exact s_113 hc (fun v σ1 f1 c1 => hG v w σ1 (wOk_of wE_rf hc) (m_232 (mIn_M hm hc.1 f1) (fun v' σ2 f2 m2 => hK v v' w σ2 (wOk_of wE_rf hc) ⟨tp, t, τ, ρ, n, bk, has, im, cIn_A c1 f2, m2, hX⟩) (by omega))) (by omega)
theorem pr_114 {w : mT} {σ : mS} {a : Int32} {D : Nat} {G : Int32 → Hp → Prop} {Kc : Int32 → Int32 → Hp → Prop} (h : cmI w σ) (hD : 12 ≤ D) (hG : ∀ v w' σ', wOk w w' → wpI D 233 [.ref 81, .int a] (mW w' σ') (Kc v) → G v (mW w' σ')) (hK : ∀ v v' w' σ', wOk w w' → cmI w' σ' → Kc v v' (mW w' σ')) : wpI D 114 [.ref 0, .int a] (mW w σ) G := by
  obtain ⟨tp, t, τ, ρ, n, bk, has, im, hc, hm, hX⟩ := h
  have hc' := hc
  obtain ⟨hw, hS, hH, ⟨P, hP, hp3, hp4, hτ⟩, hρ, hv, hr, h1, htp, htb, htl⟩ := hc'
  have v0 := hv.1
  have v1 := hv.2.1
  have v2 := hv.2.2.1
  exact s_114 hc (fun v σ1 f1 c1 => hG v w σ1 (wOk_of wE_rf hc) (m_233 (mIn_M hm hc.1 f1) (fun v' σ2 f2 m2 => hK v v' w σ2 (wOk_of wE_rf hc) ⟨tp, t, τ, ρ, n, bk, has, im, cIn_A c1 f2, m2, hX⟩) (by omega))) (by omega)
theorem pr_115 {w : mT} {σ : mS} {a : Int32} {D : Nat} {G : Int32 → Hp → Prop} {Kc : Int32 → Int32 → Hp → Prop} (h : cmI w σ) (hD : 12 ≤ D) (hG : ∀ v w' σ', wOk w w' → wpI D 235 [.ref 81, .int a] (mW w' σ') (Kc v) → G v (mW w' σ')) (hK : ∀ v v' w' σ', wOk w w' → cmI w' σ' → Kc v v' (mW w' σ')) : wpI D 115 [.ref 0, .int a] (mW w σ) G := by
  obtain ⟨tp, t, τ, ρ, n, bk, has, im, hc, hm, hX⟩ := h
  have hc' := hc
  obtain ⟨hw, hS, hH, ⟨P, hP, hp3, hp4, hτ⟩, hρ, hv, hr, h1, htp, htb, htl⟩ := hc'
  have v0 := hv.1
  have v1 := hv.2.1
  have v2 := hv.2.2.1
  exact s_115 hc (fun v σ1 f1 c1 => hG v w σ1 (wOk_of wE_rf hc) (m_235 (mIn_M hm hc.1 f1) (fun v' σ2 f2 m2 => hK v v' w σ2 (wOk_of wE_rf hc) ⟨tp, t, τ, ρ, n, bk, has, im, cIn_A c1 f2, m2, hX⟩) (by omega))) (by omega)
theorem pr_116 {w : mT} {σ : mS} {a : Int32} {D : Nat} {G : Int32 → Hp → Prop} {Kc : Int32 → Int32 → Hp → Prop} (h : cmI w σ) (hD : 12 ≤ D) (hG : ∀ v w' σ', wOk w w' → wpI D 236 [.ref 81, .int a] (mW w' σ') (Kc v) → G v (mW w' σ')) (hK : ∀ v v' w' σ', wOk w w' → cmI w' σ' → Kc v v' (mW w' σ')) : wpI D 116 [.ref 0, .int a] (mW w σ) G := by
  obtain ⟨tp, t, τ, ρ, n, bk, has, im, hc, hm, hX⟩ := h
  have hc' := hc
  obtain ⟨hw, hS, hH, ⟨P, hP, hp3, hp4, hτ⟩, hρ, hv, hr, h1, htp, htb, htl⟩ := hc'
  have v0 := hv.1
  have v1 := hv.2.1
  have v2 := hv.2.2.1
  exact s_116 hc (fun v σ1 f1 c1 => hG v w σ1 (wOk_of wE_rf hc) (m_236 (mIn_M hm hc.1 f1) (fun v' σ2 f2 m2 => hK v v' w σ2 (wOk_of wE_rf hc) ⟨tp, t, τ, ρ, n, bk, has, im, cIn_A c1 f2, m2, hX⟩) (by omega))) (by omega)
theorem pr_79 {w : mT} {σ : mS} {l a : Int32} {D : Nat} {kr : Option Value → Hp → Prop} {kt : Hp → Prop} (h : cmI w σ) (hD : 12 ≤ D)
    (hT : ∀ w', w' = (w.1, w.2.1, w.2.2.1 + 1, w.2.2.2) → lit w' → (∀ K : Int32 → Hp → Prop, wpI D 162 [.ref 81, .int l, .int a] (mW w' σ) K ↔ K 0 (mW w' (uI σ 81 0 1))) → cmI w' (uI σ 81 0 1) → kt (mW w' σ))
    (hR : ∀ v : Int32, (∀ K : Int32 → Hp → Prop, wpI D 162 [.ref 81, .int l, .int a] (mW w (uL σ 98 0 v.toInt64)) K ↔ K v (mW w (uI (uL σ 98 0 v.toInt64) 81 0 0))) → cmI w (uI (uL σ 98 0 v.toInt64) 81 0 0) → kr (some (.int v)) (mW w σ)) : wpC D 79 [.ref 0, .int l, .int a] (mW w σ) kr kt := by
  obtain ⟨tp, t, τ, ρ, n, bk, has, im, hc, hm, hX⟩ := h
  have hv := hc.2.2.2.2.2.1
  have v0 := hv.1
  have v2 := hv.2.2.1
  by_cases z : loP τ l a
  · obtain ⟨zl, za⟩ := z
    obtain ⟨l, rfl, hl⟩ := bN_ex zl
    obtain ⟨a, rfl, ha⟩ := ex_on (a := a) (n := 3) ⟨by omega, by omega⟩
    refine (c_79 (a := a) hc hl (by omega) (by omega)).mpr (hR _ (fun K => m_162 (a := a) (mIn_Z hm (frZ_L (by omega))) hl (by omega) (by omega)) ?_)
    exact ⟨tp, t, τ, ρ, n, bk, has, im, cIn_A (cIn_A hc (frA_L (by omega))) (frA_I (by omega)), mIn_Z (mIn_Z hm (frZ_L (by omega))) (frZ_0 (by omega)), hX⟩
  · refine (c_79z hc z (by omega)).mpr (hT _ rfl hc.1 (fun K => m_162z (mIn_w hm hc.1) z (by omega)) ?_)
    exact ⟨tp, t, τ, ρ, n, bk, has, im, cIn_A hc (frA_I (by omega)), mIn_w (mIn_Z hm (frZ_0 (by omega))) hc.1, hX⟩
theorem pr_80 {w : mT} {σ : mS} {l a : Int32} {D : Nat} {kr : Option Value → Hp → Prop} {kt : Hp → Prop} (h : cmI w σ) (hD : 12 ≤ D)
    (hT : ∀ w', w' = (w.1, w.2.1, w.2.2.1 + 1, w.2.2.2) → lit w' → (∀ K : Int32 → Hp → Prop, wpI D 163 [.ref 81, .int l, .int a] (mW w' σ) K ↔ K 0 (mW w' (uI σ 81 0 1))) → cmI w' (uI σ 81 0 1) → kt (mW w' σ))
    (hR : ∀ v : Int32, (∀ K : Int32 → Hp → Prop, wpI D 163 [.ref 81, .int l, .int a] (mW w (uL σ 98 0 v.toInt64)) K ↔ K v (mW w (uI (uL σ 98 0 v.toInt64) 81 0 0))) → cmI w (uI (uL σ 98 0 v.toInt64) 81 0 0) → kr (some (.int v)) (mW w σ)) : wpC D 80 [.ref 0, .int l, .int a] (mW w σ) kr kt := by
  obtain ⟨tp, t, τ, ρ, n, bk, has, im, hc, hm, hX⟩ := h
  have hv := hc.2.2.2.2.2.1
  have v0 := hv.1
  have v2 := hv.2.2.1
  by_cases z : shP τ l a
  · obtain ⟨zl, za⟩ := z
    obtain ⟨l, rfl, hl⟩ := bN_ex zl
    obtain ⟨a, rfl, ha⟩ := ex_on (a := a) (n := 10) ⟨by omega, by omega⟩
    refine (c_80 (a := a) hc hl (by omega) (by omega)).mpr (hR _ (fun K => m_163 (a := a) (mIn_Z hm (frZ_L (by omega))) hl (by omega) (by omega)) ?_)
    exact ⟨tp, t, τ, ρ, n, bk, has, im, cIn_A (cIn_A hc (frA_L (by omega))) (frA_I (by omega)), mIn_Z (mIn_Z hm (frZ_L (by omega))) (frZ_0 (by omega)), hX⟩
  · refine (c_80z hc z (by omega)).mpr (hT _ rfl hc.1 (fun K => m_163z (mIn_w hm hc.1) z (by omega)) ?_)
    exact ⟨tp, t, τ, ρ, n, bk, has, im, cIn_A hc (frA_I (by omega)), mIn_w (mIn_Z hm (frZ_0 (by omega))) hc.1, hX⟩
end
