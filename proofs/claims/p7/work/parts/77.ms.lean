/-! the model's Reader: words, faults, numbers, names -/
def f8 (σ σ' : mS) : Prop := (∀ a, a ≠ 81 → σ'.1 a = σ.1 a) ∧ (∀ j, j < 3 ∨ 14 < j → σ'.1 81 j = σ.1 81 j) ∧ σ'.2 = σ.2
theorem f8_rf {σ : mS} : f8 σ σ := ⟨fun _ _ => rfl, fun _ _ => rfl, rfl⟩
theorem f8_tr {σ σ' σ'' : mS} (h : f8 σ σ') (h' : f8 σ' σ'') : f8 σ σ'' := ⟨fun a q => (h'.1 a q).trans (h.1 a q), fun j q => (h'.2.1 j q).trans (h.2.1 j q), h'.2.2.trans h.2.2⟩
theorem f8_I {σ : mS} {j : Nat} {x : Int32} (h : 3 ≤ j ∧ j ≤ 14) : f8 σ (uI σ 81 j x) := ⟨fun a q => (uI_ne q).1, fun i hi => by rw [uI_1, if_neg (by omega)], rfl⟩
theorem f8_G {σ σ' : mS} (f : fG σ σ') : f8 σ σ' := ⟨f.1, fun j hj => f.2.1 j (by omega), f.2.2⟩
def fQ (σ σ' : mS) : Prop := (∀ a, a ≠ 81 → a ≠ 84 → σ'.1 a = σ.1 a) ∧ (∀ j, j < 3 ∨ 14 < j → σ'.1 81 j = σ.1 81 j) ∧ σ'.2 = σ.2
theorem fQ_rf {σ : mS} : fQ σ σ := ⟨fun _ _ _ => rfl, fun _ _ => rfl, rfl⟩
theorem fQ_tr {σ σ' σ'' : mS} (h : fQ σ σ') (h' : fQ σ' σ'') : fQ σ σ'' := ⟨fun a q r => (h'.1 a q r).trans (h.1 a q r), fun j q => (h'.2.1 j q).trans (h.2.1 j q), h'.2.2.trans h.2.2⟩
theorem fQ_8 {σ σ' : mS} (f : f8 σ σ') : fQ σ σ' := ⟨fun a q _ => f.1 a q, f.2.1, f.2.2⟩
theorem fQ_D {σ : mS} {j : Nat} {x : Int32} : fQ σ (uI σ 84 j x) := ⟨fun a _ q => (uI_ne q).1, fun i _ => by rw [uI_1, if_neg (by omega)], rfl⟩
theorem mG_c {σ σ' : mS} {t : Nat → Nat} {n : Nat} {g : Rw} (h : mG σ t n g) (h2 : σ'.1 82 = σ.1 82) (h1 : ∀ j, 3 ≤ j → j ≤ 14 → j ≠ 10 → σ'.1 81 j = σ.1 81 j) : mG σ' t n g := by
  obtain ⟨hB, a, b, c, e, f, i, j, k⟩ := h
  refine ⟨⟨fun q hq => by rw [h2]; exact hB.1 q hq, by rw [h1 3 (by omega) (by omega) (by omega)]; exact hB.2⟩, ?_, ?_, ?_, ?_, ?_, ?_, ?_, ?_⟩
  · rw [h1 4 (by omega) (by omega) (by omega)]; exact a
  · rw [h1 5 (by omega) (by omega) (by omega)]; exact b
  · rw [h1 6 (by omega) (by omega) (by omega)]; exact c
  · rw [h1 7 (by omega) (by omega) (by omega)]; exact e
  · rw [h1 8 (by omega) (by omega) (by omega)]; exact f
  · rw [h1 9 (by omega) (by omega) (by omega)]; exact i
  · rw [h1 14 (by omega) (by omega) (by omega)]; exact j
  · rw [h1 13 (by omega) (by omega) (by omega)]; exact k
theorem mG_D {σ : mS} {t : Nat → Nat} {n j : Nat} {x : Int32} {g : Rw} (h : mG σ t n g) : mG (uI σ 84 j x) t n g := mG_c h (uI_o (by omega)) (fun i _ _ _ => by rw [uI_1, if_neg (by omega)])
theorem mG_10 {σ : mS} {t : Nat → Nat} {n : Nat} {x : Int32} {g : Rw} (h : mG σ t n g) : mG (uI σ 81 10 x) t n g := mG_c h (uI_o (by omega)) (fun i _ _ q => by rw [uI_1, if_neg (by omega)])
theorem g_134 {w : mT} {σ : mS} {t : Nat → Nat} {n i : Nat} {g : Rw} {x : Int32} {D : Nat} {K : Int32 → Hp → Prop} (hw : lit w) (hG : mG σ t n g) (hv : vG n g) (hi : i < 13) (hx : x = WC i) (hD : 1 ≤ D) : wpI D 134 [.ref 81, .int x] (mW w σ) K ↔ K (iB (sayP t g i)) (mW w σ) := by
  subst hx
  obtain ⟨hB, h4, h5, h6, h7, h8, h9, h14, h13⟩ := hG
  refine cI_of (m := 0) (fun d hd Q hQ => ?_) rfl hD
  have k4 := hv.2.2.2
  refine b134_0 ?_
  by_cases c : g 2 = 1
  · have c1 : (Int32.ofNat (g 2) = (1 : Int32)) ↔ True := iff_true_intro (by rw [c]; rfl)
    obtain ⟨e8, hL⟩ := h8 c
    have wi := wM_iff hi c hL
    by_cases y : sayP t g i
    · have c2 := iff_true_intro (wi.mpr y)
      rw [iB_t y] at hQ
      simp only [↓br_pos, ↓br_neg, ↓rF_I, ↓rF_L, ↓rF_R, ↓rF_N, rO_m, rB_m, ↓rI_m, wI_m, ↓rB2_m, ↓rB3_m, wB2_m, wB3_m, ↓rL_m, wL_m, ↓rQ_m, wQ_m, ↓lI_m, pI_m, pL_m, pR_m, sI_m, sBy_m, sBo_m, sL_m, sQ_m, fst_m, true_and, and_true, tg_some, ln_some, uI_1, uI_2, uL_1, uL_2, uL_3, uQ_1, uQ_2, uQ_3, rv_i, rv_l, rv_n, rv_b0, rv_b1, RMR, ne_eq, reduceCtorEq, not_false_eq_true, Option.getD_some, if_true, if_false, and_self, false_and, and_false, Nat.add_left_cancel_iff, Nat.add_eq_left, Nat.left_eq_add, Nat.one_ne_zero, Nat.reduceAdd, Nat.reduceLT, Nat.reduceLeDiff, Nat.reduceEqDiff, true_implies, false_implies, implies_true, Option.some.injEq, forall_eq', forall_eq, reduceCtorEq, brT, brF, br_s, i_10, i_01, ib_0_2, ib_1_2, tn_0, tn_1, Int32.le_refl, eq_self, rv_bN, rv_iM, RCM 81, RLY, lit_at hw, h6, c1, e8, c2]
      exact hQ
    · have c2 := iff_false_intro (fun q => y (wi.mp q))
      rw [iB_f y] at hQ
      simp only [↓br_pos, ↓br_neg, ↓rF_I, ↓rF_L, ↓rF_R, ↓rF_N, rO_m, rB_m, ↓rI_m, wI_m, ↓rB2_m, ↓rB3_m, wB2_m, wB3_m, ↓rL_m, wL_m, ↓rQ_m, wQ_m, ↓lI_m, pI_m, pL_m, pR_m, sI_m, sBy_m, sBo_m, sL_m, sQ_m, fst_m, true_and, and_true, tg_some, ln_some, uI_1, uI_2, uL_1, uL_2, uL_3, uQ_1, uQ_2, uQ_3, rv_i, rv_l, rv_n, rv_b0, rv_b1, RMR, ne_eq, reduceCtorEq, not_false_eq_true, Option.getD_some, if_true, if_false, and_self, false_and, and_false, Nat.add_left_cancel_iff, Nat.add_eq_left, Nat.left_eq_add, Nat.one_ne_zero, Nat.reduceAdd, Nat.reduceLT, Nat.reduceLeDiff, Nat.reduceEqDiff, true_implies, false_implies, implies_true, Option.some.injEq, forall_eq', forall_eq, reduceCtorEq, brT, brF, br_s, i_10, i_01, ib_0_2, ib_1_2, tn_0, tn_1, Int32.le_refl, eq_self, rv_bN, rv_iM, RCM 81, RLY, lit_at hw, h6, c1, e8, c2]
      exact hQ
  · have c1 : (Int32.ofNat (g 2) = (1 : Int32)) ↔ False := iff_false_intro (fun q => c ((of_inj (b := 1) (by omega) (by omega)).mp q))
    rw [iB_f (fun q => c q.1)] at hQ
    simp only [↓br_pos, ↓br_neg, ↓rF_I, ↓rF_L, ↓rF_R, ↓rF_N, rO_m, rB_m, ↓rI_m, wI_m, ↓rB2_m, ↓rB3_m, wB2_m, wB3_m, ↓rL_m, wL_m, ↓rQ_m, wQ_m, ↓lI_m, pI_m, pL_m, pR_m, sI_m, sBy_m, sBo_m, sL_m, sQ_m, fst_m, true_and, and_true, tg_some, ln_some, uI_1, uI_2, uL_1, uL_2, uL_3, uQ_1, uQ_2, uQ_3, rv_i, rv_l, rv_n, rv_b0, rv_b1, RMR, ne_eq, reduceCtorEq, not_false_eq_true, Option.getD_some, if_true, if_false, and_self, false_and, and_false, Nat.add_left_cancel_iff, Nat.add_eq_left, Nat.left_eq_add, Nat.one_ne_zero, Nat.reduceAdd, Nat.reduceLT, Nat.reduceLeDiff, Nat.reduceEqDiff, true_implies, false_implies, implies_true, Option.some.injEq, forall_eq', forall_eq, reduceCtorEq, brT, brF, br_s, i_10, i_01, ib_0_2, ib_1_2, tn_0, tn_1, Int32.le_refl, eq_self, rv_bN, rv_iM, RCM 81, RLY, lit_at hw, h6, c1]
    exact hQ
theorem g_135 {w : mT} {σ : mS} {t : Nat → Nat} {n : Nat} {g : Rw} {D : Nat} {K : Int32 → Hp → Prop} (hw : lit w) (hG : mG σ t n g) (hv : vG n g) (hD : 2 ≤ D) : wpI D 135 [.ref 81] (mW w σ) K ↔ K (iB (kepP t g = true)) (mW w σ) := by
  refine cI_of (m := 1) (fun d hd Q hQ => ?_) rfl hD
  have e0 := fun {K : Int32 → Hp → Prop} => g_134 (K := K) (x := 12788) (i := 0) hw hG hv (by omega) (by decide) hd
  have e1 := fun {K : Int32 → Hp → Prop} => g_134 (K := K) (x := 533893) (i := 1) hw hG hv (by omega) (by decide) hd
  have e2 := fun {K : Int32 → Hp → Prop} => g_134 (K := K) (x := 631088) (i := 2) hw hG hv (by omega) (by decide) hd
  have e3 := fun {K : Int32 → Hp → Prop} => g_134 (K := K) (x := 7216) (i := 3) hw hG hv (by omega) (by decide) hd
  have e4 := fun {K : Int32 → Hp → Prop} => g_134 (K := K) (x := 687290547) (i := 4) hw hG hv (by omega) (by decide) hd
  have e5 := fun {K : Int32 → Hp → Prop} => g_134 (K := K) (x := 7931013) (i := 5) hw hG hv (by omega) (by decide) hd
  have e6 := fun {K : Int32 → Hp → Prop} => g_134 (K := K) (x := 3322259) (i := 6) hw hG hv (by omega) (by decide) hd
  have e7 := fun {K : Int32 → Hp → Prop} => g_134 (K := K) (x := 14849171) (i := 7) hw hG hv (by omega) (by decide) hd
  have e8 := fun {K : Int32 → Hp → Prop} => g_134 (K := K) (x := 12791) (i := 8) hw hG hv (by omega) (by decide) hd
  have e9 := fun {K : Int32 → Hp → Prop} => g_134 (K := K) (x := 271592) (i := 9) hw hG hv (by omega) (by decide) hd
  have e10 := fun {K : Int32 → Hp → Prop} => g_134 (K := K) (x := 4773) (i := 10) hw hG hv (by omega) (by decide) hd
  have e11 := fun {K : Int32 → Hp → Prop} => g_134 (K := K) (x := 408612) (i := 11) hw hG hv (by omega) (by decide) hd
  have e12 := fun {K : Int32 → Hp → Prop} => g_134 (K := K) (x := 206277) (i := 12) hw hG hv (by omega) (by decide) hd
  refine b135_0 ?_
  by_cases h0 : sayP t g 0
  · rw [iB_t (kepP_t (by omega) h0)] at hQ
    have z0 : iB (sayP t g 0) = 1 := iB_t h0
    simp only [↓br_pos, ↓br_neg, ↓rF_I, ↓rF_L, ↓rF_R, ↓rF_N, rO_m, rB_m, ↓rI_m, wI_m, ↓rB2_m, ↓rB3_m, wB2_m, wB3_m, ↓rL_m, wL_m, ↓rQ_m, wQ_m, ↓lI_m, pI_m, pL_m, pR_m, sI_m, sBy_m, sBo_m, sL_m, sQ_m, fst_m, true_and, and_true, tg_some, ln_some, uI_1, uI_2, uL_1, uL_2, uL_3, uQ_1, uQ_2, uQ_3, rv_i, rv_l, rv_n, rv_b0, rv_b1, RMR, ne_eq, reduceCtorEq, not_false_eq_true, Option.getD_some, if_true, if_false, and_self, false_and, and_false, Nat.add_left_cancel_iff, Nat.add_eq_left, Nat.left_eq_add, Nat.one_ne_zero, Nat.reduceAdd, Nat.reduceLT, Nat.reduceLeDiff, Nat.reduceEqDiff, true_implies, false_implies, implies_true, Option.some.injEq, forall_eq', forall_eq, reduceCtorEq, brT, brF, br_s, i_10, i_01, ib_0_2, ib_1_2, tn_0, tn_1, Int32.le_refl, eq_self, rv_bN, rv_iM, RCM 81, RLY, lit_at hw, e0, z0, z10, z00]
    exact hQ
  have z0 : iB (sayP t g 0) = 0 := iB_f h0
  by_cases h1 : sayP t g 1
  · rw [iB_t (kepP_t (by omega) h1)] at hQ
    have z1 : iB (sayP t g 1) = 1 := iB_t h1
    simp only [↓br_pos, ↓br_neg, ↓rF_I, ↓rF_L, ↓rF_R, ↓rF_N, rO_m, rB_m, ↓rI_m, wI_m, ↓rB2_m, ↓rB3_m, wB2_m, wB3_m, ↓rL_m, wL_m, ↓rQ_m, wQ_m, ↓lI_m, pI_m, pL_m, pR_m, sI_m, sBy_m, sBo_m, sL_m, sQ_m, fst_m, true_and, and_true, tg_some, ln_some, uI_1, uI_2, uL_1, uL_2, uL_3, uQ_1, uQ_2, uQ_3, rv_i, rv_l, rv_n, rv_b0, rv_b1, RMR, ne_eq, reduceCtorEq, not_false_eq_true, Option.getD_some, if_true, if_false, and_self, false_and, and_false, Nat.add_left_cancel_iff, Nat.add_eq_left, Nat.left_eq_add, Nat.one_ne_zero, Nat.reduceAdd, Nat.reduceLT, Nat.reduceLeDiff, Nat.reduceEqDiff, true_implies, false_implies, implies_true, Option.some.injEq, forall_eq', forall_eq, reduceCtorEq, brT, brF, br_s, i_10, i_01, ib_0_2, ib_1_2, tn_0, tn_1, Int32.le_refl, eq_self, rv_bN, rv_iM, RCM 81, RLY, lit_at hw, e0, z0, e1, z1, z10, z00]
    exact hQ
  have z1 : iB (sayP t g 1) = 0 := iB_f h1
  by_cases h2 : sayP t g 2
  · rw [iB_t (kepP_t (by omega) h2)] at hQ
    have z2 : iB (sayP t g 2) = 1 := iB_t h2
    simp only [↓br_pos, ↓br_neg, ↓rF_I, ↓rF_L, ↓rF_R, ↓rF_N, rO_m, rB_m, ↓rI_m, wI_m, ↓rB2_m, ↓rB3_m, wB2_m, wB3_m, ↓rL_m, wL_m, ↓rQ_m, wQ_m, ↓lI_m, pI_m, pL_m, pR_m, sI_m, sBy_m, sBo_m, sL_m, sQ_m, fst_m, true_and, and_true, tg_some, ln_some, uI_1, uI_2, uL_1, uL_2, uL_3, uQ_1, uQ_2, uQ_3, rv_i, rv_l, rv_n, rv_b0, rv_b1, RMR, ne_eq, reduceCtorEq, not_false_eq_true, Option.getD_some, if_true, if_false, and_self, false_and, and_false, Nat.add_left_cancel_iff, Nat.add_eq_left, Nat.left_eq_add, Nat.one_ne_zero, Nat.reduceAdd, Nat.reduceLT, Nat.reduceLeDiff, Nat.reduceEqDiff, true_implies, false_implies, implies_true, Option.some.injEq, forall_eq', forall_eq, reduceCtorEq, brT, brF, br_s, i_10, i_01, ib_0_2, ib_1_2, tn_0, tn_1, Int32.le_refl, eq_self, rv_bN, rv_iM, RCM 81, RLY, lit_at hw, e0, z0, e1, z1, e2, z2, z10, z00]
    exact hQ
  have z2 : iB (sayP t g 2) = 0 := iB_f h2
  by_cases h3 : sayP t g 3
  · rw [iB_t (kepP_t (by omega) h3)] at hQ
    have z3 : iB (sayP t g 3) = 1 := iB_t h3
    simp only [↓br_pos, ↓br_neg, ↓rF_I, ↓rF_L, ↓rF_R, ↓rF_N, rO_m, rB_m, ↓rI_m, wI_m, ↓rB2_m, ↓rB3_m, wB2_m, wB3_m, ↓rL_m, wL_m, ↓rQ_m, wQ_m, ↓lI_m, pI_m, pL_m, pR_m, sI_m, sBy_m, sBo_m, sL_m, sQ_m, fst_m, true_and, and_true, tg_some, ln_some, uI_1, uI_2, uL_1, uL_2, uL_3, uQ_1, uQ_2, uQ_3, rv_i, rv_l, rv_n, rv_b0, rv_b1, RMR, ne_eq, reduceCtorEq, not_false_eq_true, Option.getD_some, if_true, if_false, and_self, false_and, and_false, Nat.add_left_cancel_iff, Nat.add_eq_left, Nat.left_eq_add, Nat.one_ne_zero, Nat.reduceAdd, Nat.reduceLT, Nat.reduceLeDiff, Nat.reduceEqDiff, true_implies, false_implies, implies_true, Option.some.injEq, forall_eq', forall_eq, reduceCtorEq, brT, brF, br_s, i_10, i_01, ib_0_2, ib_1_2, tn_0, tn_1, Int32.le_refl, eq_self, rv_bN, rv_iM, RCM 81, RLY, lit_at hw, e0, z0, e1, z1, e2, z2, e3, z3, z10, z00]
    exact hQ
  have z3 : iB (sayP t g 3) = 0 := iB_f h3
  by_cases h4 : sayP t g 4
  · rw [iB_t (kepP_t (by omega) h4)] at hQ
    have z4 : iB (sayP t g 4) = 1 := iB_t h4
    simp only [↓br_pos, ↓br_neg, ↓rF_I, ↓rF_L, ↓rF_R, ↓rF_N, rO_m, rB_m, ↓rI_m, wI_m, ↓rB2_m, ↓rB3_m, wB2_m, wB3_m, ↓rL_m, wL_m, ↓rQ_m, wQ_m, ↓lI_m, pI_m, pL_m, pR_m, sI_m, sBy_m, sBo_m, sL_m, sQ_m, fst_m, true_and, and_true, tg_some, ln_some, uI_1, uI_2, uL_1, uL_2, uL_3, uQ_1, uQ_2, uQ_3, rv_i, rv_l, rv_n, rv_b0, rv_b1, RMR, ne_eq, reduceCtorEq, not_false_eq_true, Option.getD_some, if_true, if_false, and_self, false_and, and_false, Nat.add_left_cancel_iff, Nat.add_eq_left, Nat.left_eq_add, Nat.one_ne_zero, Nat.reduceAdd, Nat.reduceLT, Nat.reduceLeDiff, Nat.reduceEqDiff, true_implies, false_implies, implies_true, Option.some.injEq, forall_eq', forall_eq, reduceCtorEq, brT, brF, br_s, i_10, i_01, ib_0_2, ib_1_2, tn_0, tn_1, Int32.le_refl, eq_self, rv_bN, rv_iM, RCM 81, RLY, lit_at hw, e0, z0, e1, z1, e2, z2, e3, z3, e4, z4, z10, z00]
    exact hQ
  have z4 : iB (sayP t g 4) = 0 := iB_f h4
  by_cases h5 : sayP t g 5
  · rw [iB_t (kepP_t (by omega) h5)] at hQ
    have z5 : iB (sayP t g 5) = 1 := iB_t h5
    simp only [↓br_pos, ↓br_neg, ↓rF_I, ↓rF_L, ↓rF_R, ↓rF_N, rO_m, rB_m, ↓rI_m, wI_m, ↓rB2_m, ↓rB3_m, wB2_m, wB3_m, ↓rL_m, wL_m, ↓rQ_m, wQ_m, ↓lI_m, pI_m, pL_m, pR_m, sI_m, sBy_m, sBo_m, sL_m, sQ_m, fst_m, true_and, and_true, tg_some, ln_some, uI_1, uI_2, uL_1, uL_2, uL_3, uQ_1, uQ_2, uQ_3, rv_i, rv_l, rv_n, rv_b0, rv_b1, RMR, ne_eq, reduceCtorEq, not_false_eq_true, Option.getD_some, if_true, if_false, and_self, false_and, and_false, Nat.add_left_cancel_iff, Nat.add_eq_left, Nat.left_eq_add, Nat.one_ne_zero, Nat.reduceAdd, Nat.reduceLT, Nat.reduceLeDiff, Nat.reduceEqDiff, true_implies, false_implies, implies_true, Option.some.injEq, forall_eq', forall_eq, reduceCtorEq, brT, brF, br_s, i_10, i_01, ib_0_2, ib_1_2, tn_0, tn_1, Int32.le_refl, eq_self, rv_bN, rv_iM, RCM 81, RLY, lit_at hw, e0, z0, e1, z1, e2, z2, e3, z3, e4, z4, e5, z5, z10, z00]
    exact hQ
  have z5 : iB (sayP t g 5) = 0 := iB_f h5
  by_cases h6 : sayP t g 6
  · rw [iB_t (kepP_t (by omega) h6)] at hQ
    have z6 : iB (sayP t g 6) = 1 := iB_t h6
    simp only [↓br_pos, ↓br_neg, ↓rF_I, ↓rF_L, ↓rF_R, ↓rF_N, rO_m, rB_m, ↓rI_m, wI_m, ↓rB2_m, ↓rB3_m, wB2_m, wB3_m, ↓rL_m, wL_m, ↓rQ_m, wQ_m, ↓lI_m, pI_m, pL_m, pR_m, sI_m, sBy_m, sBo_m, sL_m, sQ_m, fst_m, true_and, and_true, tg_some, ln_some, uI_1, uI_2, uL_1, uL_2, uL_3, uQ_1, uQ_2, uQ_3, rv_i, rv_l, rv_n, rv_b0, rv_b1, RMR, ne_eq, reduceCtorEq, not_false_eq_true, Option.getD_some, if_true, if_false, and_self, false_and, and_false, Nat.add_left_cancel_iff, Nat.add_eq_left, Nat.left_eq_add, Nat.one_ne_zero, Nat.reduceAdd, Nat.reduceLT, Nat.reduceLeDiff, Nat.reduceEqDiff, true_implies, false_implies, implies_true, Option.some.injEq, forall_eq', forall_eq, reduceCtorEq, brT, brF, br_s, i_10, i_01, ib_0_2, ib_1_2, tn_0, tn_1, Int32.le_refl, eq_self, rv_bN, rv_iM, RCM 81, RLY, lit_at hw, e0, z0, e1, z1, e2, z2, e3, z3, e4, z4, e5, z5, e6, z6, z10, z00]
    exact hQ
  have z6 : iB (sayP t g 6) = 0 := iB_f h6
  by_cases h7 : sayP t g 7
  · rw [iB_t (kepP_t (by omega) h7)] at hQ
    have z7 : iB (sayP t g 7) = 1 := iB_t h7
    simp only [↓br_pos, ↓br_neg, ↓rF_I, ↓rF_L, ↓rF_R, ↓rF_N, rO_m, rB_m, ↓rI_m, wI_m, ↓rB2_m, ↓rB3_m, wB2_m, wB3_m, ↓rL_m, wL_m, ↓rQ_m, wQ_m, ↓lI_m, pI_m, pL_m, pR_m, sI_m, sBy_m, sBo_m, sL_m, sQ_m, fst_m, true_and, and_true, tg_some, ln_some, uI_1, uI_2, uL_1, uL_2, uL_3, uQ_1, uQ_2, uQ_3, rv_i, rv_l, rv_n, rv_b0, rv_b1, RMR, ne_eq, reduceCtorEq, not_false_eq_true, Option.getD_some, if_true, if_false, and_self, false_and, and_false, Nat.add_left_cancel_iff, Nat.add_eq_left, Nat.left_eq_add, Nat.one_ne_zero, Nat.reduceAdd, Nat.reduceLT, Nat.reduceLeDiff, Nat.reduceEqDiff, true_implies, false_implies, implies_true, Option.some.injEq, forall_eq', forall_eq, reduceCtorEq, brT, brF, br_s, i_10, i_01, ib_0_2, ib_1_2, tn_0, tn_1, Int32.le_refl, eq_self, rv_bN, rv_iM, RCM 81, RLY, lit_at hw, e0, z0, e1, z1, e2, z2, e3, z3, e4, z4, e5, z5, e6, z6, e7, z7, z10, z00]
    exact hQ
  have z7 : iB (sayP t g 7) = 0 := iB_f h7
  by_cases h8 : sayP t g 8
  · rw [iB_t (kepP_t (by omega) h8)] at hQ
    have z8 : iB (sayP t g 8) = 1 := iB_t h8
    simp only [↓br_pos, ↓br_neg, ↓rF_I, ↓rF_L, ↓rF_R, ↓rF_N, rO_m, rB_m, ↓rI_m, wI_m, ↓rB2_m, ↓rB3_m, wB2_m, wB3_m, ↓rL_m, wL_m, ↓rQ_m, wQ_m, ↓lI_m, pI_m, pL_m, pR_m, sI_m, sBy_m, sBo_m, sL_m, sQ_m, fst_m, true_and, and_true, tg_some, ln_some, uI_1, uI_2, uL_1, uL_2, uL_3, uQ_1, uQ_2, uQ_3, rv_i, rv_l, rv_n, rv_b0, rv_b1, RMR, ne_eq, reduceCtorEq, not_false_eq_true, Option.getD_some, if_true, if_false, and_self, false_and, and_false, Nat.add_left_cancel_iff, Nat.add_eq_left, Nat.left_eq_add, Nat.one_ne_zero, Nat.reduceAdd, Nat.reduceLT, Nat.reduceLeDiff, Nat.reduceEqDiff, true_implies, false_implies, implies_true, Option.some.injEq, forall_eq', forall_eq, reduceCtorEq, brT, brF, br_s, i_10, i_01, ib_0_2, ib_1_2, tn_0, tn_1, Int32.le_refl, eq_self, rv_bN, rv_iM, RCM 81, RLY, lit_at hw, e0, z0, e1, z1, e2, z2, e3, z3, e4, z4, e5, z5, e6, z6, e7, z7, e8, z8, z10, z00]
    exact hQ
  have z8 : iB (sayP t g 8) = 0 := iB_f h8
  by_cases h9 : sayP t g 9
  · rw [iB_t (kepP_t (by omega) h9)] at hQ
    have z9 : iB (sayP t g 9) = 1 := iB_t h9
    simp only [↓br_pos, ↓br_neg, ↓rF_I, ↓rF_L, ↓rF_R, ↓rF_N, rO_m, rB_m, ↓rI_m, wI_m, ↓rB2_m, ↓rB3_m, wB2_m, wB3_m, ↓rL_m, wL_m, ↓rQ_m, wQ_m, ↓lI_m, pI_m, pL_m, pR_m, sI_m, sBy_m, sBo_m, sL_m, sQ_m, fst_m, true_and, and_true, tg_some, ln_some, uI_1, uI_2, uL_1, uL_2, uL_3, uQ_1, uQ_2, uQ_3, rv_i, rv_l, rv_n, rv_b0, rv_b1, RMR, ne_eq, reduceCtorEq, not_false_eq_true, Option.getD_some, if_true, if_false, and_self, false_and, and_false, Nat.add_left_cancel_iff, Nat.add_eq_left, Nat.left_eq_add, Nat.one_ne_zero, Nat.reduceAdd, Nat.reduceLT, Nat.reduceLeDiff, Nat.reduceEqDiff, true_implies, false_implies, implies_true, Option.some.injEq, forall_eq', forall_eq, reduceCtorEq, brT, brF, br_s, i_10, i_01, ib_0_2, ib_1_2, tn_0, tn_1, Int32.le_refl, eq_self, rv_bN, rv_iM, RCM 81, RLY, lit_at hw, e0, z0, e1, z1, e2, z2, e3, z3, e4, z4, e5, z5, e6, z6, e7, z7, e8, z8, e9, z9, z10, z00]
    exact hQ
  have z9 : iB (sayP t g 9) = 0 := iB_f h9
  by_cases h10 : sayP t g 10
  · rw [iB_t (kepP_t (by omega) h10)] at hQ
    have z10 : iB (sayP t g 10) = 1 := iB_t h10
    simp only [↓br_pos, ↓br_neg, ↓rF_I, ↓rF_L, ↓rF_R, ↓rF_N, rO_m, rB_m, ↓rI_m, wI_m, ↓rB2_m, ↓rB3_m, wB2_m, wB3_m, ↓rL_m, wL_m, ↓rQ_m, wQ_m, ↓lI_m, pI_m, pL_m, pR_m, sI_m, sBy_m, sBo_m, sL_m, sQ_m, fst_m, true_and, and_true, tg_some, ln_some, uI_1, uI_2, uL_1, uL_2, uL_3, uQ_1, uQ_2, uQ_3, rv_i, rv_l, rv_n, rv_b0, rv_b1, RMR, ne_eq, reduceCtorEq, not_false_eq_true, Option.getD_some, if_true, if_false, and_self, false_and, and_false, Nat.add_left_cancel_iff, Nat.add_eq_left, Nat.left_eq_add, Nat.one_ne_zero, Nat.reduceAdd, Nat.reduceLT, Nat.reduceLeDiff, Nat.reduceEqDiff, true_implies, false_implies, implies_true, Option.some.injEq, forall_eq', forall_eq, reduceCtorEq, brT, brF, br_s, i_10, i_01, ib_0_2, ib_1_2, tn_0, tn_1, Int32.le_refl, eq_self, rv_bN, rv_iM, RCM 81, RLY, lit_at hw, e0, z0, e1, z1, e2, z2, e3, z3, e4, z4, e5, z5, e6, z6, e7, z7, e8, z8, e9, z9, e10, z10, z10, z00]
    exact hQ
  have z10 : iB (sayP t g 10) = 0 := iB_f h10
  by_cases h11 : sayP t g 11
  · rw [iB_t (kepP_t (by omega) h11)] at hQ
    have z11 : iB (sayP t g 11) = 1 := iB_t h11
    simp only [↓br_pos, ↓br_neg, ↓rF_I, ↓rF_L, ↓rF_R, ↓rF_N, rO_m, rB_m, ↓rI_m, wI_m, ↓rB2_m, ↓rB3_m, wB2_m, wB3_m, ↓rL_m, wL_m, ↓rQ_m, wQ_m, ↓lI_m, pI_m, pL_m, pR_m, sI_m, sBy_m, sBo_m, sL_m, sQ_m, fst_m, true_and, and_true, tg_some, ln_some, uI_1, uI_2, uL_1, uL_2, uL_3, uQ_1, uQ_2, uQ_3, rv_i, rv_l, rv_n, rv_b0, rv_b1, RMR, ne_eq, reduceCtorEq, not_false_eq_true, Option.getD_some, if_true, if_false, and_self, false_and, and_false, Nat.add_left_cancel_iff, Nat.add_eq_left, Nat.left_eq_add, Nat.one_ne_zero, Nat.reduceAdd, Nat.reduceLT, Nat.reduceLeDiff, Nat.reduceEqDiff, true_implies, false_implies, implies_true, Option.some.injEq, forall_eq', forall_eq, reduceCtorEq, brT, brF, br_s, i_10, i_01, ib_0_2, ib_1_2, tn_0, tn_1, Int32.le_refl, eq_self, rv_bN, rv_iM, RCM 81, RLY, lit_at hw, e0, z0, e1, z1, e2, z2, e3, z3, e4, z4, e5, z5, e6, z6, e7, z7, e8, z8, e9, z9, e10, z10, e11, z11, z10, z00]
    exact hQ
  have z11 : iB (sayP t g 11) = 0 := iB_f h11
  by_cases h12 : sayP t g 12
  · rw [iB_t (kepP_t (by omega) h12)] at hQ
    have z12 : iB (sayP t g 12) = 1 := iB_t h12
    simp only [↓br_pos, ↓br_neg, ↓rF_I, ↓rF_L, ↓rF_R, ↓rF_N, rO_m, rB_m, ↓rI_m, wI_m, ↓rB2_m, ↓rB3_m, wB2_m, wB3_m, ↓rL_m, wL_m, ↓rQ_m, wQ_m, ↓lI_m, pI_m, pL_m, pR_m, sI_m, sBy_m, sBo_m, sL_m, sQ_m, fst_m, true_and, and_true, tg_some, ln_some, uI_1, uI_2, uL_1, uL_2, uL_3, uQ_1, uQ_2, uQ_3, rv_i, rv_l, rv_n, rv_b0, rv_b1, RMR, ne_eq, reduceCtorEq, not_false_eq_true, Option.getD_some, if_true, if_false, and_self, false_and, and_false, Nat.add_left_cancel_iff, Nat.add_eq_left, Nat.left_eq_add, Nat.one_ne_zero, Nat.reduceAdd, Nat.reduceLT, Nat.reduceLeDiff, Nat.reduceEqDiff, true_implies, false_implies, implies_true, Option.some.injEq, forall_eq', forall_eq, reduceCtorEq, brT, brF, br_s, i_10, i_01, ib_0_2, ib_1_2, tn_0, tn_1, Int32.le_refl, eq_self, rv_bN, rv_iM, RCM 81, RLY, lit_at hw, e0, z0, e1, z1, e2, z2, e3, z3, e4, z4, e5, z5, e6, z6, e7, z7, e8, z8, e9, z9, e10, z10, e11, z11, e12, z12, z10, z00]
    exact hQ
  have z12 : iB (sayP t g 12) = 0 := iB_f h12
  have nk : ¬ kepP t g = true := fun q => by
    unfold kepP at q
    rw [List.any_eq_true] at q
    obtain ⟨i, hi, q⟩ := q
    have hi := List.mem_range.mp hi
    have q := of_decide_eq_true q
    have c : i = 0 ∨ i = 1 ∨ i = 2 ∨ i = 3 ∨ i = 4 ∨ i = 5 ∨ i = 6 ∨ i = 7 ∨ i = 8 ∨ i = 9 ∨ i = 10 ∨ i = 11 ∨ i = 12 := by omega
    rcases c with rfl | rfl | rfl | rfl | rfl | rfl | rfl | rfl | rfl | rfl | rfl | rfl | rfl
    · exact h0 q
    · exact h1 q
    · exact h2 q
    · exact h3 q
    · exact h4 q
    · exact h5 q
    · exact h6 q
    · exact h7 q
    · exact h8 q
    · exact h9 q
    · exact h10 q
    · exact h11 q
    · exact h12 q
  rw [iB_f nk] at hQ
  simp only [↓br_pos, ↓br_neg, ↓rF_I, ↓rF_L, ↓rF_R, ↓rF_N, rO_m, rB_m, ↓rI_m, wI_m, ↓rB2_m, ↓rB3_m, wB2_m, wB3_m, ↓rL_m, wL_m, ↓rQ_m, wQ_m, ↓lI_m, pI_m, pL_m, pR_m, sI_m, sBy_m, sBo_m, sL_m, sQ_m, fst_m, true_and, and_true, tg_some, ln_some, uI_1, uI_2, uL_1, uL_2, uL_3, uQ_1, uQ_2, uQ_3, rv_i, rv_l, rv_n, rv_b0, rv_b1, RMR, ne_eq, reduceCtorEq, not_false_eq_true, Option.getD_some, if_true, if_false, and_self, false_and, and_false, Nat.add_left_cancel_iff, Nat.add_eq_left, Nat.left_eq_add, Nat.one_ne_zero, Nat.reduceAdd, Nat.reduceLT, Nat.reduceLeDiff, Nat.reduceEqDiff, true_implies, false_implies, implies_true, Option.some.injEq, forall_eq', forall_eq, reduceCtorEq, brT, brF, br_s, i_10, i_01, ib_0_2, ib_1_2, tn_0, tn_1, Int32.le_refl, eq_self, rv_bN, rv_iM, RCM 81, RLY, lit_at hw, e0, z0, e1, z1, e2, z2, e3, z3, e4, z4, e5, z5, e6, z6, e7, z7, e8, z8, e9, z9, e10, z10, e11, z11, e12, z12, z00]
  exact hQ
theorem g_136 {w : mT} {σ : mS} {s a : Nat} {x : Int32} {D : Nat} {K : Int32 → Hp → Prop} (hw : lit w) (h9 : σ.1 81 9 = 0) (h4 : σ.1 81 4 = Int32.ofNat s) (hx : x = Int32.ofNat a) (hD : 1 ≤ D) : wpI D 136 [.ref 81, .int x] (mW w σ) K ↔ K 0 (mW w (uI σ 81 9 (Int32.ofNat (8 * s + a)))) := by
  subst hx
  refine cI_of (m := 0) (fun d hd Q hQ => ?_) rfl hD
  refine b136_0 ?_
  simp only [↓br_pos, ↓br_neg, ↓rF_I, ↓rF_L, ↓rF_R, ↓rF_N, rO_m, rB_m, ↓rI_m, wI_m, ↓rB2_m, ↓rB3_m, wB2_m, wB3_m, ↓rL_m, wL_m, ↓rQ_m, wQ_m, ↓lI_m, pI_m, pL_m, pR_m, sI_m, sBy_m, sBo_m, sL_m, sQ_m, fst_m, true_and, and_true, tg_some, ln_some, uI_1, uI_2, uL_1, uL_2, uL_3, uQ_1, uQ_2, uQ_3, rv_i, rv_l, rv_n, rv_b0, rv_b1, RMR, ne_eq, reduceCtorEq, not_false_eq_true, Option.getD_some, if_true, if_false, and_self, false_and, and_false, Nat.add_left_cancel_iff, Nat.add_eq_left, Nat.left_eq_add, Nat.one_ne_zero, Nat.reduceAdd, Nat.reduceLT, Nat.reduceLeDiff, Nat.reduceEqDiff, true_implies, false_implies, implies_true, Option.some.injEq, forall_eq', forall_eq, reduceCtorEq, brT, brF, br_s, i_10, i_01, ib_0_2, ib_1_2, tn_0, tn_1, Int32.le_refl, eq_self, rv_bN, rv_iM, RCM 81, RLY, lit_at hw, h9, h4, z00, f8_of]
  exact hQ
/-- a number -/
def numF (t : Nat → Nat) (g : Rw) (low high : Int32) : Nat := if g 2 ≠ 2 then 8 * g 0 + 1 else if numV t g < low ∨ high < numV t g then 8 * g 0 + 3 else 0
theorem o_137 {w : mT} {σ : mS} {t : Nat → Nat} {n : Nat} {g : Rw} {low high : Int32} (hw : lit w) (ht : ∀ i, t i < 256) (hG : mG σ t n g) (hv : vG n g) (h0 : g 3 = 0) : ∃ σ', f8 σ σ' ∧ (numF t g low high ≠ 0 → σ'.1 81 9 = Int32.ofNat (numF t g low high)) ∧ (numF t g low high = 0 → mG σ' t n (adv t n g) ∧ σ'.1 81 10 = numV t g) ∧ ∀ {D : Nat} {K : Int32 → Hp → Prop}, 3 ≤ D → (wpI D 137 [.ref 81, .int low, .int high] (mW w σ) K ↔ K (if numF t g low high = 0 then 1 else 0) (mW w σ')) := by
  have hG' := hG
  obtain ⟨hB, h4, h5, h6, h7, h8, h9, h14, h13⟩ := hG
  have h90 : σ.1 81 9 = 0 := by rw [h9, h0]; rfl
  have k4 := hv.2.2.2
  unfold numF
  by_cases c : g 2 = 2
  · have c1 : (Int32.ofNat (g 2) = (2 : Int32)) ↔ True := iff_true_intro (by rw [c]; rfl)
    rw [if_neg (fun q => q c)]
    have e7 := h7 c
    have vi : vin (Int32.toInt64 (numV t g)) (Int32.toInt64 low) (Int32.toInt64 high) = iB (¬ (numV t g < low ∨ high < numV t g)) := by
      rw [vin_eq, Int32.toInt_toInt64, Int32.toInt_toInt64, Int32.toInt_toInt64]
      exact iB_c (by rw [i_lt, i_lt]; omega)
    by_cases y : numV t g < low ∨ high < numV t g
    · rw [if_pos y]
      have n0 : ¬ (8 * g 0 + 3 = 0) := by omega
      refine ⟨uI σ 81 9 (Int32.ofNat (8 * g 0 + 3)), f8_I (by omega), fun _ => by rw [uI_1, if_pos ⟨rfl, rfl⟩], fun q => absurd q n0, fun hD => cI_of (m := 2) (fun d hd Q hQ => ?_) rfl hD⟩
      have hd1 : 1 ≤ d := by omega
      rw [if_neg n0] at hQ
      refine b137_0 ?_
      simp only [↓br_pos, ↓br_neg, ↓rF_I, ↓rF_L, ↓rF_R, ↓rF_N, rO_m, rB_m, ↓rI_m, wI_m, ↓rB2_m, ↓rB3_m, wB2_m, wB3_m, ↓rL_m, wL_m, ↓rQ_m, wQ_m, ↓lI_m, pI_m, pL_m, pR_m, sI_m, sBy_m, sBo_m, sL_m, sQ_m, fst_m, true_and, and_true, tg_some, ln_some, uI_1, uI_2, uL_1, uL_2, uL_3, uQ_1, uQ_2, uQ_3, rv_i, rv_l, rv_n, rv_b0, rv_b1, RMR, ne_eq, reduceCtorEq, not_false_eq_true, Option.getD_some, if_true, if_false, and_self, false_and, and_false, Nat.add_left_cancel_iff, Nat.add_eq_left, Nat.left_eq_add, Nat.one_ne_zero, Nat.reduceAdd, Nat.reduceLT, Nat.reduceLeDiff, Nat.reduceEqDiff, true_implies, false_implies, implies_true, Option.some.injEq, forall_eq', forall_eq, reduceCtorEq, brT, brF, br_s, i_10, i_01, ib_0_2, ib_1_2, tn_0, tn_1, Int32.le_refl, eq_self, rv_bN, rv_iM, RCM 81, RLY, lit_at hw, h6, c1, e7, g_129 hd1, vi, iB_f (fun q : ¬ (numV t g < low ∨ high < numV t g) => q y), z00, g_136 (a := 3) (x := 3) hw h90 h4 rfl hd1]
      exact hQ
    · rw [if_neg y]
      obtain ⟨σ', f', G', q'⟩ := o_133g hw ht (mG_10 (x := numV t g) hG') hv
      refine ⟨σ', f8_tr (f8_I (by omega)) (f8_G f'), fun q => absurd rfl q, fun _ => ⟨G', by rw [f'.2.1 10 (by omega), uI_1, if_pos ⟨rfl, rfl⟩]⟩, fun hD => cI_of (m := 2) (fun d hd Q hQ => ?_) rfl hD⟩
      have hd1 : 1 ≤ d := by omega
      rw [if_pos rfl] at hQ
      refine b137_0 ?_
      simp only [↓br_pos, ↓br_neg, ↓rF_I, ↓rF_L, ↓rF_R, ↓rF_N, rO_m, rB_m, ↓rI_m, wI_m, ↓rB2_m, ↓rB3_m, wB2_m, wB3_m, ↓rL_m, wL_m, ↓rQ_m, wQ_m, ↓lI_m, pI_m, pL_m, pR_m, sI_m, sBy_m, sBo_m, sL_m, sQ_m, fst_m, true_and, and_true, tg_some, ln_some, uI_1, uI_2, uL_1, uL_2, uL_3, uQ_1, uQ_2, uQ_3, rv_i, rv_l, rv_n, rv_b0, rv_b1, RMR, ne_eq, reduceCtorEq, not_false_eq_true, Option.getD_some, if_true, if_false, and_self, false_and, and_false, Nat.add_left_cancel_iff, Nat.add_eq_left, Nat.left_eq_add, Nat.one_ne_zero, Nat.reduceAdd, Nat.reduceLT, Nat.reduceLeDiff, Nat.reduceEqDiff, true_implies, false_implies, implies_true, Option.some.injEq, forall_eq', forall_eq, reduceCtorEq, brT, brF, br_s, i_10, i_01, ib_0_2, ib_1_2, tn_0, tn_1, Int32.le_refl, eq_self, rv_bN, rv_iM, RCM 81, RLY, lit_at hw, h6, c1, e7, g_129 hd1, vi, iB_t (show ¬ (numV t g < low ∨ high < numV t g) from y), z10, q' hd]
      exact hQ
  · have c1 : (Int32.ofNat (g 2) = (2 : Int32)) ↔ False := iff_false_intro (fun q => c ((of_inj (b := 2) (by omega) (by omega)).mp q))
    rw [if_pos c]
    have n0 : ¬ (8 * g 0 + 1 = 0) := by omega
    refine ⟨uI σ 81 9 (Int32.ofNat (8 * g 0 + 1)), f8_I (by omega), fun _ => by rw [uI_1, if_pos ⟨rfl, rfl⟩], fun q => absurd q n0, fun hD => cI_of (m := 2) (fun d hd Q hQ => ?_) rfl hD⟩
    have hd1 : 1 ≤ d := by omega
    rw [if_neg n0] at hQ
    refine b137_0 ?_
    simp only [↓br_pos, ↓br_neg, ↓rF_I, ↓rF_L, ↓rF_R, ↓rF_N, rO_m, rB_m, ↓rI_m, wI_m, ↓rB2_m, ↓rB3_m, wB2_m, wB3_m, ↓rL_m, wL_m, ↓rQ_m, wQ_m, ↓lI_m, pI_m, pL_m, pR_m, sI_m, sBy_m, sBo_m, sL_m, sQ_m, fst_m, true_and, and_true, tg_some, ln_some, uI_1, uI_2, uL_1, uL_2, uL_3, uQ_1, uQ_2, uQ_3, rv_i, rv_l, rv_n, rv_b0, rv_b1, RMR, ne_eq, reduceCtorEq, not_false_eq_true, Option.getD_some, if_true, if_false, and_self, false_and, and_false, Nat.add_left_cancel_iff, Nat.add_eq_left, Nat.left_eq_add, Nat.one_ne_zero, Nat.reduceAdd, Nat.reduceLT, Nat.reduceLeDiff, Nat.reduceEqDiff, true_implies, false_implies, implies_true, Option.some.injEq, forall_eq', forall_eq, reduceCtorEq, brT, brF, br_s, i_10, i_01, ib_0_2, ib_1_2, tn_0, tn_1, Int32.le_refl, eq_self, rv_bN, rv_iM, RCM 81, RLY, lit_at hw, h6, c1, g_136 (a := 1) (x := 1) hw h90 h4 rfl hd1]
    exact hQ
/-- a number behind a word -/
theorem o_138 {w : mT} {σ : mS} {t : Nat → Nat} {n i : Nat} {g : Rw} {x low high : Int32} (hw : lit w) (ht : ∀ i, t i < 256) (hG : mG σ t n g) (hv : vG n g) (h0 : g 3 = 0) (hi : i < 13) (hx : x = WC i) : ∃ σ', f8 σ σ' ∧ (toldF t n g i low high ≠ 0 → σ'.1 81 9 = Int32.ofNat (toldF t n g i low high)) ∧ (toldF t n g i low high = 0 → mG σ' t n (gTd t n g) ∧ σ'.1 81 10 = numV t (adv t n g)) ∧ ∀ {D : Nat} {K : Int32 → Hp → Prop}, 4 ≤ D → (wpI D 138 [.ref 81, .int x, .int low, .int high] (mW w σ) K ↔ K (if toldF t n g i low high = 0 then 1 else 0) (mW w σ')) := by
  have h90 : σ.1 81 9 = 0 := by rw [hG.2.2.2.2.2.2.1, h0]; rfl
  unfold toldF
  by_cases y : sayP t g i
  · rw [if_neg (fun q => q y)]
    obtain ⟨σ1, f1, G1, q1⟩ := o_133g hw ht hG hv
    obtain ⟨σ2, f2, F2, G2, q2⟩ := o_137 (low := low) (high := high) hw ht G1 (vG_adv hv) (by rw [adv_g (by omega)]; exact h0)
    refine ⟨σ2, f8_tr (f8_G f1) f2, F2, G2, fun hD => cI_of (m := 3) (fun d hd Q hQ => ?_) rfl hD⟩
    have hd1 : 1 ≤ d := by omega
    have hd2 : 2 ≤ d := by omega
    refine b138_0 ?_
    simp only [↓br_pos, ↓br_neg, ↓rF_I, ↓rF_L, ↓rF_R, ↓rF_N, rO_m, rB_m, ↓rI_m, wI_m, ↓rB2_m, ↓rB3_m, wB2_m, wB3_m, ↓rL_m, wL_m, ↓rQ_m, wQ_m, ↓lI_m, pI_m, pL_m, pR_m, sI_m, sBy_m, sBo_m, sL_m, sQ_m, fst_m, true_and, and_true, tg_some, ln_some, uI_1, uI_2, uL_1, uL_2, uL_3, uQ_1, uQ_2, uQ_3, rv_i, rv_l, rv_n, rv_b0, rv_b1, RMR, ne_eq, reduceCtorEq, not_false_eq_true, Option.getD_some, if_true, if_false, and_self, false_and, and_false, Nat.add_left_cancel_iff, Nat.add_eq_left, Nat.left_eq_add, Nat.one_ne_zero, Nat.reduceAdd, Nat.reduceLT, Nat.reduceLeDiff, Nat.reduceEqDiff, true_implies, false_implies, implies_true, Option.some.injEq, forall_eq', forall_eq, reduceCtorEq, brT, brF, br_s, i_10, i_01, ib_0_2, ib_1_2, tn_0, tn_1, Int32.le_refl, eq_self, rv_bN, rv_iM, RCM 81, RLY, lit_at hw, g_134 hw hG hv hi hx hd1, iB_t y, z10, q1 hd2, q2 hd]
    exact ⟨by split <;> rfl, hQ⟩
  · rw [if_pos y]
    have n0 : ¬ (8 * g 0 + 1 = 0) := by omega
    refine ⟨uI σ 81 9 (Int32.ofNat (8 * g 0 + 1)), f8_I (by omega), fun _ => by rw [uI_1, if_pos ⟨rfl, rfl⟩], fun q => absurd q n0, fun hD => cI_of (m := 3) (fun d hd Q hQ => ?_) rfl hD⟩
    have hd1 : 1 ≤ d := by omega
    rw [if_neg n0] at hQ
    refine b138_0 ?_
    simp only [↓br_pos, ↓br_neg, ↓rF_I, ↓rF_L, ↓rF_R, ↓rF_N, rO_m, rB_m, ↓rI_m, wI_m, ↓rB2_m, ↓rB3_m, wB2_m, wB3_m, ↓rL_m, wL_m, ↓rQ_m, wQ_m, ↓lI_m, pI_m, pL_m, pR_m, sI_m, sBy_m, sBo_m, sL_m, sQ_m, fst_m, true_and, and_true, tg_some, ln_some, uI_1, uI_2, uL_1, uL_2, uL_3, uQ_1, uQ_2, uQ_3, rv_i, rv_l, rv_n, rv_b0, rv_b1, RMR, ne_eq, reduceCtorEq, not_false_eq_true, Option.getD_some, if_true, if_false, and_self, false_and, and_false, Nat.add_left_cancel_iff, Nat.add_eq_left, Nat.left_eq_add, Nat.one_ne_zero, Nat.reduceAdd, Nat.reduceLT, Nat.reduceLeDiff, Nat.reduceEqDiff, true_implies, false_implies, implies_true, Option.some.injEq, forall_eq', forall_eq, reduceCtorEq, brT, brF, br_s, i_10, i_01, ib_0_2, ib_1_2, tn_0, tn_1, Int32.le_refl, eq_self, rv_bN, rv_iM, RCM 81, RLY, lit_at hw, g_134 hw hG hv hi hx hd1, iB_f y, z00, g_136 (a := 1) (x := 1) hw h90 hG.2.1 rfl hd1]
    exact hQ
/-- names: as the class's, and as the model's -/
def nmR (σ : mS) (t : Nat → Nat) (k : Nat) (nm : Nat → Int32) : Prop := ∀ i, i < k → ∃ s l, l ≤ 6 ∧ ltG t s l ∧ nm i = ncI t s l ∧ σ.1 84 (79 + i) = mcI t s l
theorem nmR_c {σ σ' : mS} {t : Nat → Nat} {k : Nat} {nm : Nat → Int32} (h : nmR σ t k nm) (e : ∀ i, i < k → σ'.1 84 (79 + i) = σ.1 84 (79 + i)) : nmR σ' t k nm := fun i hi => by
  obtain ⟨s, l, a, b, c, q⟩ := h i hi
  exact ⟨s, l, a, b, c, by rw [e i hi]; exact q⟩
theorem dup_t {nm : Nat → Int32} {k : Nat} {c : Int32} (h : ∃ i, i < k ∧ nm i = c) : dupP nm k c = true := by
  obtain ⟨i, a, b⟩ := h
  unfold dupP
  rw [List.any_eq_true]
  exact ⟨i, List.mem_range.mpr a, decide_eq_true b⟩
theorem ad_79 {p : Nat} : (79 : Int32) + Int32.ofNat p = Int32.ofNat (79 + p) := of_add (a := 79)
theorem lp_139 {w : mT} {σ : mS} {t : Nat → Nat} {n d : Nat} {g : Rw} {nm : Nat → Int32} {Q : Option (Option Value) → Hp → Prop} (hw : lit w) (hG : mG σ t n g) (h50 : g 5 ≤ 22) (hk : g 2 = 1) (h6 : g 1 - g 0 ≤ 6) (hN : nmR σ t (g 5) nm) (hd : 1 ≤ d) (h0 : g 3 = 0) (hy : (∃ i, i < g 5 ∧ nm i = cdN t g) → Q (some (some (.int 0))) (mW w (uI σ 81 9 (Int32.ofNat (8 * g 0 + 2))))) (hn : dupP nm (g 5) (cdN t g) = false → wpV d 133 [.ref 81] (mW w (uI (uI σ 84 (79 + g 5) (mcI t (g 0) (g 1 - g 0))) 81 13 (Int32.ofNat (g 5 + 1)))) (fun h6 => Q (some (some (.int (1 : Int32)))) h6)) (hdup : dupP nm (g 5) (cdN t g) = false ∨ ∃ i, i < g 5 ∧ nm i = cdN t g) : ∀ (r i : Nat), i + r = g 5 → (∀ j, j < i → nm j ≠ cdN t g) → Wp 139 31 [.ref 81, .int (Int32.ofNat i)] [] (mW w σ) Q d := by
  obtain ⟨hB, h4, h5, h6', h7, h8, h9, h14, h13⟩ := hG
  obtain ⟨e8, hL⟩ := h8 hk
  have h90 : σ.1 81 9 = 0 := by rw [h9, h0]; rfl
  have w8 : σ.1 81 8 = mcI t (g 0) (g 1 - g 0) := by rw [e8]; unfold wM; rw [if_pos h6]
  intro r
  induction r with
  | zero =>
    intro i hi hne
    have hi' : i = g 5 := by omega
    subst hi'
    have dn : dupP nm (g 5) (cdN t g) = false := hdup.resolve_right (fun q => by
      obtain ⟨j, j1, j2⟩ := q
      exact hne j j1 j2)
    refine b139_31 ?_
    simp only [↓br_pos, ↓br_neg, ↓rF_I, ↓rF_L, ↓rF_R, ↓rF_N, rO_m, rB_m, ↓rI_m, wI_m, ↓rB2_m, ↓rB3_m, wB2_m, wB3_m, ↓rL_m, wL_m, ↓rQ_m, wQ_m, ↓lI_m, pI_m, pL_m, pR_m, sI_m, sBy_m, sBo_m, sL_m, sQ_m, fst_m, true_and, and_true, tg_some, ln_some, uI_1, uI_2, uL_1, uL_2, uL_3, uQ_1, uQ_2, uQ_3, rv_i, rv_l, rv_n, rv_b0, rv_b1, RMR, ne_eq, reduceCtorEq, not_false_eq_true, Option.getD_some, if_true, if_false, and_self, false_and, and_false, Nat.add_left_cancel_iff, Nat.add_eq_left, Nat.left_eq_add, Nat.one_ne_zero, Nat.reduceAdd, Nat.reduceLT, Nat.reduceLeDiff, Nat.reduceEqDiff, true_implies, false_implies, implies_true, Option.some.injEq, forall_eq', forall_eq, reduceCtorEq, brT, brF, br_s, i_10, i_01, ib_0_2, ib_1_2, tn_0, tn_1, Int32.le_refl, eq_self, rv_bN, rv_iM, RCM 81, RLY, lit_at hw, h13, Int32.le_refl, w8, ad_79, ix (by omega : 79 + g 5 < 102) (by omega), on_succ]
    exact hn dn
  | succ r ih =>
    intro i hi hne
    have l1 : (Int32.ofNat (g 5) ≤ Int32.ofNat i) ↔ False := iff_false_intro (fun q => absurd ((on_le (by omega) (by omega)).mp q) (by omega))
    obtain ⟨s, l, a, b, c, e⟩ := hN i (by omega)
    have iff := nm_iff b hL a h6
    refine b139_31 ?_
    by_cases y : nm i = cdN t g
    · have c1 : (mcI t s l = mcI t (g 0) (g 1 - g 0)) ↔ True := iff_true_intro (iff.mp (by rw [← c]; exact y))
      simp only [↓br_pos, ↓br_neg, ↓rF_I, ↓rF_L, ↓rF_R, ↓rF_N, rO_m, rB_m, ↓rI_m, wI_m, ↓rB2_m, ↓rB3_m, wB2_m, wB3_m, ↓rL_m, wL_m, ↓rQ_m, wQ_m, ↓lI_m, pI_m, pL_m, pR_m, sI_m, sBy_m, sBo_m, sL_m, sQ_m, fst_m, true_and, and_true, tg_some, ln_some, uI_1, uI_2, uL_1, uL_2, uL_3, uQ_1, uQ_2, uQ_3, rv_i, rv_l, rv_n, rv_b0, rv_b1, RMR, ne_eq, reduceCtorEq, not_false_eq_true, Option.getD_some, if_true, if_false, and_self, false_and, and_false, Nat.add_left_cancel_iff, Nat.add_eq_left, Nat.left_eq_add, Nat.one_ne_zero, Nat.reduceAdd, Nat.reduceLT, Nat.reduceLeDiff, Nat.reduceEqDiff, true_implies, false_implies, implies_true, Option.some.injEq, forall_eq', forall_eq, reduceCtorEq, brT, brF, br_s, i_10, i_01, ib_0_2, ib_1_2, tn_0, tn_1, Int32.le_refl, eq_self, rv_bN, rv_iM, RCM 81, RLY, lit_at hw, h13, l1, ad_79, ix (by omega : 79 + i < 102) (by omega), e, w8, c1, g_136 (a := 2) (x := 2) hw h90 h4 rfl hd]
      exact hy ⟨i, by omega, y⟩
    · have c1 : (mcI t s l = mcI t (g 0) (g 1 - g 0)) ↔ False := iff_false_intro (fun q => y (by rw [c]; exact iff.mpr q))
      simp only [↓br_pos, ↓br_neg, ↓rF_I, ↓rF_L, ↓rF_R, ↓rF_N, rO_m, rB_m, ↓rI_m, wI_m, ↓rB2_m, ↓rB3_m, wB2_m, wB3_m, ↓rL_m, wL_m, ↓rQ_m, wQ_m, ↓lI_m, pI_m, pL_m, pR_m, sI_m, sBy_m, sBo_m, sL_m, sQ_m, fst_m, true_and, and_true, tg_some, ln_some, uI_1, uI_2, uL_1, uL_2, uL_3, uQ_1, uQ_2, uQ_3, rv_i, rv_l, rv_n, rv_b0, rv_b1, RMR, ne_eq, reduceCtorEq, not_false_eq_true, Option.getD_some, if_true, if_false, and_self, false_and, and_false, Nat.add_left_cancel_iff, Nat.add_eq_left, Nat.left_eq_add, Nat.one_ne_zero, Nat.reduceAdd, Nat.reduceLT, Nat.reduceLeDiff, Nat.reduceEqDiff, true_implies, false_implies, implies_true, Option.some.injEq, forall_eq', forall_eq, reduceCtorEq, brT, brF, br_s, i_10, i_01, ib_0_2, ib_1_2, tn_0, tn_1, Int32.le_refl, eq_self, rv_bN, rv_iM, RCM 81, RLY, lit_at hw, h13, l1, ad_79, ix (by omega : 79 + i < 102) (by omega), e, w8, c1, on_succ]
      exact ih (i + 1) (by omega) (fun j hj => by
        by_cases x : j = i
        · rw [x]; exact y
        · exact hne j (by omega))
theorem o_139 {w : mT} {σ : mS} {t : Nat → Nat} {n : Nat} {g : Rw} {nm : Nat → Int32} (hw : lit w) (ht : ∀ i, t i < 256) (hG : mG σ t n g) (hv : vG n g) (h0 : g 3 = 0) (h50 : g 5 ≤ 22) (hN : nmR σ t (g 5) nm) : ∃ σ', fQ σ σ' ∧ (∀ j, j < 79 → σ'.1 84 j = σ.1 84 j) ∧ (nameF t g nm ≠ 0 → σ'.1 81 9 = Int32.ofNat (nameF t g nm)) ∧ (nameF t g nm = 0 → mG σ' t n (gNm t n g) ∧ nmR σ' t (g 5 + 1) (nmS nm (g 5) (cdN t g))) ∧ ∀ {D : Nat} {K : Int32 → Hp → Prop}, 3 ≤ D → (wpI D 139 [.ref 81] (mW w σ) K ↔ K (if nameF t g nm = 0 then 1 else 0) (mW w σ')) := by
  have hG' := hG
  obtain ⟨hB, h4, h5, h6, h7, h8, h9, h14, h13⟩ := hG
  have h90 : σ.1 81 9 = 0 := by rw [h9, h0]; rfl
  have k4 := hv.2.2.2
  have bad : ∀ a, a ≠ 0 → nameF t g nm = 8 * g 0 + a → ∃ σ', fQ σ σ' ∧ (∀ j, j < 79 → σ'.1 84 j = σ.1 84 j) ∧ (nameF t g nm ≠ 0 → σ'.1 81 9 = Int32.ofNat (nameF t g nm)) ∧ (nameF t g nm = 0 → mG σ' t n (gNm t n g) ∧ nmR σ' t (g 5 + 1) (nmS nm (g 5) (cdN t g))) ∧ σ' = uI σ 81 9 (Int32.ofNat (8 * g 0 + a)) := fun a ha e => ⟨_, fQ_8 (f8_I (by omega)), fun j _ => by rw [uI_1, if_neg (by omega)], fun _ => by rw [uI_1, if_pos ⟨rfl, rfl⟩, e], fun q => by omega, rfl⟩
  by_cases c : g 2 = 1
  · have c1 : (Int32.ofNat (g 2) = (1 : Int32)) ↔ True := iff_true_intro (by rw [c]; rfl)
    obtain ⟨e8, hL⟩ := h8 c
    have wm := wM_m1 hL
    by_cases y : 6 < g 1 - g 0
    · have e : nameF t g nm = 8 * g 0 + 1 := by unfold nameF; rw [if_pos (Or.inr (Or.inl y))]
      obtain ⟨σ', a1, a2, a3, a4, rfl⟩ := bad 1 (by omega) e
      refine ⟨_, a1, a2, a3, a4, fun hD => cI_of (m := 2) (fun d hd Q hQ => ?_) rfl hD⟩
      have hd1 : 1 ≤ d := by omega
      rw [if_neg (by omega)] at hQ
      have c2 := iff_true_intro (wm.mpr y)
      refine b139_0 ?_
      simp only [↓br_pos, ↓br_neg, ↓rF_I, ↓rF_L, ↓rF_R, ↓rF_N, rO_m, rB_m, ↓rI_m, wI_m, ↓rB2_m, ↓rB3_m, wB2_m, wB3_m, ↓rL_m, wL_m, ↓rQ_m, wQ_m, ↓lI_m, pI_m, pL_m, pR_m, sI_m, sBy_m, sBo_m, sL_m, sQ_m, fst_m, true_and, and_true, tg_some, ln_some, uI_1, uI_2, uL_1, uL_2, uL_3, uQ_1, uQ_2, uQ_3, rv_i, rv_l, rv_n, rv_b0, rv_b1, RMR, ne_eq, reduceCtorEq, not_false_eq_true, Option.getD_some, if_true, if_false, and_self, false_and, and_false, Nat.add_left_cancel_iff, Nat.add_eq_left, Nat.left_eq_add, Nat.one_ne_zero, Nat.reduceAdd, Nat.reduceLT, Nat.reduceLeDiff, Nat.reduceEqDiff, true_implies, false_implies, implies_true, Option.some.injEq, forall_eq', forall_eq, reduceCtorEq, brT, brF, br_s, i_10, i_01, ib_0_2, ib_1_2, tn_0, tn_1, Int32.le_refl, eq_self, rv_bN, rv_iM, RCM 81, RLY, lit_at hw, h6, c1, e8, c2, g_136 (a := 1) (x := 1) hw h90 h4 rfl hd1]
      exact hQ
    · have c2 := iff_false_intro (fun q => y (wm.mp q))
      by_cases z : kepP t g = true
      · have e : nameF t g nm = 8 * g 0 + 1 := by unfold nameF; rw [if_pos (Or.inr (Or.inr z))]
        obtain ⟨σ', a1, a2, a3, a4, rfl⟩ := bad 1 (by omega) e
        refine ⟨_, a1, a2, a3, a4, fun hD => cI_of (m := 2) (fun d hd Q hQ => ?_) rfl hD⟩
        have hd1 : 1 ≤ d := by omega
        rw [if_neg (by omega)] at hQ
        refine b139_0 ?_
        simp only [↓br_pos, ↓br_neg, ↓rF_I, ↓rF_L, ↓rF_R, ↓rF_N, rO_m, rB_m, ↓rI_m, wI_m, ↓rB2_m, ↓rB3_m, wB2_m, wB3_m, ↓rL_m, wL_m, ↓rQ_m, wQ_m, ↓lI_m, pI_m, pL_m, pR_m, sI_m, sBy_m, sBo_m, sL_m, sQ_m, fst_m, true_and, and_true, tg_some, ln_some, uI_1, uI_2, uL_1, uL_2, uL_3, uQ_1, uQ_2, uQ_3, rv_i, rv_l, rv_n, rv_b0, rv_b1, RMR, ne_eq, reduceCtorEq, not_false_eq_true, Option.getD_some, if_true, if_false, and_self, false_and, and_false, Nat.add_left_cancel_iff, Nat.add_eq_left, Nat.left_eq_add, Nat.one_ne_zero, Nat.reduceAdd, Nat.reduceLT, Nat.reduceLeDiff, Nat.reduceEqDiff, true_implies, false_implies, implies_true, Option.some.injEq, forall_eq', forall_eq, reduceCtorEq, brT, brF, br_s, i_10, i_01, ib_0_2, ib_1_2, tn_0, tn_1, Int32.le_refl, eq_self, rv_bN, rv_iM, RCM 81, RLY, lit_at hw, h6, c1, e8, c2, g_135 hw hG' hv hd, iB_t z, z10, g_136 (a := 1) (x := 1) hw h90 h4 rfl hd1]
        exact hQ
      · have nf : ¬ (g 2 ≠ 1 ∨ 6 < g 1 - g 0 ∨ kepP t g = true) := fun q => q.elim (fun q => q c) (fun q => q.elim y z)
        cases u : dupP nm (g 5) (cdN t g) with
        | true =>
          have e : nameF t g nm = 8 * g 0 + 2 := by unfold nameF; rw [if_neg nf, if_pos (show dupP nm (g 5) (ncI t (g 0) (g 1 - g 0)) = true from u)]
          obtain ⟨σ', a1, a2, a3, a4, rfl⟩ := bad 2 (by omega) e
          refine ⟨_, a1, a2, a3, a4, fun hD => cI_of (m := 2) (fun d hd Q hQ => ?_) rfl hD⟩
          have hd1 : 1 ≤ d := by omega
          rw [if_neg (by omega)] at hQ
          have ex : ∃ i, i < g 5 ∧ nm i = cdN t g := by
            unfold dupP at u
            rw [List.any_eq_true] at u
            obtain ⟨i, hi, q⟩ := u
            exact ⟨i, List.mem_range.mp hi, of_decide_eq_true q⟩
          refine b139_0 ?_
          simp only [↓br_pos, ↓br_neg, ↓rF_I, ↓rF_L, ↓rF_R, ↓rF_N, rO_m, rB_m, ↓rI_m, wI_m, ↓rB2_m, ↓rB3_m, wB2_m, wB3_m, ↓rL_m, wL_m, ↓rQ_m, wQ_m, ↓lI_m, pI_m, pL_m, pR_m, sI_m, sBy_m, sBo_m, sL_m, sQ_m, fst_m, true_and, and_true, tg_some, ln_some, uI_1, uI_2, uL_1, uL_2, uL_3, uQ_1, uQ_2, uQ_3, rv_i, rv_l, rv_n, rv_b0, rv_b1, RMR, ne_eq, reduceCtorEq, not_false_eq_true, Option.getD_some, if_true, if_false, and_self, false_and, and_false, Nat.add_left_cancel_iff, Nat.add_eq_left, Nat.left_eq_add, Nat.one_ne_zero, Nat.reduceAdd, Nat.reduceLT, Nat.reduceLeDiff, Nat.reduceEqDiff, true_implies, false_implies, implies_true, Option.some.injEq, forall_eq', forall_eq, reduceCtorEq, brT, brF, br_s, i_10, i_01, ib_0_2, ib_1_2, tn_0, tn_1, Int32.le_refl, eq_self, rv_bN, rv_iM, RCM 81, RLY, lit_at hw, h6, c1, e8, c2, g_135 hw hG' hv hd, iB_f z, z00]
          exact lp_139 hw hG' h50 c (by omega) hN hd1 h0 (fun _ => hQ) (fun q => absurd (u.symm.trans q) (by decide)) (Or.inr ex) (g 5) 0 (by omega) (fun j hj => by omega)
        | false =>
          have e : nameF t g nm = 0 := by unfold nameF; rw [if_neg nf, if_neg (by show ¬ dupP nm (g 5) (cdN t g) = true; rw [u]; decide)]
          rw [e]
          have fD : fQ σ (uI (uI σ 84 (79 + g 5) (mcI t (g 0) (g 1 - g 0))) 81 13 (Int32.ofNat (g 5 + 1))) := fQ_tr fQ_D (fQ_8 (f8_I (by omega)))
          have B2 : mBy (uI (uI σ 84 (79 + g 5) (mcI t (g 0) (g 1 - g 0))) 81 13 (Int32.ofNat (g 5 + 1))) t n := ⟨fun i hi => by rw [uI_o (by omega), uI_o (by omega)]; exact hB.1 i hi, by rw [uI_1, if_neg (by omega), uI_1, if_neg (by omega)]; exact hB.2⟩
          obtain ⟨σ', f', G', q'⟩ := o_133 (g := rSet g 5 (g 5 + 1)) hw ht hv.2.2.1 B2 (by rw [uI_1, if_neg (by omega), uI_1, if_neg (by omega), rS_ne (by omega)]; exact h5) (by rw [uI_1, if_neg (by omega), uI_1, if_neg (by omega), rS_ne (by omega)]; exact h9) (by rw [uI_1, if_neg (by omega), uI_1, if_neg (by omega), rS_ne (by omega)]; exact h14) (by rw [uI_1, if_pos ⟨rfl, rfl⟩, rS_eq]) (by rw [rS_ne (by omega)]; exact hv.2.1)
          have k84 : ∀ j, σ'.1 84 j = if j = 79 + g 5 then mcI t (g 0) (g 1 - g 0) else σ.1 84 j := fun j => by
            rw [f'.1 84 (by omega), uI_1, if_neg (by omega), uI_1]
            by_cases x : j = 79 + g 5
            · rw [if_pos ⟨rfl, x⟩, if_pos x]
            · rw [if_neg (fun q => x q.2), if_neg x]
          refine ⟨σ', fQ_tr fD (fQ_8 (f8_G f')), fun j hj => by rw [k84, if_neg (by omega)], fun q => absurd rfl q, fun _ => ⟨G', fun i hi => ?_⟩, fun hD => cI_of (m := 2) (fun d hd Q hQ => ?_) rfl hD⟩
          · unfold nmS
            rw [k84]
            by_cases x : i = g 5
            · rw [if_pos x, if_pos (by omega)]
              exact ⟨g 0, g 1 - g 0, by omega, hL, rfl, rfl⟩
            · rw [if_neg x, if_neg (by omega)]
              exact hN i (by omega)
          · have hd1 : 1 ≤ d := by omega
            rw [if_pos rfl] at hQ
            refine b139_0 ?_
            simp only [↓br_pos, ↓br_neg, ↓rF_I, ↓rF_L, ↓rF_R, ↓rF_N, rO_m, rB_m, ↓rI_m, wI_m, ↓rB2_m, ↓rB3_m, wB2_m, wB3_m, ↓rL_m, wL_m, ↓rQ_m, wQ_m, ↓lI_m, pI_m, pL_m, pR_m, sI_m, sBy_m, sBo_m, sL_m, sQ_m, fst_m, true_and, and_true, tg_some, ln_some, uI_1, uI_2, uL_1, uL_2, uL_3, uQ_1, uQ_2, uQ_3, rv_i, rv_l, rv_n, rv_b0, rv_b1, RMR, ne_eq, reduceCtorEq, not_false_eq_true, Option.getD_some, if_true, if_false, and_self, false_and, and_false, Nat.add_left_cancel_iff, Nat.add_eq_left, Nat.left_eq_add, Nat.one_ne_zero, Nat.reduceAdd, Nat.reduceLT, Nat.reduceLeDiff, Nat.reduceEqDiff, true_implies, false_implies, implies_true, Option.some.injEq, forall_eq', forall_eq, reduceCtorEq, brT, brF, br_s, i_10, i_01, ib_0_2, ib_1_2, tn_0, tn_1, Int32.le_refl, eq_self, rv_bN, rv_iM, RCM 81, RLY, lit_at hw, h6, c1, e8, c2, g_135 hw hG' hv hd, iB_f z, z00]
            refine lp_139 hw hG' h50 c (by omega) hN hd1 h0 (fun q => absurd (dup_t q) (by rw [u]; decide)) (fun _ => ?_) (Or.inl u) (g 5) 0 (by omega) (fun j hj => by omega)
            exact (q' hd).mpr hQ
  · have c1 : (Int32.ofNat (g 2) = (1 : Int32)) ↔ False := iff_false_intro (fun q => c ((of_inj (b := 1) (by omega) (by omega)).mp q))
    have e : nameF t g nm = 8 * g 0 + 1 := by unfold nameF; rw [if_pos (Or.inl c)]
    obtain ⟨σ', a1, a2, a3, a4, rfl⟩ := bad 1 (by omega) e
    refine ⟨_, a1, a2, a3, a4, fun hD => cI_of (m := 2) (fun d hd Q hQ => ?_) rfl hD⟩
    have hd1 : 1 ≤ d := by omega
    rw [if_neg (by omega)] at hQ
    refine b139_0 ?_
    simp only [↓br_pos, ↓br_neg, ↓rF_I, ↓rF_L, ↓rF_R, ↓rF_N, rO_m, rB_m, ↓rI_m, wI_m, ↓rB2_m, ↓rB3_m, wB2_m, wB3_m, ↓rL_m, wL_m, ↓rQ_m, wQ_m, ↓lI_m, pI_m, pL_m, pR_m, sI_m, sBy_m, sBo_m, sL_m, sQ_m, fst_m, true_and, and_true, tg_some, ln_some, uI_1, uI_2, uL_1, uL_2, uL_3, uQ_1, uQ_2, uQ_3, rv_i, rv_l, rv_n, rv_b0, rv_b1, RMR, ne_eq, reduceCtorEq, not_false_eq_true, Option.getD_some, if_true, if_false, and_self, false_and, and_false, Nat.add_left_cancel_iff, Nat.add_eq_left, Nat.left_eq_add, Nat.one_ne_zero, Nat.reduceAdd, Nat.reduceLT, Nat.reduceLeDiff, Nat.reduceEqDiff, true_implies, false_implies, implies_true, Option.some.injEq, forall_eq', forall_eq, reduceCtorEq, brT, brF, br_s, i_10, i_01, ib_0_2, ib_1_2, tn_0, tn_1, Int32.le_refl, eq_self, rv_bN, rv_iM, RCM 81, RLY, lit_at hw, h6, c1, g_136 (a := 1) (x := 1) hw h90 h4 rfl hd1]
    exact hQ
