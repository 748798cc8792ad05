def rShp (t : Nat → Nat) (n : Nat) (g : Rw) (nm : Nat → Int32) (τ : Rw) : Res :=
  if 8 ≤ τ 2 then (8 * g 0 + 4, g, nm, τ)
  else if nameF t (adv t n g) nm ≠ 0 then (nameF t (adv t n g) nm, g, nm, τ)
  else if toldF t n (gNm t n (adv t n g)) 7 1 999 ≠ 0 then (toldF t n (gNm t n (adv t n g)) 7 1 999, g, nm, τ)
  else if toldF t n (gTd t n (gNm t n (adv t n g))) 8 0 999 ≠ 0 then (toldF t n (gTd t n (gNm t n (adv t n g))) 8 0 999, g, nm, τ)
  else if toldF t n (gTd t n (gTd t n (gNm t n (adv t n g)))) 9 (numV t (adv t n (gTd t n (gNm t n (adv t n g))))) 999 ≠ 0 then (toldF t n (gTd t n (gTd t n (gNm t n (adv t n g)))) 9 (numV t (adv t n (gTd t n (gNm t n (adv t n g))))) 999, g, nm, τ)
  else if toldF t n (gTd t n (gTd t n (gTd t n (gNm t n (adv t n g))))) 10 1 99 ≠ 0 then (toldF t n (gTd t n (gTd t n (gTd t n (gNm t n (adv t n g))))) 10 1 99, g, nm, τ)
  else if toldF t n (gTd t n (gTd t n (gTd t n (gTd t n (gNm t n (adv t n g)))))) 11 1 20 ≠ 0 then (toldF t n (gTd t n (gTd t n (gTd t n (gTd t n (gNm t n (adv t n g)))))) 11 1 20, g, nm, τ)
  else if ¬ sayP t (gTd t n (gTd t n (gTd t n (gTd t n (gTd t n (gNm t n (adv t n g))))))) 12 then (0, (gTd t n (gTd t n (gTd t n (gTd t n (gTd t n (gNm t n (adv t n g))))))), nmS nm (adv t n g 5) (cdN t (adv t n g)), tShp τ (nN t (adv t n (gNm t n (adv t n g)))) (nN t (adv t n (gTd t n (gNm t n (adv t n g))))) (nN t (adv t n (gTd t n (gTd t n (gNm t n (adv t n g)))))) (nN t (adv t n (gTd t n (gTd t n (gTd t n (gNm t n (adv t n g))))))) (nN t (adv t n (gTd t n (gTd t n (gTd t n (gTd t n (gNm t n (adv t n g)))))))) 0)
  else if toldF t n (gTd t n (gTd t n (gTd t n (gTd t n (gTd t n (gNm t n (adv t n g))))))) 12 0 999 ≠ 0 then (toldF t n (gTd t n (gTd t n (gTd t n (gTd t n (gTd t n (gNm t n (adv t n g))))))) 12 0 999, g, nm, τ)
  else (0, (gTd t n (gTd t n (gTd t n (gTd t n (gTd t n (gTd t n (gNm t n (adv t n g)))))))), nmS nm (adv t n g 5) (cdN t (adv t n g)), tShp τ (nN t (adv t n (gNm t n (adv t n g)))) (nN t (adv t n (gTd t n (gNm t n (adv t n g))))) (nN t (adv t n (gTd t n (gTd t n (gNm t n (adv t n g)))))) (nN t (adv t n (gTd t n (gTd t n (gTd t n (gNm t n (adv t n g))))))) (nN t (adv t n (gTd t n (gTd t n (gTd t n (gTd t n (gNm t n (adv t n g)))))))) (nN t (adv t n (gTd t n (gTd t n (gTd t n (gTd t n (gTd t n (gNm t n (adv t n g))))))))))
theorem g_29_15 {w : mT} {σ : mS} {t : Nat → Nat} {n : Nat} {g τ : Rw} {nm : Nat → Int32} (hw : lit w) (ht : ∀ i, t i < 256) (hS : rS σ t n 15 g nm τ) (hV : rV n g τ) : ∃ σ', frX 15 σ σ' ∧ σ'.1 2 5 = Int32.ofNat (rLot t n g nm τ).1 ∧ σ'.1 15 0 = σ.1 15 0 ∧ ((rLot t n g nm τ).1 = 0 → rS σ' t n 15 (rLot t n g nm τ).2.1 (rLot t n g nm τ).2.2.1 (rLot t n g nm τ).2.2.2 ∧ rV n (rLot t n g nm τ).2.1 (rLot t n g nm τ).2.2.2) ∧ ∀ {D : Nat} {K : Hp → Prop}, 5 ≤ D → (wpV D 29 [.ref 2] (mW w σ) K ↔ K (mW w σ')) := by
  obtain ⟨hG, hN, hT, h7⟩ := hS
  obtain ⟨vg, h03, hv, h5⟩ := hV
  have c0 := hT.2.1
  have v0 := hv.1
  have v1 := hv.2.1
  have v2 := hv.2.2.1
  have h50 : σ.1 2 5 = 0 := by rw [hG.2.2.2.2.2.1, h03]; rfl
  have ll := on_lt (i := τ 0) (j := 12) (by omega) (by omega)
  by_cases a : 12 ≤ τ 0
  · have eR : (rLot t n g nm τ) = (8 * g 0 + 4, g, nm, τ) := if_pos a
    have l12 : (Int32.ofNat (τ 0) < (12 : Int32)) ↔ False := iff_false_intro (fun q => absurd (ll.mp q) (by omega))
    refine ⟨uI σ 2 5 (8 * Int32.ofNat (g 0) + 4), frX_I (by omega), by rw [eR, uI_1, if_pos ⟨rfl, rfl⟩]; exact f8_of, by rw [uI_1, if_neg (by omega)], fun q => absurd q (by rw [eR]; show ¬ 8 * g 0 + 4 = 0; omega), fun hD => cV_of (m := 4) (fun d hd Q hQ => ?_) rfl hD⟩
    have hd1 : 1 ≤ d := by omega
    have hd2 : 2 ≤ d := by omega
    have hd3 : 3 ≤ d := by omega
    have hd4 : 4 ≤ d := by omega
    refine b29_0 ?_
    simp only [↓br_pos, ↓br_neg, ↓rF_I, ↓rF_L, ↓rF_R, ↓rF_N, rO_m, rB_m, ↓rI_m, wI_m, ↓rB2_m, ↓rB3_m, wB2_m, wB3_m, ↓rL_m, wL_m, ↓rQ_m, wQ_m, ↓lI_m, pI_m, pL_m, pR_m, sI_m, sBy_m, sBo_m, sL_m, sQ_m, fst_m, true_and, and_true, tg_some, ln_some, uI_1, uI_2, uL_1, uL_2, uL_3, uQ_1, uQ_2, uQ_3, rv_i, rv_l, rv_n, rv_b0, rv_b1, RMR, ne_eq, reduceCtorEq, not_false_eq_true, Option.getD_some, if_true, if_false, and_self, false_and, and_false, Nat.add_left_cancel_iff, Nat.add_eq_left, Nat.left_eq_add, Nat.one_ne_zero, Nat.reduceAdd, Nat.reduceLT, Nat.reduceLeDiff, Nat.reduceEqDiff, true_implies, false_implies, implies_true, Option.some.injEq, forall_eq', forall_eq, reduceCtorEq, brT, brF, br_s, i_10, i_01, ib_0_2, ib_1_2, tn_0, tn_1, Int32.le_refl, eq_self, rv_bN, rv_iM, RCX 0, RCG 2, RCT 4, RCT 15, RCT 25, RCS 35, RCS 49, RCH 63, RCP 67, RCB 72, RCR 77, RCM 81, RLY, lit_at hw, h7, c0, l12, g_36 hw hG.2.2.1 h50 hd1]
    exact hQ
  have l12 : (Int32.ofNat (τ 0) < (12 : Int32)) ↔ True := iff_true_intro (ll.mpr (by omega))
  have eb : inB (Int32.ofNat (τ 0)) 12 = true := on_inB (by omega) (by omega)
  have en := on_nat (i := τ 0) (by omega)
  obtain ⟨σ1, f1, t1, e1⟩ := g_39 hw ht hG vg
  have va := vG_adv (t := t) vg
  have N1 : ∀ i, i < adv t n g 5 → σ1.1 14 i = nm i := by
    rw [adv_g (by omega)]
    intro i hi
    rw [f1.1 14 (by omega)]; exact hN i hi
  have s1 : σ1.2.2 2 7 = some 15 := by rw [f1.2]; exact h7
  obtain ⟨σ2, f2, F2, ⟨g2, G2, V2⟩, z2, e2⟩ := g_33 hw ht t1 va (by rw [adv_g (by omega)]; exact h03) (by rw [adv_g (by omega), h5]; omega) N1
  have r2 : ∀ a, 15 ≤ a → a < 25 → σ2.1 a = σ.1 a := fun a ha hb => by rw [f2.1 a (by omega) (by omega), f1.1 a (by omega)]
  have s2 : σ2.2.2 2 7 = some 15 := by rw [f2.2]; exact s1
  have c2 : σ2.1 15 2 = Int32.ofNat (τ 0) := by rw [r2 15 (by omega) (by omega)]; exact c0
  have x2 : frX 15 σ σ2 := frX_tr (frX_R f1) (frX_N f2)
  have T2 : tTold σ2 15 τ := tTold_fr hT (fun a h1 h2 => r2 a (by omega) (by omega))
  have hd45 : ∀ {d : Nat}, 4 ≤ d → 3 ≤ d := fun h => by omega
  by_cases b : nameF t (adv t n g) nm = 0
  case neg =>
    have n0 : σ2.1 2 5 ≠ 0 := f8_ne F2 b (by have := nameF_lt (t := t) (nm := nm) va; omega)
    have m1 : (uI σ2 16 (τ 0) (-1)).1 2 5 ≠ 0 := by simp only [uI_1, Nat.reduceEqDiff, false_and, if_false]; exact n0
    have eR : (rLot t n g nm τ) = (nameF t (adv t n g) nm, g, nm, τ) := by unfold rLot; rw [if_neg a, if_pos b]
    refine ⟨(uI (uI (uI σ2 16 (τ 0) (-1)) 17 (τ 0) (-1)) 15 2 (Int32.ofNat (τ 0 + 1))), frX_tr x2 (frX_tr (frX_I (by omega)) (frX_tr (frX_I (by omega)) (frX_I (by omega)))), by rw [eR]; simp only [uI_1, Nat.reduceEqDiff, false_and, if_false]; exact F2, by simp only [uI_1, Nat.reduceEqDiff, false_and, and_false, if_false]; exact (by rw [r2 15 (by omega) (by omega)]), fun q => absurd q (by rw [eR]; exact b), fun hD => cV_of (m := 4) (fun d hd Q hQ => ?_) rfl hD⟩
    have hd1 : 1 ≤ d := by omega
    have hd2 : 2 ≤ d := by omega
    have hd3 : 3 ≤ d := by omega
    have hd4 : 4 ≤ d := by omega
    refine b29_0 ?_
    simp only [↓br_pos, ↓br_neg, ↓rF_I, ↓rF_L, ↓rF_R, ↓rF_N, rO_m, rB_m, ↓rI_m, wI_m, ↓rB2_m, ↓rB3_m, wB2_m, wB3_m, ↓rL_m, wL_m, ↓rQ_m, wQ_m, ↓lI_m, pI_m, pL_m, pR_m, sI_m, sBy_m, sBo_m, sL_m, sQ_m, fst_m, true_and, and_true, tg_some, ln_some, uI_1, uI_2, uL_1, uL_2, uL_3, uQ_1, uQ_2, uQ_3, rv_i, rv_l, rv_n, rv_b0, rv_b1, RMR, ne_eq, reduceCtorEq, not_false_eq_true, Option.getD_some, if_true, if_false, and_self, false_and, and_false, Nat.add_left_cancel_iff, Nat.add_eq_left, Nat.left_eq_add, Nat.one_ne_zero, Nat.reduceAdd, Nat.reduceLT, Nat.reduceLeDiff, Nat.reduceEqDiff, true_implies, false_implies, implies_true, Option.some.injEq, forall_eq', forall_eq, reduceCtorEq, brT, brF, br_s, i_10, i_01, ib_0_2, ib_1_2, tn_0, tn_1, Int32.le_refl, eq_self, rv_bN, rv_iM, RCX 0, RCG 2, RCT 4, RCT 15, RCT 25, RCS 35, RCS 49, RCH 63, RCP 67, RCB 72, RCR 77, RCM 81, RLY, lit_at hw, h7, c0, l12, s1, s2, c2, eb, en, e1 hd3, e2 hd4, g_34n hw n0 hd1, g_34n hw m1 hd1, on_succ]
    exact hQ
  have z2' := z2 b
  have K0 : tG σ2 t n (gNm t n (adv t n g)) := z2'.1
  have U0 : vG n (gNm t n (adv t n g)) := vG_nm va
  have Z0 : (gNm t n (adv t n g)) 3 = 0 := by rw [gNm_3, adv_g (by omega)]; exact h03
  obtain ⟨σ3, f3, F3, ⟨g3, G3, V3⟩, z3, e3⟩ := g_34 (σ := σ2) (i := 4) (low := 1) (high := 9999) hw ht K0 U0 Z0 (by omega)
  have s3 : σ3.2.2 2 7 = some 15 := by rw [f3.2]; exact s2
  have r3 : ∀ a, 15 ≤ a → a < 25 → σ3.1 a = (σ2).1 a := fun a ha hb => f3.1 a (by omega)
  have c3 : σ3.1 15 2 = Int32.ofNat (τ 0) := by rw [r3 15 (by omega) (by omega)]; exact c2
  have L1 : σ3.1 15 0 = σ.1 15 0 := by rw [r3 15 (by omega) (by omega), r2 15 (by omega) (by omega)]
  have T3 : tTold σ3 15 τ := tTold_fr T2 (fun a h1 h2 => r3 a (by omega) (by omega))
  have x3 : frX 15 σ σ3 := frX_tr x2 (frX_R f3)
  by_cases q1 : toldF t n (gNm t n (adv t n g)) 4 1 9999 = 0
  case neg =>
    have n0 : σ3.1 2 5 ≠ 0 := f8_ne F3 q1 (by have := toldF_lt (t := t) (i := 4) (low := 1) (high := 9999) U0; omega)
    have m0 : (uI σ3 16 (τ 0) (-1)).1 2 5 ≠ 0 := by simp only [uI_1, Nat.reduceEqDiff, false_and, if_false]; exact n0
    have eR : (rLot t n g nm τ) = (toldF t n (gNm t n (adv t n g)) 4 1 9999, g, nm, τ) := by unfold rLot; rw [if_neg a, if_neg (fun q => q b), if_pos q1]
    refine ⟨(uI (uI (uI σ3 16 (τ 0) (-1)) 17 (τ 0) (-1)) 15 2 (Int32.ofNat (τ 0 + 1))), frX_tr x3 (frX_tr (frX_I (by omega)) (frX_tr (frX_I (by omega)) (frX_I (by omega)))), by rw [eR]; simp only [uI_1, Nat.reduceEqDiff, false_and, if_false]; exact F3, by simp only [uI_1, Nat.reduceEqDiff, false_and, and_false, if_false]; exact L1, fun q => absurd q (by rw [eR]; exact q1), fun hD => cV_of (m := 4) (fun d hd Q hQ => ?_) rfl hD⟩
    have hd1 : 1 ≤ d := by omega
    have hd2 : 2 ≤ d := by omega
    have hd3 : 3 ≤ d := by omega
    have hd4 : 4 ≤ d := by omega
    refine b29_0 ?_
    simp only [↓br_pos, ↓br_neg, ↓rF_I, ↓rF_L, ↓rF_R, ↓rF_N, rO_m, rB_m, ↓rI_m, wI_m, ↓rB2_m, ↓rB3_m, wB2_m, wB3_m, ↓rL_m, wL_m, ↓rQ_m, wQ_m, ↓lI_m, pI_m, pL_m, pR_m, sI_m, sBy_m, sBo_m, sL_m, sQ_m, fst_m, true_and, and_true, tg_some, ln_some, uI_1, uI_2, uL_1, uL_2, uL_3, uQ_1, uQ_2, uQ_3, rv_i, rv_l, rv_n, rv_b0, rv_b1, RMR, ne_eq, reduceCtorEq, not_false_eq_true, Option.getD_some, if_true, if_false, and_self, false_and, and_false, Nat.add_left_cancel_iff, Nat.add_eq_left, Nat.left_eq_add, Nat.one_ne_zero, Nat.reduceAdd, Nat.reduceLT, Nat.reduceLeDiff, Nat.reduceEqDiff, true_implies, false_implies, implies_true, Option.some.injEq, forall_eq', forall_eq, reduceCtorEq, brT, brF, br_s, i_10, i_01, ib_0_2, ib_1_2, tn_0, tn_1, Int32.le_refl, eq_self, rv_bN, rv_iM, RCX 0, RCG 2, RCT 4, RCT 15, RCT 25, RCS 35, RCS 49, RCH 63, RCP 67, RCB 72, RCR 77, RCM 81, RLY, lit_at hw, h7, c0, l12, s1, s2, c2, eb, en, e1 hd3, e2 hd4, s3, c3, e3 hd4, q1, g_34n hw m0 hd1, on_succ]
    exact hQ
  have w1 := told_v (lo := 1) (hi := 9999) rfl rfl (by omega) (by omega) q1
  have K1 : tG σ3 t n (gTd t n (gNm t n (adv t n g))) := z3 q1
  have U1 : vG n (gTd t n (gNm t n (adv t n g))) := vG_td U0
  have Z1 : (gTd t n (gNm t n (adv t n g))) 3 = 0 := by rw [gTd_g (by omega)]; exact Z0
  obtain ⟨σ4, f4, F4, ⟨g4, G4, V4⟩, z4, e4⟩ := g_34 (σ := uI σ3 16 (τ 0) (numV t (adv t n (gNm t n (adv t n g))))) (i := 5) (low := 0) (high := 999) hw ht (tG_I K1 (by omega)) U1 Z1 (by omega)
  have s4 : σ4.2.2 2 7 = some 15 := by rw [f4.2]; exact s3
  have r4 : ∀ a, 15 ≤ a → a < 25 → σ4.1 a = (uI σ3 16 (τ 0) (numV t (adv t n (gNm t n (adv t n g))))).1 a := fun a ha hb => f4.1 a (by omega)
  have c4 : σ4.1 15 2 = Int32.ofNat (τ 0) := by rw [r4 15 (by omega) (by omega), uI_1, if_neg (by omega)]; exact c3
  have L2 : σ4.1 15 0 = σ.1 15 0 := by rw [r4 15 (by omega) (by omega), uI_1, if_neg (by omega)]; exact L1
  have T4 : tTold σ4 15 τ := tTold_fr (tT_j (p := 15) (A := 1) T3 (by omega)) (fun a h1 h2 => r4 a (by omega) (by omega))
  have x4 : frX 15 σ σ4 := frX_tr x3 (frX_tr (frX_I (by omega)) (frX_R f4))
  have C2_1 : σ4.1 16 (τ 0) = (numV t (adv t n (gNm t n (adv t n g)))) := by rw [r4 16 (by omega) (by omega), uI_1, if_pos ⟨rfl, rfl⟩]
  by_cases q2 : toldF t n (gTd t n (gNm t n (adv t n g))) 5 0 999 = 0
  case neg =>
    have n0 : σ4.1 2 5 ≠ 0 := f8_ne F4 q2 (by have := toldF_lt (t := t) (i := 5) (low := 0) (high := 999) U1; omega)
    have eR : (rLot t n g nm τ) = (toldF t n (gTd t n (gNm t n (adv t n g))) 5 0 999, g, nm, τ) := by unfold rLot; rw [if_neg a, if_neg (fun q => q b), if_neg (fun q => q q1), if_pos q2]
    refine ⟨(uI (uI σ4 17 (τ 0) (-1)) 15 2 (Int32.ofNat (τ 0 + 1))), frX_tr x4 (frX_tr (frX_I (by omega)) (frX_I (by omega))), by rw [eR]; simp only [uI_1, Nat.reduceEqDiff, false_and, if_false]; exact F4, by simp only [uI_1, Nat.reduceEqDiff, false_and, and_false, if_false]; exact L2, fun q => absurd q (by rw [eR]; exact q2), fun hD => cV_of (m := 4) (fun d hd Q hQ => ?_) rfl hD⟩
    have hd1 : 1 ≤ d := by omega
    have hd2 : 2 ≤ d := by omega
    have hd3 : 3 ≤ d := by omega
    have hd4 : 4 ≤ d := by omega
    refine b29_0 ?_
    simp only [↓br_pos, ↓br_neg, ↓rF_I, ↓rF_L, ↓rF_R, ↓rF_N, rO_m, rB_m, ↓rI_m, wI_m, ↓rB2_m, ↓rB3_m, wB2_m, wB3_m, ↓rL_m, wL_m, ↓rQ_m, wQ_m, ↓lI_m, pI_m, pL_m, pR_m, sI_m, sBy_m, sBo_m, sL_m, sQ_m, fst_m, true_and, and_true, tg_some, ln_some, uI_1, uI_2, uL_1, uL_2, uL_3, uQ_1, uQ_2, uQ_3, rv_i, rv_l, rv_n, rv_b0, rv_b1, RMR, ne_eq, reduceCtorEq, not_false_eq_true, Option.getD_some, if_true, if_false, and_self, false_and, and_false, Nat.add_left_cancel_iff, Nat.add_eq_left, Nat.left_eq_add, Nat.one_ne_zero, Nat.reduceAdd, Nat.reduceLT, Nat.reduceLeDiff, Nat.reduceEqDiff, true_implies, false_implies, implies_true, Option.some.injEq, forall_eq', forall_eq, reduceCtorEq, brT, brF, br_s, i_10, i_01, ib_0_2, ib_1_2, tn_0, tn_1, Int32.le_refl, eq_self, rv_bN, rv_iM, RCX 0, RCG 2, RCT 4, RCT 15, RCT 25, RCS 35, RCS 49, RCH 63, RCP 67, RCB 72, RCR 77, RCM 81, RLY, lit_at hw, h7, c0, l12, s1, s2, c2, eb, en, e1 hd3, e2 hd4, s3, c3, e3 hd4, q1, s4, c4, e4 hd4, q2, on_succ]
    exact hQ
  have w2 := told_v (lo := 0) (hi := 999) rfl rfl (by omega) (by omega) q2
  have K2 : tG σ4 t n (gTd t n (gTd t n (gNm t n (adv t n g)))) := z4 q2
  have U2 : vG n (gTd t n (gTd t n (gNm t n (adv t n g)))) := vG_td U1
  have Z2 : (gTd t n (gTd t n (gNm t n (adv t n g)))) 3 = 0 := by rw [gTd_g (by omega)]; exact Z1
  have five : (gTd t n (gTd t n (gNm t n (adv t n g)))) 5 = g 5 + 1 := by rw [gTd_g (by omega), gTd_g (by omega), gNm_5, adv_g (by omega)]
  have eR : (rLot t n g nm τ) = (0, (gTd t n (gTd t n (gNm t n (adv t n g)))), nmS nm (adv t n g 5) (cdN t (adv t n g)), tLot τ (nN t (adv t n (gNm t n (adv t n g)))) (nN t (adv t n (gTd t n (gNm t n (adv t n g)))))) := by unfold rLot; rw [if_neg a, if_neg (fun q => q b), if_neg (fun q => q q1), if_neg (fun q => q q2)]
  refine ⟨(uI (uI σ4 17 (τ 0) (numV t (adv t n (gTd t n (gNm t n (adv t n g)))))) 15 2 (Int32.ofNat (τ 0 + 1))), frX_tr x4 (frX_tr (frX_I (by omega)) (frX_I (by omega))), by rw [eR]; simp only [uI_1, Nat.reduceEqDiff, false_and, if_false]; rw [F4, q2], by simp only [uI_1, Nat.reduceEqDiff, false_and, and_false, if_false]; exact L2, fun _ => ?_, fun hD => cV_of (m := 4) (fun d hd Q hQ => ?_) rfl hD⟩
  · rw [eR]
    refine ⟨⟨tG_I (tG_I K2 (by omega)) (by omega), fun i hi => ?_, tT_lot (p := 15) (tT_j (p := 15) (A := 2) T4 (by omega)) hv (by omega) (by rw [uI_1, if_neg (by omega), C2_1]; exact w1.1) (by rw [uI_1, if_pos ⟨rfl, rfl⟩]; exact w2.1), ?_⟩, U2, Z2, vT_lot hv (by omega) ⟨w1.2.1, w1.2.2⟩ w2.2.2, ?_⟩
    · have hi' : i < adv t n g 5 + 1 := by
        have hi2 : i < (gTd t n (gTd t n (gNm t n (adv t n g)))) 5 := hi
        rw [five] at hi2; rw [adv_g (by omega)]; exact hi2
      simp only [uI_1, Nat.reduceEqDiff, false_and, if_false]
      rw [f4.1 14 (by omega), uI_1, if_neg (by omega), f3.1 14 (by omega)]
      exact z2'.2 i hi'
    · show σ4.2.2 2 7 = some 15
      exact s4
    · show (gTd t n (gTd t n (gNm t n (adv t n g)))) 5 = _
      rw [five, h5]
      show _ = tLot τ (nN t (adv t n (gNm t n (adv t n g)))) (nN t (adv t n (gTd t n (gNm t n (adv t n g))))) 0 + tLot τ (nN t (adv t n (gNm t n (adv t n g)))) (nN t (adv t n (gTd t n (gNm t n (adv t n g))))) 1 + tLot τ (nN t (adv t n (gNm t n (adv t n g)))) (nN t (adv t n (gTd t n (gNm t n (adv t n g))))) 2
      rw [tLot_1, tLot_1, tLot_1, if_pos rfl, if_neg (by omega), if_neg (by omega), if_neg (by omega), if_neg (by omega), if_neg (by omega), if_neg (by omega)]
      omega
  · have hd1 : 1 ≤ d := by omega
    have hd2 : 2 ≤ d := by omega
    have hd3 : 3 ≤ d := by omega
    have hd4 : 4 ≤ d := by omega
    refine b29_0 ?_
    simp only [↓br_pos, ↓br_neg, ↓rF_I, ↓rF_L, ↓rF_R, ↓rF_N, rO_m, rB_m, ↓rI_m, wI_m, ↓rB2_m, ↓rB3_m, wB2_m, wB3_m, ↓rL_m, wL_m, ↓rQ_m, wQ_m, ↓lI_m, pI_m, pL_m, pR_m, sI_m, sBy_m, sBo_m, sL_m, sQ_m, fst_m, true_and, and_true, tg_some, ln_some, uI_1, uI_2, uL_1, uL_2, uL_3, uQ_1, uQ_2, uQ_3, rv_i, rv_l, rv_n, rv_b0, rv_b1, RMR, ne_eq, reduceCtorEq, not_false_eq_true, Option.getD_some, if_true, if_false, and_self, false_and, and_false, Nat.add_left_cancel_iff, Nat.add_eq_left, Nat.left_eq_add, Nat.one_ne_zero, Nat.reduceAdd, Nat.reduceLT, Nat.reduceLeDiff, Nat.reduceEqDiff, true_implies, false_implies, implies_true, Option.some.injEq, forall_eq', forall_eq, reduceCtorEq, brT, brF, br_s, i_10, i_01, ib_0_2, ib_1_2, tn_0, tn_1, Int32.le_refl, eq_self, rv_bN, rv_iM, RCX 0, RCG 2, RCT 4, RCT 15, RCT 25, RCS 35, RCS 49, RCH 63, RCP 67, RCB 72, RCR 77, RCM 81, RLY, lit_at hw, h7, c0, l12, s1, s2, c2, eb, en, e1 hd3, e2 hd4, s3, c3, e3 hd4, q1, s4, c4, e4 hd4, q2, on_succ]
    exact hQ
theorem g_29_25 {w : mT} {σ : mS} {t : Nat → Nat} {n : Nat} {g τ : Rw} {nm : Nat → Int32} (hw : lit w) (ht : ∀ i, t i < 256) (hS : rS σ t n 25 g nm τ) (hV : rV n g τ) : ∃ σ', frX 25 σ σ' ∧ σ'.1 2 5 = Int32.ofNat (rLot t n g nm τ).1 ∧ σ'.1 25 0 = σ.1 25 0 ∧ ((rLot t n g nm τ).1 = 0 → rS σ' t n 25 (rLot t n g nm τ).2.1 (rLot t n g nm τ).2.2.1 (rLot t n g nm τ).2.2.2 ∧ rV n (rLot t n g nm τ).2.1 (rLot t n g nm τ).2.2.2) ∧ ∀ {D : Nat} {K : Hp → Prop}, 5 ≤ D → (wpV D 29 [.ref 2] (mW w σ) K ↔ K (mW w σ')) := by
  obtain ⟨hG, hN, hT, h7⟩ := hS
  obtain ⟨vg, h03, hv, h5⟩ := hV
  have c0 := hT.2.1
  have v0 := hv.1
  have v1 := hv.2.1
  have v2 := hv.2.2.1
  have h50 : σ.1 2 5 = 0 := by rw [hG.2.2.2.2.2.1, h03]; rfl
  have ll := on_lt (i := τ 0) (j := 12) (by omega) (by omega)
  by_cases a : 12 ≤ τ 0
  · have eR : (rLot t n g nm τ) = (8 * g 0 + 4, g, nm, τ) := if_pos a
    have l12 : (Int32.ofNat (τ 0) < (12 : Int32)) ↔ False := iff_false_intro (fun q => absurd (ll.mp q) (by omega))
    refine ⟨uI σ 2 5 (8 * Int32.ofNat (g 0) + 4), frX_I (by omega), by rw [eR, uI_1, if_pos ⟨rfl, rfl⟩]; exact f8_of, by rw [uI_1, if_neg (by omega)], fun q => absurd q (by rw [eR]; show ¬ 8 * g 0 + 4 = 0; omega), fun hD => cV_of (m := 4) (fun d hd Q hQ => ?_) rfl hD⟩
    have hd1 : 1 ≤ d := by omega
    have hd2 : 2 ≤ d := by omega
    have hd3 : 3 ≤ d := by omega
    have hd4 : 4 ≤ d := by omega
    refine b29_0 ?_
    simp only [↓br_pos, ↓br_neg, ↓rF_I, ↓rF_L, ↓rF_R, ↓rF_N, rO_m, rB_m, ↓rI_m, wI_m, ↓rB2_m, ↓rB3_m, wB2_m, wB3_m, ↓rL_m, wL_m, ↓rQ_m, wQ_m, ↓lI_m, pI_m, pL_m, pR_m, sI_m, sBy_m, sBo_m, sL_m, sQ_m, fst_m, true_and, and_true, tg_some, ln_some, uI_1, uI_2, uL_1, uL_2, uL_3, uQ_1, uQ_2, uQ_3, rv_i, rv_l, rv_n, rv_b0, rv_b1, RMR, ne_eq, reduceCtorEq, not_false_eq_true, Option.getD_some, if_true, if_false, and_self, false_and, and_false, Nat.add_left_cancel_iff, Nat.add_eq_left, Nat.left_eq_add, Nat.one_ne_zero, Nat.reduceAdd, Nat.reduceLT, Nat.reduceLeDiff, Nat.reduceEqDiff, true_implies, false_implies, implies_true, Option.some.injEq, forall_eq', forall_eq, reduceCtorEq, brT, brF, br_s, i_10, i_01, ib_0_2, ib_1_2, tn_0, tn_1, Int32.le_refl, eq_self, rv_bN, rv_iM, RCX 0, RCG 2, RCT 4, RCT 15, RCT 25, RCS 35, RCS 49, RCH 63, RCP 67, RCB 72, RCR 77, RCM 81, RLY, lit_at hw, h7, c0, l12, g_36 hw hG.2.2.1 h50 hd1]
    exact hQ
  have l12 : (Int32.ofNat (τ 0) < (12 : Int32)) ↔ True := iff_true_intro (ll.mpr (by omega))
  have eb : inB (Int32.ofNat (τ 0)) 12 = true := on_inB (by omega) (by omega)
  have en := on_nat (i := τ 0) (by omega)
  obtain ⟨σ1, f1, t1, e1⟩ := g_39 hw ht hG vg
  have va := vG_adv (t := t) vg
  have N1 : ∀ i, i < adv t n g 5 → σ1.1 14 i = nm i := by
    rw [adv_g (by omega)]
    intro i hi
    rw [f1.1 14 (by omega)]; exact hN i hi
  have s1 : σ1.2.2 2 7 = some 25 := by rw [f1.2]; exact h7
  obtain ⟨σ2, f2, F2, ⟨g2, G2, V2⟩, z2, e2⟩ := g_33 hw ht t1 va (by rw [adv_g (by omega)]; exact h03) (by rw [adv_g (by omega), h5]; omega) N1
  have r2 : ∀ a, 25 ≤ a → a < 35 → σ2.1 a = σ.1 a := fun a ha hb => by rw [f2.1 a (by omega) (by omega), f1.1 a (by omega)]
  have s2 : σ2.2.2 2 7 = some 25 := by rw [f2.2]; exact s1
  have c2 : σ2.1 25 2 = Int32.ofNat (τ 0) := by rw [r2 25 (by omega) (by omega)]; exact c0
  have x2 : frX 25 σ σ2 := frX_tr (frX_R f1) (frX_N f2)
  have T2 : tTold σ2 25 τ := tTold_fr hT (fun a h1 h2 => r2 a (by omega) (by omega))
  have hd45 : ∀ {d : Nat}, 4 ≤ d → 3 ≤ d := fun h => by omega
  by_cases b : nameF t (adv t n g) nm = 0
  case neg =>
    have n0 : σ2.1 2 5 ≠ 0 := f8_ne F2 b (by have := nameF_lt (t := t) (nm := nm) va; omega)
    have m1 : (uI σ2 26 (τ 0) (-1)).1 2 5 ≠ 0 := by simp only [uI_1, Nat.reduceEqDiff, false_and, if_false]; exact n0
    have eR : (rLot t n g nm τ) = (nameF t (adv t n g) nm, g, nm, τ) := by unfold rLot; rw [if_neg a, if_pos b]
    refine ⟨(uI (uI (uI σ2 26 (τ 0) (-1)) 27 (τ 0) (-1)) 25 2 (Int32.ofNat (τ 0 + 1))), frX_tr x2 (frX_tr (frX_I (by omega)) (frX_tr (frX_I (by omega)) (frX_I (by omega)))), by rw [eR]; simp only [uI_1, Nat.reduceEqDiff, false_and, if_false]; exact F2, by simp only [uI_1, Nat.reduceEqDiff, false_and, and_false, if_false]; exact (by rw [r2 25 (by omega) (by omega)]), fun q => absurd q (by rw [eR]; exact b), fun hD => cV_of (m := 4) (fun d hd Q hQ => ?_) rfl hD⟩
    have hd1 : 1 ≤ d := by omega
    have hd2 : 2 ≤ d := by omega
    have hd3 : 3 ≤ d := by omega
    have hd4 : 4 ≤ d := by omega
    refine b29_0 ?_
    simp only [↓br_pos, ↓br_neg, ↓rF_I, ↓rF_L, ↓rF_R, ↓rF_N, rO_m, rB_m, ↓rI_m, wI_m, ↓rB2_m, ↓rB3_m, wB2_m, wB3_m, ↓rL_m, wL_m, ↓rQ_m, wQ_m, ↓lI_m, pI_m, pL_m, pR_m, sI_m, sBy_m, sBo_m, sL_m, sQ_m, fst_m, true_and, and_true, tg_some, ln_some, uI_1, uI_2, uL_1, uL_2, uL_3, uQ_1, uQ_2, uQ_3, rv_i, rv_l, rv_n, rv_b0, rv_b1, RMR, ne_eq, reduceCtorEq, not_false_eq_true, Option.getD_some, if_true, if_false, and_self, false_and, and_false, Nat.add_left_cancel_iff, Nat.add_eq_left, Nat.left_eq_add, Nat.one_ne_zero, Nat.reduceAdd, Nat.reduceLT, Nat.reduceLeDiff, Nat.reduceEqDiff, true_implies, false_implies, implies_true, Option.some.injEq, forall_eq', forall_eq, reduceCtorEq, brT, brF, br_s, i_10, i_01, ib_0_2, ib_1_2, tn_0, tn_1, Int32.le_refl, eq_self, rv_bN, rv_iM, RCX 0, RCG 2, RCT 4, RCT 15, RCT 25, RCS 35, RCS 49, RCH 63, RCP 67, RCB 72, RCR 77, RCM 81, RLY, lit_at hw, h7, c0, l12, s1, s2, c2, eb, en, e1 hd3, e2 hd4, g_34n hw n0 hd1, g_34n hw m1 hd1, on_succ]
    exact hQ
  have z2' := z2 b
  have K0 : tG σ2 t n (gNm t n (adv t n g)) := z2'.1
  have U0 : vG n (gNm t n (adv t n g)) := vG_nm va
  have Z0 : (gNm t n (adv t n g)) 3 = 0 := by rw [gNm_3, adv_g (by omega)]; exact h03
  obtain ⟨σ3, f3, F3, ⟨g3, G3, V3⟩, z3, e3⟩ := g_34 (σ := σ2) (i := 4) (low := 1) (high := 9999) hw ht K0 U0 Z0 (by omega)
  have s3 : σ3.2.2 2 7 = some 25 := by rw [f3.2]; exact s2
  have r3 : ∀ a, 25 ≤ a → a < 35 → σ3.1 a = (σ2).1 a := fun a ha hb => f3.1 a (by omega)
  have c3 : σ3.1 25 2 = Int32.ofNat (τ 0) := by rw [r3 25 (by omega) (by omega)]; exact c2
  have L1 : σ3.1 25 0 = σ.1 25 0 := by rw [r3 25 (by omega) (by omega), r2 25 (by omega) (by omega)]
  have T3 : tTold σ3 25 τ := tTold_fr T2 (fun a h1 h2 => r3 a (by omega) (by omega))
  have x3 : frX 25 σ σ3 := frX_tr x2 (frX_R f3)
  by_cases q1 : toldF t n (gNm t n (adv t n g)) 4 1 9999 = 0
  case neg =>
    have n0 : σ3.1 2 5 ≠ 0 := f8_ne F3 q1 (by have := toldF_lt (t := t) (i := 4) (low := 1) (high := 9999) U0; omega)
    have m0 : (uI σ3 26 (τ 0) (-1)).1 2 5 ≠ 0 := by simp only [uI_1, Nat.reduceEqDiff, false_and, if_false]; exact n0
    have eR : (rLot t n g nm τ) = (toldF t n (gNm t n (adv t n g)) 4 1 9999, g, nm, τ) := by unfold rLot; rw [if_neg a, if_neg (fun q => q b), if_pos q1]
    refine ⟨(uI (uI (uI σ3 26 (τ 0) (-1)) 27 (τ 0) (-1)) 25 2 (Int32.ofNat (τ 0 + 1))), frX_tr x3 (frX_tr (frX_I (by omega)) (frX_tr (frX_I (by omega)) (frX_I (by omega)))), by rw [eR]; simp only [uI_1, Nat.reduceEqDiff, false_and, if_false]; exact F3, by simp only [uI_1, Nat.reduceEqDiff, false_and, and_false, if_false]; exact L1, fun q => absurd q (by rw [eR]; exact q1), fun hD => cV_of (m := 4) (fun d hd Q hQ => ?_) rfl hD⟩
    have hd1 : 1 ≤ d := by omega
    have hd2 : 2 ≤ d := by omega
    have hd3 : 3 ≤ d := by omega
    have hd4 : 4 ≤ d := by omega
    refine b29_0 ?_
    simp only [↓br_pos, ↓br_neg, ↓rF_I, ↓rF_L, ↓rF_R, ↓rF_N, rO_m, rB_m, ↓rI_m, wI_m, ↓rB2_m, ↓rB3_m, wB2_m, wB3_m, ↓rL_m, wL_m, ↓rQ_m, wQ_m, ↓lI_m, pI_m, pL_m, pR_m, sI_m, sBy_m, sBo_m, sL_m, sQ_m, fst_m, true_and, and_true, tg_some, ln_some, uI_1, uI_2, uL_1, uL_2, uL_3, uQ_1, uQ_2, uQ_3, rv_i, rv_l, rv_n, rv_b0, rv_b1, RMR, ne_eq, reduceCtorEq, not_false_eq_true, Option.getD_some, if_true, if_false, and_self, false_and, and_false, Nat.add_left_cancel_iff, Nat.add_eq_left, Nat.left_eq_add, Nat.one_ne_zero, Nat.reduceAdd, Nat.reduceLT, Nat.reduceLeDiff, Nat.reduceEqDiff, true_implies, false_implies, implies_true, Option.some.injEq, forall_eq', forall_eq, reduceCtorEq, brT, brF, br_s, i_10, i_01, ib_0_2, ib_1_2, tn_0, tn_1, Int32.le_refl, eq_self, rv_bN, rv_iM, RCX 0, RCG 2, RCT 4, RCT 15, RCT 25, RCS 35, RCS 49, RCH 63, RCP 67, RCB 72, RCR 77, RCM 81, RLY, lit_at hw, h7, c0, l12, s1, s2, c2, eb, en, e1 hd3, e2 hd4, s3, c3, e3 hd4, q1, g_34n hw m0 hd1, on_succ]
    exact hQ
  have w1 := told_v (lo := 1) (hi := 9999) rfl rfl (by omega) (by omega) q1
  have K1 : tG σ3 t n (gTd t n (gNm t n (adv t n g))) := z3 q1
  have U1 : vG n (gTd t n (gNm t n (adv t n g))) := vG_td U0
  have Z1 : (gTd t n (gNm t n (adv t n g))) 3 = 0 := by rw [gTd_g (by omega)]; exact Z0
  obtain ⟨σ4, f4, F4, ⟨g4, G4, V4⟩, z4, e4⟩ := g_34 (σ := uI σ3 26 (τ 0) (numV t (adv t n (gNm t n (adv t n g))))) (i := 5) (low := 0) (high := 999) hw ht (tG_I K1 (by omega)) U1 Z1 (by omega)
  have s4 : σ4.2.2 2 7 = some 25 := by rw [f4.2]; exact s3
  have r4 : ∀ a, 25 ≤ a → a < 35 → σ4.1 a = (uI σ3 26 (τ 0) (numV t (adv t n (gNm t n (adv t n g))))).1 a := fun a ha hb => f4.1 a (by omega)
  have c4 : σ4.1 25 2 = Int32.ofNat (τ 0) := by rw [r4 25 (by omega) (by omega), uI_1, if_neg (by omega)]; exact c3
  have L2 : σ4.1 25 0 = σ.1 25 0 := by rw [r4 25 (by omega) (by omega), uI_1, if_neg (by omega)]; exact L1
  have T4 : tTold σ4 25 τ := tTold_fr (tT_j (p := 25) (A := 1) T3 (by omega)) (fun a h1 h2 => r4 a (by omega) (by omega))
  have x4 : frX 25 σ σ4 := frX_tr x3 (frX_tr (frX_I (by omega)) (frX_R f4))
  have C2_1 : σ4.1 26 (τ 0) = (numV t (adv t n (gNm t n (adv t n g)))) := by rw [r4 26 (by omega) (by omega), uI_1, if_pos ⟨rfl, rfl⟩]
  by_cases q2 : toldF t n (gTd t n (gNm t n (adv t n g))) 5 0 999 = 0
  case neg =>
    have n0 : σ4.1 2 5 ≠ 0 := f8_ne F4 q2 (by have := toldF_lt (t := t) (i := 5) (low := 0) (high := 999) U1; omega)
    have eR : (rLot t n g nm τ) = (toldF t n (gTd t n (gNm t n (adv t n g))) 5 0 999, g, nm, τ) := by unfold rLot; rw [if_neg a, if_neg (fun q => q b), if_neg (fun q => q q1), if_pos q2]
    refine ⟨(uI (uI σ4 27 (τ 0) (-1)) 25 2 (Int32.ofNat (τ 0 + 1))), frX_tr x4 (frX_tr (frX_I (by omega)) (frX_I (by omega))), by rw [eR]; simp only [uI_1, Nat.reduceEqDiff, false_and, if_false]; exact F4, by simp only [uI_1, Nat.reduceEqDiff, false_and, and_false, if_false]; exact L2, fun q => absurd q (by rw [eR]; exact q2), fun hD => cV_of (m := 4) (fun d hd Q hQ => ?_) rfl hD⟩
    have hd1 : 1 ≤ d := by omega
    have hd2 : 2 ≤ d := by omega
    have hd3 : 3 ≤ d := by omega
    have hd4 : 4 ≤ d := by omega
    refine b29_0 ?_
    simp only [↓br_pos, ↓br_neg, ↓rF_I, ↓rF_L, ↓rF_R, ↓rF_N, rO_m, rB_m, ↓rI_m, wI_m, ↓rB2_m, ↓rB3_m, wB2_m, wB3_m, ↓rL_m, wL_m, ↓rQ_m, wQ_m, ↓lI_m, pI_m, pL_m, pR_m, sI_m, sBy_m, sBo_m, sL_m, sQ_m, fst_m, true_and, and_true, tg_some, ln_some, uI_1, uI_2, uL_1, uL_2, uL_3, uQ_1, uQ_2, uQ_3, rv_i, rv_l, rv_n, rv_b0, rv_b1, RMR, ne_eq, reduceCtorEq, not_false_eq_true, Option.getD_some, if_true, if_false, and_self, false_and, and_false, Nat.add_left_cancel_iff, Nat.add_eq_left, Nat.left_eq_add, Nat.one_ne_zero, Nat.reduceAdd, Nat.reduceLT, Nat.reduceLeDiff, Nat.reduceEqDiff, true_implies, false_implies, implies_true, Option.some.injEq, forall_eq', forall_eq, reduceCtorEq, brT, brF, br_s, i_10, i_01, ib_0_2, ib_1_2, tn_0, tn_1, Int32.le_refl, eq_self, rv_bN, rv_iM, RCX 0, RCG 2, RCT 4, RCT 15, RCT 25, RCS 35, RCS 49, RCH 63, RCP 67, RCB 72, RCR 77, RCM 81, RLY, lit_at hw, h7, c0, l12, s1, s2, c2, eb, en, e1 hd3, e2 hd4, s3, c3, e3 hd4, q1, s4, c4, e4 hd4, q2, on_succ]
    exact hQ
  have w2 := told_v (lo := 0) (hi := 999) rfl rfl (by omega) (by omega) q2
  have K2 : tG σ4 t n (gTd t n (gTd t n (gNm t n (adv t n g)))) := z4 q2
  have U2 : vG n (gTd t n (gTd t n (gNm t n (adv t n g)))) := vG_td U1
  have Z2 : (gTd t n (gTd t n (gNm t n (adv t n g)))) 3 = 0 := by rw [gTd_g (by omega)]; exact Z1
  have five : (gTd t n (gTd t n (gNm t n (adv t n g)))) 5 = g 5 + 1 := by rw [gTd_g (by omega), gTd_g (by omega), gNm_5, adv_g (by omega)]
  have eR : (rLot t n g nm τ) = (0, (gTd t n (gTd t n (gNm t n (adv t n g)))), nmS nm (adv t n g 5) (cdN t (adv t n g)), tLot τ (nN t (adv t n (gNm t n (adv t n g)))) (nN t (adv t n (gTd t n (gNm t n (adv t n g)))))) := by unfold rLot; rw [if_neg a, if_neg (fun q => q b), if_neg (fun q => q q1), if_neg (fun q => q q2)]
  refine ⟨(uI (uI σ4 27 (τ 0) (numV t (adv t n (gTd t n (gNm t n (adv t n g)))))) 25 2 (Int32.ofNat (τ 0 + 1))), frX_tr x4 (frX_tr (frX_I (by omega)) (frX_I (by omega))), by rw [eR]; simp only [uI_1, Nat.reduceEqDiff, false_and, if_false]; rw [F4, q2], by simp only [uI_1, Nat.reduceEqDiff, false_and, and_false, if_false]; exact L2, fun _ => ?_, fun hD => cV_of (m := 4) (fun d hd Q hQ => ?_) rfl hD⟩
  · rw [eR]
    refine ⟨⟨tG_I (tG_I K2 (by omega)) (by omega), fun i hi => ?_, tT_lot (p := 25) (tT_j (p := 25) (A := 2) T4 (by omega)) hv (by omega) (by rw [uI_1, if_neg (by omega), C2_1]; exact w1.1) (by rw [uI_1, if_pos ⟨rfl, rfl⟩]; exact w2.1), ?_⟩, U2, Z2, vT_lot hv (by omega) ⟨w1.2.1, w1.2.2⟩ w2.2.2, ?_⟩
    · have hi' : i < adv t n g 5 + 1 := by
        have hi2 : i < (gTd t n (gTd t n (gNm t n (adv t n g)))) 5 := hi
        rw [five] at hi2; rw [adv_g (by omega)]; exact hi2
      simp only [uI_1, Nat.reduceEqDiff, false_and, if_false]
      rw [f4.1 14 (by omega), uI_1, if_neg (by omega), f3.1 14 (by omega)]
      exact z2'.2 i hi'
    · show σ4.2.2 2 7 = some 25
      exact s4
    · show (gTd t n (gTd t n (gNm t n (adv t n g)))) 5 = _
      rw [five, h5]
      show _ = tLot τ (nN t (adv t n (gNm t n (adv t n g)))) (nN t (adv t n (gTd t n (gNm t n (adv t n g))))) 0 + tLot τ (nN t (adv t n (gNm t n (adv t n g)))) (nN t (adv t n (gTd t n (gNm t n (adv t n g))))) 1 + tLot τ (nN t (adv t n (gNm t n (adv t n g)))) (nN t (adv t n (gTd t n (gNm t n (adv t n g))))) 2
      rw [tLot_1, tLot_1, tLot_1, if_pos rfl, if_neg (by omega), if_neg (by omega), if_neg (by omega), if_neg (by omega), if_neg (by omega), if_neg (by omega)]
      omega
  · have hd1 : 1 ≤ d := by omega
    have hd2 : 2 ≤ d := by omega
    have hd3 : 3 ≤ d := by omega
    have hd4 : 4 ≤ d := by omega
    refine b29_0 ?_
    simp only [↓br_pos, ↓br_neg, ↓rF_I, ↓rF_L, ↓rF_R, ↓rF_N, rO_m, rB_m, ↓rI_m, wI_m, ↓rB2_m, ↓rB3_m, wB2_m, wB3_m, ↓rL_m, wL_m, ↓rQ_m, wQ_m, ↓lI_m, pI_m, pL_m, pR_m, sI_m, sBy_m, sBo_m, sL_m, sQ_m, fst_m, true_and, and_true, tg_some, ln_some, uI_1, uI_2, uL_1, uL_2, uL_3, uQ_1, uQ_2, uQ_3, rv_i, rv_l, rv_n, rv_b0, rv_b1, RMR, ne_eq, reduceCtorEq, not_false_eq_true, Option.getD_some, if_true, if_false, and_self, false_and, and_false, Nat.add_left_cancel_iff, Nat.add_eq_left, Nat.left_eq_add, Nat.one_ne_zero, Nat.reduceAdd, Nat.reduceLT, Nat.reduceLeDiff, Nat.reduceEqDiff, true_implies, false_implies, implies_true, Option.some.injEq, forall_eq', forall_eq, reduceCtorEq, brT, brF, br_s, i_10, i_01, ib_0_2, ib_1_2, tn_0, tn_1, Int32.le_refl, eq_self, rv_bN, rv_iM, RCX 0, RCG 2, RCT 4, RCT 15, RCT 25, RCS 35, RCS 49, RCH 63, RCP 67, RCB 72, RCR 77, RCM 81, RLY, lit_at hw, h7, c0, l12, s1, s2, c2, eb, en, e1 hd3, e2 hd4, s3, c3, e3 hd4, q1, s4, c4, e4 hd4, q2, on_succ]
    exact hQ
theorem g_30_15 {w : mT} {σ : mS} {t : Nat → Nat} {n : Nat} {g τ : Rw} {nm : Nat → Int32} (hw : lit w) (ht : ∀ i, t i < 256) (hS : rS σ t n 15 g nm τ) (hV : rV n g τ) : ∃ σ', frX 15 σ σ' ∧ σ'.1 2 5 = Int32.ofNat (rPil t n g nm τ).1 ∧ σ'.1 15 0 = σ.1 15 0 ∧ ((rPil t n g nm τ).1 = 0 → rS σ' t n 15 (rPil t n g nm τ).2.1 (rPil t n g nm τ).2.2.1 (rPil t n g nm τ).2.2.2 ∧ rV n (rPil t n g nm τ).2.1 (rPil t n g nm τ).2.2.2) ∧ ∀ {D : Nat} {K : Hp → Prop}, 5 ≤ D → (wpV D 30 [.ref 2] (mW w σ) K ↔ K (mW w σ')) := by
  obtain ⟨hG, hN, hT, h7⟩ := hS
  obtain ⟨vg, h03, hv, h5⟩ := hV
  have c0 := hT.2.2.1
  have v0 := hv.1
  have v1 := hv.2.1
  have v2 := hv.2.2.1
  have h50 : σ.1 2 5 = 0 := by rw [hG.2.2.2.2.2.1, h03]; rfl
  have ll := on_lt (i := τ 1) (j := 3) (by omega) (by omega)
  by_cases a : 3 ≤ τ 1
  · have eR : (rPil t n g nm τ) = (8 * g 0 + 4, g, nm, τ) := if_pos a
    have l12 : (Int32.ofNat (τ 1) < (3 : Int32)) ↔ False := iff_false_intro (fun q => absurd (ll.mp q) (by omega))
    refine ⟨uI σ 2 5 (8 * Int32.ofNat (g 0) + 4), frX_I (by omega), by rw [eR, uI_1, if_pos ⟨rfl, rfl⟩]; exact f8_of, by rw [uI_1, if_neg (by omega)], fun q => absurd q (by rw [eR]; show ¬ 8 * g 0 + 4 = 0; omega), fun hD => cV_of (m := 4) (fun d hd Q hQ => ?_) rfl hD⟩
    have hd1 : 1 ≤ d := by omega
    have hd2 : 2 ≤ d := by omega
    have hd3 : 3 ≤ d := by omega
    have hd4 : 4 ≤ d := by omega
    refine b30_0 ?_
    simp only [↓br_pos, ↓br_neg, ↓rF_I, ↓rF_L, ↓rF_R, ↓rF_N, rO_m, rB_m, ↓rI_m, wI_m, ↓rB2_m, ↓rB3_m, wB2_m, wB3_m, ↓rL_m, wL_m, ↓rQ_m, wQ_m, ↓lI_m, pI_m, pL_m, pR_m, sI_m, sBy_m, sBo_m, sL_m, sQ_m, fst_m, true_and, and_true, tg_some, ln_some, uI_1, uI_2, uL_1, uL_2, uL_3, uQ_1, uQ_2, uQ_3, rv_i, rv_l, rv_n, rv_b0, rv_b1, RMR, ne_eq, reduceCtorEq, not_false_eq_true, Option.getD_some, if_true, if_false, and_self, false_and, and_false, Nat.add_left_cancel_iff, Nat.add_eq_left, Nat.left_eq_add, Nat.one_ne_zero, Nat.reduceAdd, Nat.reduceLT, Nat.reduceLeDiff, Nat.reduceEqDiff, true_implies, false_implies, implies_true, Option.some.injEq, forall_eq', forall_eq, reduceCtorEq, brT, brF, br_s, i_10, i_01, ib_0_2, ib_1_2, tn_0, tn_1, Int32.le_refl, eq_self, rv_bN, rv_iM, RCX 0, RCG 2, RCT 4, RCT 15, RCT 25, RCS 35, RCS 49, RCH 63, RCP 67, RCB 72, RCR 77, RCM 81, RLY, lit_at hw, h7, c0, l12, g_36 hw hG.2.2.1 h50 hd1]
    exact hQ
  have l12 : (Int32.ofNat (τ 1) < (3 : Int32)) ↔ True := iff_true_intro (ll.mpr (by omega))
  have eb : inB (Int32.ofNat (τ 1)) 3 = true := on_inB (by omega) (by omega)
  have en := on_nat (i := τ 1) (by omega)
  obtain ⟨σ1, f1, t1, e1⟩ := g_39 hw ht hG vg
  have va := vG_adv (t := t) vg
  have N1 : ∀ i, i < adv t n g 5 → σ1.1 14 i = nm i := by
    rw [adv_g (by omega)]
    intro i hi
    rw [f1.1 14 (by omega)]; exact hN i hi
  have s1 : σ1.2.2 2 7 = some 15 := by rw [f1.2]; exact h7
  obtain ⟨σ2, f2, F2, ⟨g2, G2, V2⟩, z2, e2⟩ := g_33 hw ht t1 va (by rw [adv_g (by omega)]; exact h03) (by rw [adv_g (by omega), h5]; omega) N1
  have r2 : ∀ a, 15 ≤ a → a < 25 → σ2.1 a = σ.1 a := fun a ha hb => by rw [f2.1 a (by omega) (by omega), f1.1 a (by omega)]
  have s2 : σ2.2.2 2 7 = some 15 := by rw [f2.2]; exact s1
  have c2 : σ2.1 15 3 = Int32.ofNat (τ 1) := by rw [r2 15 (by omega) (by omega)]; exact c0
  have x2 : frX 15 σ σ2 := frX_tr (frX_R f1) (frX_N f2)
  have T2 : tTold σ2 15 τ := tTold_fr hT (fun a h1 h2 => r2 a (by omega) (by omega))
  have hd45 : ∀ {d : Nat}, 4 ≤ d → 3 ≤ d := fun h => by omega
  by_cases b : nameF t (adv t n g) nm = 0
  case neg =>
    have n0 : σ2.1 2 5 ≠ 0 := f8_ne F2 b (by have := nameF_lt (t := t) (nm := nm) va; omega)
    have eR : (rPil t n g nm τ) = (nameF t (adv t n g) nm, g, nm, τ) := by unfold rPil; rw [if_neg a, if_pos b]
    refine ⟨(uI (uI σ2 18 (τ 1) (-1)) 15 3 (Int32.ofNat (τ 1 + 1))), frX_tr x2 (frX_tr (frX_I (by omega)) (frX_I (by omega))), by rw [eR]; simp only [uI_1, Nat.reduceEqDiff, false_and, if_false]; exact F2, by simp only [uI_1, Nat.reduceEqDiff, false_and, and_false, if_false]; exact (by rw [r2 15 (by omega) (by omega)]), fun q => absurd q (by rw [eR]; exact b), fun hD => cV_of (m := 4) (fun d hd Q hQ => ?_) rfl hD⟩
    have hd1 : 1 ≤ d := by omega
    have hd2 : 2 ≤ d := by omega
    have hd3 : 3 ≤ d := by omega
    have hd4 : 4 ≤ d := by omega
    refine b30_0 ?_
    simp only [↓br_pos, ↓br_neg, ↓rF_I, ↓rF_L, ↓rF_R, ↓rF_N, rO_m, rB_m, ↓rI_m, wI_m, ↓rB2_m, ↓rB3_m, wB2_m, wB3_m, ↓rL_m, wL_m, ↓rQ_m, wQ_m, ↓lI_m, pI_m, pL_m, pR_m, sI_m, sBy_m, sBo_m, sL_m, sQ_m, fst_m, true_and, and_true, tg_some, ln_some, uI_1, uI_2, uL_1, uL_2, uL_3, uQ_1, uQ_2, uQ_3, rv_i, rv_l, rv_n, rv_b0, rv_b1, RMR, ne_eq, reduceCtorEq, not_false_eq_true, Option.getD_some, if_true, if_false, and_self, false_and, and_false, Nat.add_left_cancel_iff, Nat.add_eq_left, Nat.left_eq_add, Nat.one_ne_zero, Nat.reduceAdd, Nat.reduceLT, Nat.reduceLeDiff, Nat.reduceEqDiff, true_implies, false_implies, implies_true, Option.some.injEq, forall_eq', forall_eq, reduceCtorEq, brT, brF, br_s, i_10, i_01, ib_0_2, ib_1_2, tn_0, tn_1, Int32.le_refl, eq_self, rv_bN, rv_iM, RCX 0, RCG 2, RCT 4, RCT 15, RCT 25, RCS 35, RCS 49, RCH 63, RCP 67, RCB 72, RCR 77, RCM 81, RLY, lit_at hw, h7, c0, l12, s1, s2, c2, eb, en, e1 hd3, e2 hd4, g_34n hw n0 hd1, on_succ]
    exact hQ
  have z2' := z2 b
  have K0 : tG σ2 t n (gNm t n (adv t n g)) := z2'.1
  have U0 : vG n (gNm t n (adv t n g)) := vG_nm va
  have Z0 : (gNm t n (adv t n g)) 3 = 0 := by rw [gNm_3, adv_g (by omega)]; exact h03
  obtain ⟨σ3, f3, F3, ⟨g3, G3, V3⟩, z3, e3⟩ := g_34 (σ := σ2) (i := 6) (low := 2) (high := 12) hw ht K0 U0 Z0 (by omega)
  have s3 : σ3.2.2 2 7 = some 15 := by rw [f3.2]; exact s2
  have r3 : ∀ a, 15 ≤ a → a < 25 → σ3.1 a = (σ2).1 a := fun a ha hb => f3.1 a (by omega)
  have c3 : σ3.1 15 3 = Int32.ofNat (τ 1) := by rw [r3 15 (by omega) (by omega)]; exact c2
  have L1 : σ3.1 15 0 = σ.1 15 0 := by rw [r3 15 (by omega) (by omega), r2 15 (by omega) (by omega)]
  have T3 : tTold σ3 15 τ := tTold_fr T2 (fun a h1 h2 => r3 a (by omega) (by omega))
  have x3 : frX 15 σ σ3 := frX_tr x2 (frX_R f3)
  by_cases q1 : toldF t n (gNm t n (adv t n g)) 6 2 12 = 0
  case neg =>
    have n0 : σ3.1 2 5 ≠ 0 := f8_ne F3 q1 (by have := toldF_lt (t := t) (i := 6) (low := 2) (high := 12) U0; omega)
    have eR : (rPil t n g nm τ) = (toldF t n (gNm t n (adv t n g)) 6 2 12, g, nm, τ) := by unfold rPil; rw [if_neg a, if_neg (fun q => q b), if_pos q1]
    refine ⟨(uI (uI σ3 18 (τ 1) (-1)) 15 3 (Int32.ofNat (τ 1 + 1))), frX_tr x3 (frX_tr (frX_I (by omega)) (frX_I (by omega))), by rw [eR]; simp only [uI_1, Nat.reduceEqDiff, false_and, if_false]; exact F3, by simp only [uI_1, Nat.reduceEqDiff, false_and, and_false, if_false]; exact L1, fun q => absurd q (by rw [eR]; exact q1), fun hD => cV_of (m := 4) (fun d hd Q hQ => ?_) rfl hD⟩
    have hd1 : 1 ≤ d := by omega
    have hd2 : 2 ≤ d := by omega
    have hd3 : 3 ≤ d := by omega
    have hd4 : 4 ≤ d := by omega
    refine b30_0 ?_
    simp only [↓br_pos, ↓br_neg, ↓rF_I, ↓rF_L, ↓rF_R, ↓rF_N, rO_m, rB_m, ↓rI_m, wI_m, ↓rB2_m, ↓rB3_m, wB2_m, wB3_m, ↓rL_m, wL_m, ↓rQ_m, wQ_m, ↓lI_m, pI_m, pL_m, pR_m, sI_m, sBy_m, sBo_m, sL_m, sQ_m, fst_m, true_and, and_true, tg_some, ln_some, uI_1, uI_2, uL_1, uL_2, uL_3, uQ_1, uQ_2, uQ_3, rv_i, rv_l, rv_n, rv_b0, rv_b1, RMR, ne_eq, reduceCtorEq, not_false_eq_true, Option.getD_some, if_true, if_false, and_self, false_and, and_false, Nat.add_left_cancel_iff, Nat.add_eq_left, Nat.left_eq_add, Nat.one_ne_zero, Nat.reduceAdd, Nat.reduceLT, Nat.reduceLeDiff, Nat.reduceEqDiff, true_implies, false_implies, implies_true, Option.some.injEq, forall_eq', forall_eq, reduceCtorEq, brT, brF, br_s, i_10, i_01, ib_0_2, ib_1_2, tn_0, tn_1, Int32.le_refl, eq_self, rv_bN, rv_iM, RCX 0, RCG 2, RCT 4, RCT 15, RCT 25, RCS 35, RCS 49, RCH 63, RCP 67, RCB 72, RCR 77, RCM 81, RLY, lit_at hw, h7, c0, l12, s1, s2, c2, eb, en, e1 hd3, e2 hd4, s3, c3, e3 hd4, q1, on_succ]
    exact hQ
  have w1 := told_v (lo := 2) (hi := 12) rfl rfl (by omega) (by omega) q1
  have K1 : tG σ3 t n (gTd t n (gNm t n (adv t n g))) := z3 q1
  have U1 : vG n (gTd t n (gNm t n (adv t n g))) := vG_td U0
  have Z1 : (gTd t n (gNm t n (adv t n g))) 3 = 0 := by rw [gTd_g (by omega)]; exact Z0
  have five : (gTd t n (gNm t n (adv t n g))) 5 = g 5 + 1 := by rw [gTd_g (by omega), gNm_5, adv_g (by omega)]
  have eR : (rPil t n g nm τ) = (0, (gTd t n (gNm t n (adv t n g))), nmS nm (adv t n g 5) (cdN t (adv t n g)), tPil τ (nN t (adv t n (gNm t n (adv t n g))))) := by unfold rPil; rw [if_neg a, if_neg (fun q => q b), if_neg (fun q => q q1)]
  refine ⟨(uI (uI σ3 18 (τ 1) (numV t (adv t n (gNm t n (adv t n g))))) 15 3 (Int32.ofNat (τ 1 + 1))), frX_tr x3 (frX_tr (frX_I (by omega)) (frX_I (by omega))), by rw [eR]; simp only [uI_1, Nat.reduceEqDiff, false_and, if_false]; rw [F3, q1], by simp only [uI_1, Nat.reduceEqDiff, false_and, and_false, if_false]; exact L1, fun _ => ?_, fun hD => cV_of (m := 4) (fun d hd Q hQ => ?_) rfl hD⟩
  · rw [eR]
    refine ⟨⟨tG_I (tG_I K1 (by omega)) (by omega), fun i hi => ?_, tT_pil (p := 15) (tT_j (p := 15) (A := 3) T3 (by omega)) hv (by omega) (by rw [uI_1, if_pos ⟨rfl, rfl⟩]; exact w1.1), ?_⟩, U1, Z1, vT_pil hv (by omega) ⟨w1.2.1, w1.2.2⟩, ?_⟩
    · have hi' : i < adv t n g 5 + 1 := by
        have hi2 : i < (gTd t n (gNm t n (adv t n g))) 5 := hi
        rw [five] at hi2; rw [adv_g (by omega)]; exact hi2
      simp only [uI_1, Nat.reduceEqDiff, false_and, if_false]
      rw [f3.1 14 (by omega)]
      exact z2'.2 i hi'
    · show σ3.2.2 2 7 = some 15
      exact s3
    · show (gTd t n (gNm t n (adv t n g))) 5 = _
      rw [five, h5]
      show _ = tPil τ (nN t (adv t n (gNm t n (adv t n g)))) 0 + tPil τ (nN t (adv t n (gNm t n (adv t n g)))) 1 + tPil τ (nN t (adv t n (gNm t n (adv t n g)))) 2
      rw [tPil_1, tPil_1, tPil_1, if_neg (by omega), if_neg (by omega), if_pos rfl, if_neg (by omega), if_neg (by omega)]
      omega
  · have hd1 : 1 ≤ d := by omega
    have hd2 : 2 ≤ d := by omega
    have hd3 : 3 ≤ d := by omega
    have hd4 : 4 ≤ d := by omega
    refine b30_0 ?_
    simp only [↓br_pos, ↓br_neg, ↓rF_I, ↓rF_L, ↓rF_R, ↓rF_N, rO_m, rB_m, ↓rI_m, wI_m, ↓rB2_m, ↓rB3_m, wB2_m, wB3_m, ↓rL_m, wL_m, ↓rQ_m, wQ_m, ↓lI_m, pI_m, pL_m, pR_m, sI_m, sBy_m, sBo_m, sL_m, sQ_m, fst_m, true_and, and_true, tg_some, ln_some, uI_1, uI_2, uL_1, uL_2, uL_3, uQ_1, uQ_2, uQ_3, rv_i, rv_l, rv_n, rv_b0, rv_b1, RMR, ne_eq, reduceCtorEq, not_false_eq_true, Option.getD_some, if_true, if_false, and_self, false_and, and_false, Nat.add_left_cancel_iff, Nat.add_eq_left, Nat.left_eq_add, Nat.one_ne_zero, Nat.reduceAdd, Nat.reduceLT, Nat.reduceLeDiff, Nat.reduceEqDiff, true_implies, false_implies, implies_true, Option.some.injEq, forall_eq', forall_eq, reduceCtorEq, brT, brF, br_s, i_10, i_01, ib_0_2, ib_1_2, tn_0, tn_1, Int32.le_refl, eq_self, rv_bN, rv_iM, RCX 0, RCG 2, RCT 4, RCT 15, RCT 25, RCS 35, RCS 49, RCH 63, RCP 67, RCB 72, RCR 77, RCM 81, RLY, lit_at hw, h7, c0, l12, s1, s2, c2, eb, en, e1 hd3, e2 hd4, s3, c3, e3 hd4, q1, on_succ]
    exact hQ
theorem g_30_25 {w : mT} {σ : mS} {t : Nat → Nat} {n : Nat} {g τ : Rw} {nm : Nat → Int32} (hw : lit w) (ht : ∀ i, t i < 256) (hS : rS σ t n 25 g nm τ) (hV : rV n g τ) : ∃ σ', frX 25 σ σ' ∧ σ'.1 2 5 = Int32.ofNat (rPil t n g nm τ).1 ∧ σ'.1 25 0 = σ.1 25 0 ∧ ((rPil t n g nm τ).1 = 0 → rS σ' t n 25 (rPil t n g nm τ).2.1 (rPil t n g nm τ).2.2.1 (rPil t n g nm τ).2.2.2 ∧ rV n (rPil t n g nm τ).2.1 (rPil t n g nm τ).2.2.2) ∧ ∀ {D : Nat} {K : Hp → Prop}, 5 ≤ D → (wpV D 30 [.ref 2] (mW w σ) K ↔ K (mW w σ')) := by
  obtain ⟨hG, hN, hT, h7⟩ := hS
  obtain ⟨vg, h03, hv, h5⟩ := hV
  have c0 := hT.2.2.1
  have v0 := hv.1
  have v1 := hv.2.1
  have v2 := hv.2.2.1
  have h50 : σ.1 2 5 = 0 := by rw [hG.2.2.2.2.2.1, h03]; rfl
  have ll := on_lt (i := τ 1) (j := 3) (by omega) (by omega)
  by_cases a : 3 ≤ τ 1
  · have eR : (rPil t n g nm τ) = (8 * g 0 + 4, g, nm, τ) := if_pos a
    have l12 : (Int32.ofNat (τ 1) < (3 : Int32)) ↔ False := iff_false_intro (fun q => absurd (ll.mp q) (by omega))
    refine ⟨uI σ 2 5 (8 * Int32.ofNat (g 0) + 4), frX_I (by omega), by rw [eR, uI_1, if_pos ⟨rfl, rfl⟩]; exact f8_of, by rw [uI_1, if_neg (by omega)], fun q => absurd q (by rw [eR]; show ¬ 8 * g 0 + 4 = 0; omega), fun hD => cV_of (m := 4) (fun d hd Q hQ => ?_) rfl hD⟩
    have hd1 : 1 ≤ d := by omega
    have hd2 : 2 ≤ d := by omega
    have hd3 : 3 ≤ d := by omega
    have hd4 : 4 ≤ d := by omega
    refine b30_0 ?_
    simp only [↓br_pos, ↓br_neg, ↓rF_I, ↓rF_L, ↓rF_R, ↓rF_N, rO_m, rB_m, ↓rI_m, wI_m, ↓rB2_m, ↓rB3_m, wB2_m, wB3_m, ↓rL_m, wL_m, ↓rQ_m, wQ_m, ↓lI_m, pI_m, pL_m, pR_m, sI_m, sBy_m, sBo_m, sL_m, sQ_m, fst_m, true_and, and_true, tg_some, ln_some, uI_1, uI_2, uL_1, uL_2, uL_3, uQ_1, uQ_2, uQ_3, rv_i, rv_l, rv_n, rv_b0, rv_b1, RMR, ne_eq, reduceCtorEq, not_false_eq_true, Option.getD_some, if_true, if_false, and_self, false_and, and_false, Nat.add_left_cancel_iff, Nat.add_eq_left, Nat.left_eq_add, Nat.one_ne_zero, Nat.reduceAdd, Nat.reduceLT, Nat.reduceLeDiff, Nat.reduceEqDiff, true_implies, false_implies, implies_true, Option.some.injEq, forall_eq', forall_eq, reduceCtorEq, brT, brF, br_s, i_10, i_01, ib_0_2, ib_1_2, tn_0, tn_1, Int32.le_refl, eq_self, rv_bN, rv_iM, RCX 0, RCG 2, RCT 4, RCT 15, RCT 25, RCS 35, RCS 49, RCH 63, RCP 67, RCB 72, RCR 77, RCM 81, RLY, lit_at hw, h7, c0, l12, g_36 hw hG.2.2.1 h50 hd1]
    exact hQ
  have l12 : (Int32.ofNat (τ 1) < (3 : Int32)) ↔ True := iff_true_intro (ll.mpr (by omega))
  have eb : inB (Int32.ofNat (τ 1)) 3 = true := on_inB (by omega) (by omega)
  have en := on_nat (i := τ 1) (by omega)
  obtain ⟨σ1, f1, t1, e1⟩ := g_39 hw ht hG vg
  have va := vG_adv (t := t) vg
  have N1 : ∀ i, i < adv t n g 5 → σ1.1 14 i = nm i := by
    rw [adv_g (by omega)]
    intro i hi
    rw [f1.1 14 (by omega)]; exact hN i hi
  have s1 : σ1.2.2 2 7 = some 25 := by rw [f1.2]; exact h7
  obtain ⟨σ2, f2, F2, ⟨g2, G2, V2⟩, z2, e2⟩ := g_33 hw ht t1 va (by rw [adv_g (by omega)]; exact h03) (by rw [adv_g (by omega), h5]; omega) N1
  have r2 : ∀ a, 25 ≤ a → a < 35 → σ2.1 a = σ.1 a := fun a ha hb => by rw [f2.1 a (by omega) (by omega), f1.1 a (by omega)]
  have s2 : σ2.2.2 2 7 = some 25 := by rw [f2.2]; exact s1
  have c2 : σ2.1 25 3 = Int32.ofNat (τ 1) := by rw [r2 25 (by omega) (by omega)]; exact c0
  have x2 : frX 25 σ σ2 := frX_tr (frX_R f1) (frX_N f2)
  have T2 : tTold σ2 25 τ := tTold_fr hT (fun a h1 h2 => r2 a (by omega) (by omega))
  have hd45 : ∀ {d : Nat}, 4 ≤ d → 3 ≤ d := fun h => by omega
  by_cases b : nameF t (adv t n g) nm = 0
  case neg =>
    have n0 : σ2.1 2 5 ≠ 0 := f8_ne F2 b (by have := nameF_lt (t := t) (nm := nm) va; omega)
    have eR : (rPil t n g nm τ) = (nameF t (adv t n g) nm, g, nm, τ) := by unfold rPil; rw [if_neg a, if_pos b]
    refine ⟨(uI (uI σ2 28 (τ 1) (-1)) 25 3 (Int32.ofNat (τ 1 + 1))), frX_tr x2 (frX_tr (frX_I (by omega)) (frX_I (by omega))), by rw [eR]; simp only [uI_1, Nat.reduceEqDiff, false_and, if_false]; exact F2, by simp only [uI_1, Nat.reduceEqDiff, false_and, and_false, if_false]; exact (by rw [r2 25 (by omega) (by omega)]), fun q => absurd q (by rw [eR]; exact b), fun hD => cV_of (m := 4) (fun d hd Q hQ => ?_) rfl hD⟩
    have hd1 : 1 ≤ d := by omega
    have hd2 : 2 ≤ d := by omega
    have hd3 : 3 ≤ d := by omega
    have hd4 : 4 ≤ d := by omega
    refine b30_0 ?_
    simp only [↓br_pos, ↓br_neg, ↓rF_I, ↓rF_L, ↓rF_R, ↓rF_N, rO_m, rB_m, ↓rI_m, wI_m, ↓rB2_m, ↓rB3_m, wB2_m, wB3_m, ↓rL_m, wL_m, ↓rQ_m, wQ_m, ↓lI_m, pI_m, pL_m, pR_m, sI_m, sBy_m, sBo_m, sL_m, sQ_m, fst_m, true_and, and_true, tg_some, ln_some, uI_1, uI_2, uL_1, uL_2, uL_3, uQ_1, uQ_2, uQ_3, rv_i, rv_l, rv_n, rv_b0, rv_b1, RMR, ne_eq, reduceCtorEq, not_false_eq_true, Option.getD_some, if_true, if_false, and_self, false_and, and_false, Nat.add_left_cancel_iff, Nat.add_eq_left, Nat.left_eq_add, Nat.one_ne_zero, Nat.reduceAdd, Nat.reduceLT, Nat.reduceLeDiff, Nat.reduceEqDiff, true_implies, false_implies, implies_true, Option.some.injEq, forall_eq', forall_eq, reduceCtorEq, brT, brF, br_s, i_10, i_01, ib_0_2, ib_1_2, tn_0, tn_1, Int32.le_refl, eq_self, rv_bN, rv_iM, RCX 0, RCG 2, RCT 4, RCT 15, RCT 25, RCS 35, RCS 49, RCH 63, RCP 67, RCB 72, RCR 77, RCM 81, RLY, lit_at hw, h7, c0, l12, s1, s2, c2, eb, en, e1 hd3, e2 hd4, g_34n hw n0 hd1, on_succ]
    exact hQ
  have z2' := z2 b
  have K0 : tG σ2 t n (gNm t n (adv t n g)) := z2'.1
  have U0 : vG n (gNm t n (adv t n g)) := vG_nm va
  have Z0 : (gNm t n (adv t n g)) 3 = 0 := by rw [gNm_3, adv_g (by omega)]; exact h03
  obtain ⟨σ3, f3, F3, ⟨g3, G3, V3⟩, z3, e3⟩ := g_34 (σ := σ2) (i := 6) (low := 2) (high := 12) hw ht K0 U0 Z0 (by omega)
  have s3 : σ3.2.2 2 7 = some 25 := by rw [f3.2]; exact s2
  have r3 : ∀ a, 25 ≤ a → a < 35 → σ3.1 a = (σ2).1 a := fun a ha hb => f3.1 a (by omega)
  have c3 : σ3.1 25 3 = Int32.ofNat (τ 1) := by rw [r3 25 (by omega) (by omega)]; exact c2
  have L1 : σ3.1 25 0 = σ.1 25 0 := by rw [r3 25 (by omega) (by omega), r2 25 (by omega) (by omega)]
  have T3 : tTold σ3 25 τ := tTold_fr T2 (fun a h1 h2 => r3 a (by omega) (by omega))
  have x3 : frX 25 σ σ3 := frX_tr x2 (frX_R f3)
  by_cases q1 : toldF t n (gNm t n (adv t n g)) 6 2 12 = 0
  case neg =>
    have n0 : σ3.1 2 5 ≠ 0 := f8_ne F3 q1 (by have := toldF_lt (t := t) (i := 6) (low := 2) (high := 12) U0; omega)
    have eR : (rPil t n g nm τ) = (toldF t n (gNm t n (adv t n g)) 6 2 12, g, nm, τ) := by unfold rPil; rw [if_neg a, if_neg (fun q => q b), if_pos q1]
    refine ⟨(uI (uI σ3 28 (τ 1) (-1)) 25 3 (Int32.ofNat (τ 1 + 1))), frX_tr x3 (frX_tr (frX_I (by omega)) (frX_I (by omega))), by rw [eR]; simp only [uI_1, Nat.reduceEqDiff, false_and, if_false]; exact F3, by simp only [uI_1, Nat.reduceEqDiff, false_and, and_false, if_false]; exact L1, fun q => absurd q (by rw [eR]; exact q1), fun hD => cV_of (m := 4) (fun d hd Q hQ => ?_) rfl hD⟩
    have hd1 : 1 ≤ d := by omega
    have hd2 : 2 ≤ d := by omega
    have hd3 : 3 ≤ d := by omega
    have hd4 : 4 ≤ d := by omega
    refine b30_0 ?_
    simp only [↓br_pos, ↓br_neg, ↓rF_I, ↓rF_L, ↓rF_R, ↓rF_N, rO_m, rB_m, ↓rI_m, wI_m, ↓rB2_m, ↓rB3_m, wB2_m, wB3_m, ↓rL_m, wL_m, ↓rQ_m, wQ_m, ↓lI_m, pI_m, pL_m, pR_m, sI_m, sBy_m, sBo_m, sL_m, sQ_m, fst_m, true_and, and_true, tg_some, ln_some, uI_1, uI_2, uL_1, uL_2, uL_3, uQ_1, uQ_2, uQ_3, rv_i, rv_l, rv_n, rv_b0, rv_b1, RMR, ne_eq, reduceCtorEq, not_false_eq_true, Option.getD_some, if_true, if_false, and_self, false_and, and_false, Nat.add_left_cancel_iff, Nat.add_eq_left, Nat.left_eq_add, Nat.one_ne_zero, Nat.reduceAdd, Nat.reduceLT, Nat.reduceLeDiff, Nat.reduceEqDiff, true_implies, false_implies, implies_true, Option.some.injEq, forall_eq', forall_eq, reduceCtorEq, brT, brF, br_s, i_10, i_01, ib_0_2, ib_1_2, tn_0, tn_1, Int32.le_refl, eq_self, rv_bN, rv_iM, RCX 0, RCG 2, RCT 4, RCT 15, RCT 25, RCS 35, RCS 49, RCH 63, RCP 67, RCB 72, RCR 77, RCM 81, RLY, lit_at hw, h7, c0, l12, s1, s2, c2, eb, en, e1 hd3, e2 hd4, s3, c3, e3 hd4, q1, on_succ]
    exact hQ
  have w1 := told_v (lo := 2) (hi := 12) rfl rfl (by omega) (by omega) q1
  have K1 : tG σ3 t n (gTd t n (gNm t n (adv t n g))) := z3 q1
  have U1 : vG n (gTd t n (gNm t n (adv t n g))) := vG_td U0
  have Z1 : (gTd t n (gNm t n (adv t n g))) 3 = 0 := by rw [gTd_g (by omega)]; exact Z0
  have five : (gTd t n (gNm t n (adv t n g))) 5 = g 5 + 1 := by rw [gTd_g (by omega), gNm_5, adv_g (by omega)]
  have eR : (rPil t n g nm τ) = (0, (gTd t n (gNm t n (adv t n g))), nmS nm (adv t n g 5) (cdN t (adv t n g)), tPil τ (nN t (adv t n (gNm t n (adv t n g))))) := by unfold rPil; rw [if_neg a, if_neg (fun q => q b), if_neg (fun q => q q1)]
  refine ⟨(uI (uI σ3 28 (τ 1) (numV t (adv t n (gNm t n (adv t n g))))) 25 3 (Int32.ofNat (τ 1 + 1))), frX_tr x3 (frX_tr (frX_I (by omega)) (frX_I (by omega))), by rw [eR]; simp only [uI_1, Nat.reduceEqDiff, false_and, if_false]; rw [F3, q1], by simp only [uI_1, Nat.reduceEqDiff, false_and, and_false, if_false]; exact L1, fun _ => ?_, fun hD => cV_of (m := 4) (fun d hd Q hQ => ?_) rfl hD⟩
  · rw [eR]
    refine ⟨⟨tG_I (tG_I K1 (by omega)) (by omega), fun i hi => ?_, tT_pil (p := 25) (tT_j (p := 25) (A := 3) T3 (by omega)) hv (by omega) (by rw [uI_1, if_pos ⟨rfl, rfl⟩]; exact w1.1), ?_⟩, U1, Z1, vT_pil hv (by omega) ⟨w1.2.1, w1.2.2⟩, ?_⟩
    · have hi' : i < adv t n g 5 + 1 := by
        have hi2 : i < (gTd t n (gNm t n (adv t n g))) 5 := hi
        rw [five] at hi2; rw [adv_g (by omega)]; exact hi2
      simp only [uI_1, Nat.reduceEqDiff, false_and, if_false]
      rw [f3.1 14 (by omega)]
      exact z2'.2 i hi'
    · show σ3.2.2 2 7 = some 25
      exact s3
    · show (gTd t n (gNm t n (adv t n g))) 5 = _
      rw [five, h5]
      show _ = tPil τ (nN t (adv t n (gNm t n (adv t n g)))) 0 + tPil τ (nN t (adv t n (gNm t n (adv t n g)))) 1 + tPil τ (nN t (adv t n (gNm t n (adv t n g)))) 2
      rw [tPil_1, tPil_1, tPil_1, if_neg (by omega), if_neg (by omega), if_pos rfl, if_neg (by omega), if_neg (by omega)]
      omega
  · have hd1 : 1 ≤ d := by omega
    have hd2 : 2 ≤ d := by omega
    have hd3 : 3 ≤ d := by omega
    have hd4 : 4 ≤ d := by omega
    refine b30_0 ?_
    simp only [↓br_pos, ↓br_neg, ↓rF_I, ↓rF_L, ↓rF_R, ↓rF_N, rO_m, rB_m, ↓rI_m, wI_m, ↓rB2_m, ↓rB3_m, wB2_m, wB3_m, ↓rL_m, wL_m, ↓rQ_m, wQ_m, ↓lI_m, pI_m, pL_m, pR_m, sI_m, sBy_m, sBo_m, sL_m, sQ_m, fst_m, true_and, and_true, tg_some, ln_some, uI_1, uI_2, uL_1, uL_2, uL_3, uQ_1, uQ_2, uQ_3, rv_i, rv_l, rv_n, rv_b0, rv_b1, RMR, ne_eq, reduceCtorEq, not_false_eq_true, Option.getD_some, if_true, if_false, and_self, false_and, and_false, Nat.add_left_cancel_iff, Nat.add_eq_left, Nat.left_eq_add, Nat.one_ne_zero, Nat.reduceAdd, Nat.reduceLT, Nat.reduceLeDiff, Nat.reduceEqDiff, true_implies, false_implies, implies_true, Option.some.injEq, forall_eq', forall_eq, reduceCtorEq, brT, brF, br_s, i_10, i_01, ib_0_2, ib_1_2, tn_0, tn_1, Int32.le_refl, eq_self, rv_bN, rv_iM, RCX 0, RCG 2, RCT 4, RCT 15, RCT 25, RCS 35, RCS 49, RCH 63, RCP 67, RCB 72, RCR 77, RCM 81, RLY, lit_at hw, h7, c0, l12, s1, s2, c2, eb, en, e1 hd3, e2 hd4, s3, c3, e3 hd4, q1, on_succ]
    exact hQ
