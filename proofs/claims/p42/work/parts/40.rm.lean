def rShp (t : Nat → Nat) (n : Nat) (g : Rw) (nm : Nat → Int32) (τ : Rw) : Res :=
  if 8 ≤ τ 2 then (8 * g 0 + 4, g, nm, τ)
  else if nameF t (adv t n g) nm ≠ 0 then (nameF t (adv t n g) nm, g, nm, τ)
  else if toldF t n (gNm t n (adv t n g)) 7 1 999 ≠ 0 then (toldF t n (gNm t n (adv t n g)) 7 1 999, g, nm, τ)
  else if toldF t n (gTd t n (gNm t n (adv t n g))) 8 0 999 ≠ 0 then (toldF t n (gTd t n (gNm t n (adv t n g))) 8 0 999, g, nm, τ)
  else if toldF t n (gTd t n (gTd t n (gNm t n (adv t n g)))) 9 (numV t (adv t n (gTd t n (gNm t n (adv t n g))))) 999 ≠ 0 then (toldF t n (gTd t n (gTd t n (gNm t n (adv t n g)))) 9 (numV t (adv t n (gTd t n (gNm t n (adv t n g))))) 999, g, nm, τ)
  else if toldF t n (gTd t n (gTd t n (gTd t n (gNm t n (adv t n g))))) 10 1 99 ≠ 0 then (toldF t n (gTd t n (gTd t n (gTd t n (gNm t n (adv t n g))))) 10 1 99, g, nm, τ)
  else if toldF t n (gTd t n (gTd t n (gTd t n (gTd t n (gNm t n (adv t n g)))))) 11 1 20 ≠ 0 then (toldF t n (gTd t n (gTd t n (gTd t n (gTd t n (gNm t n (adv t n g)))))) 11 1 20, g, nm, τ)
  else if ¬ sayP t (gTd t n (gTd t n (gTd t n (gTd t n (gTd t n (gNm t n (adv t n g))))))) 12 then (0, (gTd t n (gTd t n (gTd t n (gTd t n (gTd t n (gNm t n (adv t n g))))))), nmS nm (adv t n g 5) (cdN t (adv t n g)), tShp τ (nN t (adv t n (gNm t n (adv t n g)))) (nN t (adv t n (gTd t n (gNm t n (adv t n g))))) (nN t (adv t n (gTd t n (gTd t n (gNm t n (adv t n g)))))) (nN t (adv t n (gTd t n (gTd t n (gTd t n (gNm t n (adv t n g))))))) (nN t (adv t n (gTd t n (gTd t n (gTd t n (gTd t n (gNm t n (adv t n g)))))))) 0)
  else if toldF t n (gTd t n (gTd t n (gTd t n (gTd t n (gTd t n (gNm t n (adv t n g))))))) 12 0 999 ≠ 0 then (toldF t n (gTd t n (gTd t n (gTd t n (gTd t n (gTd t n (gNm t n (adv t n g))))))) 12 0 999, g, nm, τ)
  else (0, (gTd t n (gTd t n (gTd t n (gTd t n (gTd t n (gTd t n (gNm t n (adv t n g)))))))), nmS nm (adv t n g 5) (cdN t (adv t n g)), tShp τ (nN t (adv t n (gNm t n (adv t n g)))) (nN t (adv t n (gTd t n (gNm t n (adv t n g))))) (nN t (adv t n (gTd t n (gTd t n (gNm t n (adv t n g)))))) (nN t (adv t n (gTd t n (gTd t n (gTd t n (gNm t n (adv t n g))))))) (nN t (adv t n (gTd t n (gTd t n (gTd t n (gTd t n (gNm t n (adv t n g)))))))) (nN t (adv t n (gTd t n (gTd t n (gTd t n (gTd t n (gTd t n (gNm t n (adv t n g))))))))))
theorem g_29_15 {w : mT} {σ : mS} {t : Nat → Nat} {n : Nat} {g τ : Rw} {nm : Nat → Int32} (hw : lit w) (ht : ∀ i, t i < 256) (hS : rS σ t n 15 g nm τ) (hV : rV n g τ) : ∃ σ', frX 15 σ σ' ∧ σ'.1 2 5 = Int32.ofNat (rLot t n g nm τ).1 ∧ σ'.1 15 0 = σ.1 15 0 ∧ ((rLot t n g nm τ).1 = 0 → rS σ' t n 15 (rLot t n g nm τ).2.1 (rLot t n g nm τ).2.2.1 (rLot t n g nm τ).2.2.2 ∧ rV n (rLot t n g nm τ).2.1 (rLot t n g nm τ).2.2.2) ∧ ∀ {D : Nat} {K : Hp → Prop}, 5 ≤ D → (wpV D 29 [.ref 2] (mW w σ) K ↔ K (mW w σ')) := by
  obtain ⟨hG, hN, hT, h7⟩ := hS
  obtain ⟨vg, h03, hv, h5⟩ := hV
  have c0 := hT.2.1
  have v0 := hv.1
  have v1 := hv.2.1
  have v2 := hv.2.2.1
  have h50 : σ.1 2 5 = 0 := by rw [hG.2.2.2.2.2.1, h03]; rfl
  have ll := on_lt (i := τ 0) (j := 12) (by omega) (by omega)
  by_cases a : 12 ≤ τ 0
  · have eR : (rLot t n g nm τ) = (8 * g 0 + 4, g, nm, τ) := if_pos a
    have l12 : (Int32.ofNat (τ 0) < (12 : Int32)) ↔ False := iff_false_intro (fun q => absurd (ll.mp q) (by omega))
    refine ⟨uI σ 2 5 (8 * Int32.ofNat (g 0) + 4), frX_I (by omega), by rw [eR, uI_1, if_pos ⟨rfl, rfl⟩]; exact f8_of, by rw [uI_1, if_neg (by omega)], fun q => absurd q (by rw [eR]; show ¬ 8 * g 0 + 4 = 0; omega), fun hD => cV_of (m := 4) (fun d hd Q hQ => ?_) rfl hD⟩
    have hd1 : 1 ≤ d := by omega
    have hd2 : 2 ≤ d := by omega
    have hd3 : 3 ≤ d := by omega
    have hd4 : 4 ≤ d := by omega
    refine b29_0 ?_
    simp only [↓br_pos, ↓br_neg, ↓rF_I, ↓rF_L, ↓rF_R, ↓rF_N, rO_m, rB_m, ↓rI_m, wI_m, ↓rB2_m, ↓rB3_m, wB2_m, wB3_m, ↓rL_m, wL_m, ↓rQ_m, wQ_m, ↓lI_m, pI_m, pL_m, pR_m, sI_m, sBy_m, sBo_m, sL_m, sQ_m, fst_m, true_and, and_true, tg_some, ln_some, uI_1, uI_2, uL_1, uL_2, uL_3, uQ_1, uQ_2, uQ_3, rv_i, rv_l, rv_n, rv_b0, rv_b1, RMR, ne_eq, reduceCtorEq, not_false_eq_true, Option.getD_some, if_true, if_false, and_self, false_and, and_false, Nat.add_left_cancel_iff, Nat.add_eq_left, Nat.left_eq_add, Nat.one_ne_zero, Nat.reduceAdd, Nat.reduceLT, Nat.reduceLeDiff, Nat.reduceEqDiff, true_implies, false_implies, implies_true, Option.some.injEq, forall_eq', forall_eq, reduceCtorEq, brT, brF, br_s, i_10, i_01, ib_0_2, ib_1_2, tn_0, tn_1, Int32.le_refl, eq_self, rv_bN, rv_iM, RCX 0, RCG 2, RCT 4, RCT 15, RCT 25, RCS 35, RCS 49, RCH 63, RCP 67, RCB 72, RCR 77, RCM 81, RLY, lit_at hw, h7, c0, l12, g_36 hw hG.2.2.1 h50 hd1]
    exact hQ
  have l12 : (Int32.ofNat (τ 0) < (12 : Int32)) ↔ True := iff_true_intro (ll.mpr (by omega))
  have eb : inB (Int32.ofNat (τ 0)) 12 = true := on_inB (by omega) (by omega)
  have en := on_nat (i := τ 0) (by omega)
  obtain ⟨σ1, f1, t1, e1⟩ := g_39 hw ht hG vg
  have va := vG_adv (t := t) vg
  have N1 : ∀ i, i < adv t n g 5 → σ1.1 14 i = nm i := by
    rw [adv_g (by omega)]
    intro i hi
    rw [f1.1 14 (by omega)]; exact hN i hi
  have s1 : σ1.2.2 2 7 = some 15 := by rw [f1.2]; exact h7
  obtain ⟨σ2, f2, F2, ⟨g2, G2, V2⟩, z2, e2⟩ := g_33 hw ht t1 va (by rw [adv_g (by omega)]; exact h03) (by rw [adv_g (by omega), h5]; omega) N1
  have r2 : ∀ a, 15 ≤ a → a < 25 → σ2.1 a = σ.1 a := fun a ha hb => by rw [f2.1 a (by omega) (by omega), f1.1 a (by omega)]
  have s2 : σ2.2.2 2 7 = some 15 := by rw [f2.2]; exact s1
  have c2 : σ2.1 15 2 = Int32.ofNat (τ 0) := by rw [r2 15 (by omega) (by omega)]; exact c0
  have x2 : frX 15 σ σ2 := frX_tr (frX_R f1) (frX_N f2)
  have T2 : tTold σ2 15 τ := tTold_fr hT (fun a h1 h2 => r2 a (by omega) (by omega))
  have hd45 : ∀ {d : Nat}, 4 ≤ d → 3 ≤ d := fun h => by omega
  by_cases b : nameF t (adv t n g) nm = 0
  case neg =>
    have n0 : σ2.1 2 5 ≠ 0 := f8_ne F2 b (by have := nameF_lt (t := t) (nm := nm) va; omega)
    have m1 : (uI σ2 16 (τ 0) (-1)).1 2 5 ≠ 0 := by simp only [uI_1, Nat.reduceEqDiff, false_and, if_false]; exact n0
    have eR : (rLot t n g nm τ) = (nameF t (adv t n g) nm, g, nm, τ) := by unfold rLot; rw [if_neg a, if_pos b]
    refine ⟨(uI (uI (uI σ2 16 (τ 0) (-1)) 17 (τ 0) (-1)) 15 2 (Int32.ofNat (τ 0 + 1))), frX_tr x2 (frX_tr (frX_I (by omega)) (frX_tr (frX_I (by omega)) (frX_I (by omega)))), by rw [eR]; simp only [uI_1, Nat.reduceEqDiff, false_and, if_false]; exact F2, by simp only [uI_1, Nat.reduceEqDiff, false_and, and_false, if_false]; exact (by rw [r2 15 (by omega) (by omega)]), fun q => absurd q (by rw [eR]; exact b), fun hD => cV_of (m := 4) (fun d hd Q hQ => ?_) rfl hD⟩
    have hd1 : 1 ≤ d := by omega
    have hd2 : 2 ≤ d := by omega
    have hd3 : 3 ≤ d := by omega
    have hd4 : 4 ≤ d := by omega
    refine b29_0 ?_
    simp only [↓br_pos, ↓br_neg, ↓rF_I, ↓rF_L, ↓rF_R, ↓rF_N, rO_m, rB_m, ↓rI_m, wI_m, ↓rB2_m, ↓rB3_m, wB2_m, wB3_m, ↓rL_m, wL_m, ↓rQ_m, wQ_m, ↓lI_m, pI_m, pL_m, pR_m, sI_m, sBy_m, sBo_m, sL_m, sQ_m, fst_m, true_and, and_true, tg_some, ln_some, uI_1, uI_2, uL_1, uL_2, uL_3, uQ_1, uQ_2, uQ_3, rv_i, rv_l, rv_n, rv_b0, rv_b1, RMR, ne_eq, reduceCtorEq, not_false_eq_true, Option.getD_some, if_true, if_false, and_self, false_and, and_false, Nat.add_left_cancel_iff, Nat.add_eq_left, Nat.left_eq_add, Nat.one_ne_zero, Nat.reduceAdd, Nat.reduceLT, Nat.reduceLeDiff, Nat.reduceEqDiff, true_implies, false_implies, implies_true, Option.some.injEq, forall_eq', forall_eq, reduceCtorEq, brT, brF, br_s, i_10, i_01, ib_0_2, ib_1_2, tn_0, tn_1, Int32.le_refl, eq_self, rv_bN, rv_iM, RCX 0, RCG 2, RCT 4, RCT 15, RCT 25, RCS 35, RCS 49, RCH 63, RCP 67, RCB 72, RCR 77, RCM 81, RLY, lit_at hw, h7, c0, l12, s1, s2, c2, eb, en, e1 hd3, e2 hd4, g_34n hw n0 hd1, g_34n hw m1 hd1, on_succ]
    exact hQ
  have z2' := z2 b
  have K0 : tG σ2 t n (gNm t n (adv t n g)) := z2'.1
  have U0 : vG n (gNm t n (adv t n g)) := vG_nm va
  have Z0 : (gNm t n (adv t n g)) 3 = 0 := by rw [gNm_3, adv_g (by omega)]; exact h03
  obtain ⟨σ3, f3, F3, ⟨g3, G3, V3⟩, z3, e3⟩ := g_34 (σ := σ2) (i := 4) (low := 1) (high := 9999) hw ht K0 U0 Z0 (by omega)
  have s3 : σ3.2.2 2 7 = some 15 := by rw [f3.2]; exact s2
  have r3 : ∀ a, 15 ≤ a → a < 25 → σ3.1 a = (σ2).1 a := fun a ha hb => f3.1 a (by omega)
  have c3 : σ3.1 15 2 = Int32.ofNat (τ 0) := by rw [r3 15 (by omega) (by omega)]; exact c2
  have L1 : σ3.1 15 0 = σ.1 15 0 := by rw [r3 15 (by omega) (by omega), r2 15 (by omega) (by omega)]
  have T3 : tTold σ3 15 τ := tTold_fr T2 (fun a h1 h2 => r3 a (by omega) (by omega))
  have x3 : frX 15 σ σ3 := frX_tr x2 (frX_R f3)
  by_cases q1 : toldF t n (gNm t n (adv t n g)) 4 1 9999 = 0
  case neg =>
    have n0 : σ3.1 2 5 ≠ 0 := f8_ne F3 q1 (by have := toldF_lt (t := t) (i := 4) (low := 1) (high := 9999) U0; omega)
    have m0 : (uI σ3 16 (τ 0) (-1)).1 2 5 ≠ 0 := by simp only [uI_1, Nat.reduceEqDiff, false_and, if_false]; exact n0
    have eR : (rLot t n g nm τ) = (toldF t n (gNm t n (adv t n g)) 4 1 9999, g, nm, τ) := by unfold rLot; rw [if_neg a, if_neg (fun q => q b), if_pos q1]
    refine ⟨(uI (uI (uI σ3 16 (τ 0) (-1)) 17 (τ 0) (-1)) 15 2 (Int32.ofNat (τ 0 + 1))), frX_tr x3 (frX_tr (frX_I (by omega)) (frX_tr (frX_I (by omega)) (frX_I (by omega)))), by rw [eR]; simp only [uI_1, Nat.reduceEqDiff, false_and, if_false]; exact F3, by simp only [uI_1, Nat.reduceEqDiff, false_and, and_false, if_false]; exact L1, fun q => absurd q (by rw [eR]; exact q1), fun hD => cV_of (m := 4) (fun d hd Q hQ => ?_) rfl hD⟩
    have hd1 : 1 ≤ d := by omega
    have hd2 : 2 ≤ d := by omega
    have hd3 : 3 ≤ d := by omega
    have hd4 : 4 ≤ d := by omega
    refine b29_0 ?_
    simp only [↓br_pos, ↓br_neg, ↓rF_I, ↓rF_L, ↓rF_R, ↓rF_N, rO_m, rB_m, ↓rI_m, wI_m, ↓rB2_m, ↓rB3_m, wB2_m, wB3_m, ↓rL_m, wL_m, ↓rQ_m, wQ_m, ↓lI_m, pI_m, pL_m, pR_m, sI_m, sBy_m, sBo_m, sL_m, sQ_m, fst_m, true_and, and_true, tg_some, ln_some, uI_1, uI_2, uL_1, uL_2, uL_3, uQ_1, uQ_2, uQ_3, rv_i, rv_l, rv_n, rv_b0, rv_b1, RMR, ne_eq, reduceCtorEq, not_false_eq_true, Option.getD_some, if_true, if_false, and_self, false_and, and_false, Nat.add_left_cancel_iff, Nat.add_eq_left, Nat.left_eq_add, Nat.one_ne_zero, Nat.reduceAdd, Nat.reduceLT, Nat.reduceLeDiff, Nat.reduceEqDiff, true_implies, false_implies, implies_true, Option.some.injEq, forall_eq', forall_eq, reduceCtorEq, brT, brF, br_s, i_10, i_01, ib_0_2, ib_1_2, tn_0, tn_1, Int32.le_refl, eq_self, rv_bN, rv_iM, RCX 0, RCG 2, RCT 4, RCT 15, RCT 25, RCS 35, RCS 49, RCH 63, RCP 67, RCB 72, RCR 77, RCM 81, RLY, lit_at hw, h7, c0, l12, s1, s2, c2, eb, en, e1 hd3, e2 hd4, s3, c3, e3 hd4, q1, g_34n hw m0 hd1, on_succ]
    exact hQ
  have w1 := told_v (lo := 1) (hi := 9999) rfl rfl (by omega) (by omega) q1
  have K1 : tG σ3 t n (gTd t n (gNm t n (adv t n g))) := z3 q1
  have U1 : vG n (gTd t n (gNm t n (adv t n g))) := vG_td U0
  have Z1 : (gTd t n (gNm t n (adv t n g))) 3 = 0 := by rw [gTd_g (by omega)]; exact Z0
  obtain ⟨σ4, f4, F4, ⟨g4, G4, V4⟩, z4, e4⟩ := g_34 (σ := uI σ3 16 (τ 0) (numV t (adv t n (gNm t n (adv t n g))))) (i := 5) (low := 0) (high := 999) hw ht (tG_I K1 (by omega)) U1 Z1 (by omega)
  have s4 : σ4.2.2 2 7 = some 15 := by rw [f4.2]; exact s3
  have r4 : ∀ a, 15 ≤ a → a < 25 → σ4.1 a = (uI σ3 16 (τ 0) (numV t (adv t n (gNm t n (adv t n g))))).1 a := fun a ha hb => f4.1 a (by omega)
  have c4 : σ4.1 15 2 = Int32.ofNat (τ 0) := by rw [r4 15 (by omega) (by omega), uI_1, if_neg (by omega)]; exact c3
  have L2 : σ4.1 15 0 = σ.1 15 0 := by rw [r4 15 (by omega) (by omega), uI_1, if_neg (by omega)]; exact L1
  have T4 : tTold σ4 15 τ := tTold_fr (tT_j (p := 15) (A := 1) T3 (by omega)) (fun a h1 h2 => r4 a (by omega) (by omega))
  have x4 : frX 15 σ σ4 := frX_tr x3 (frX_tr (frX_I (by omega)) (frX_R f4))
  have C2_1 : σ4.1 16 (τ 0) = (numV t (adv t n (gNm t n (adv t n g)))) := by rw [r4 16 (by omega) (by omega), uI_1, if_pos ⟨rfl, rfl⟩]
  by_cases q2 : toldF t n (gTd t n (gNm t n (adv t n g))) 5 0 999 = 0
  case neg =>
    have n0 : σ4.1 2 5 ≠ 0 := f8_ne F4 q2 (by have := toldF_lt (t := t) (i := 5) (low := 0) (high := 999) U1; omega)
    have eR : (rLot t n g nm τ) = (toldF t n (gTd t n (gNm t n (adv t n g))) 5 0 999, g, nm, τ) := by unfold rLot; rw [if_neg a, if_neg (fun q => q b), if_neg (fun q => q q1), if_pos q2]
    refine ⟨(uI (uI σ4 17 (τ 0) (-1)) 15 2 (Int32.ofNat (τ 0 + 1))), frX_tr x4 (frX_tr (frX_I (by omega)) (frX_I (by omega))), by rw [eR]; simp only [uI_1, Nat.reduceEqDiff, false_and, if_false]; exact F4, by simp only [uI_1, Nat.reduceEqDiff, false_and, and_false, if_false]; exact L2, fun q => absurd q (by rw [eR]; exact q2), fun hD => cV_of (m := 4) (fun d hd Q hQ => ?_) rfl hD⟩
    have hd1 : 1 ≤ d := by omega
    have hd2 : 2 ≤ d := by omega
    have hd3 : 3 ≤ d := by omega
    have hd4 : 4 ≤ d := by omega
    refine b29_0 ?_
    simp only [↓br_pos, ↓br_neg, ↓rF_I, ↓rF_L, ↓rF_R, ↓rF_N, rO_m, rB_m, ↓rI_m, wI_m, ↓rB2_m, ↓rB3_m, wB2_m, wB3_m, ↓rL_m, wL_m, ↓rQ_m, wQ_m, ↓lI_m, pI_m, pL_m, pR_m, sI_m, sBy_m, sBo_m, sL_m, sQ_m, fst_m, true_and, and_true, tg_some, ln_some, uI_1, uI_2, uL_1, uL_2, uL_3, uQ_1, uQ_2, uQ_3, rv_i, rv_l, rv_n, rv_b0, rv_b1, RMR, ne_eq, reduceCtorEq, not_false_eq_true, Option.getD_some, if_true, if_false, and_self, false_and, and_false, Nat.add_left_cancel_iff, Nat.add_eq_left, Nat.left_eq_add, Nat.one_ne_zero, Nat.reduceAdd, Nat.reduceLT, Nat.reduceLeDiff, Nat.reduceEqDiff, true_implies, false_implies, implies_true, Option.some.injEq, forall_eq', forall_eq, reduceCtorEq, brT, brF, br_s, i_10, i_01, ib_0_2, ib_1_2, tn_0, tn_1, Int32.le_refl, eq_self, rv_bN, rv_iM, RCX 0, RCG 2, RCT 4, RCT 15, RCT 25, RCS 35, RCS 49, RCH 63, RCP 67, RCB 72, RCR 77, RCM 81, RLY, lit_at hw, h7, c0, l12, s1, s2, c2, eb, en, e1 hd3, e2 hd4, s3, c3, e3 hd4, q1, s4, c4, e4 hd4, q2, on_succ]
    exact hQ
  have w2 := told_v (lo := 0) (hi := 999) rfl rfl (by omega) (by omega) q2
  have K2 : tG σ4 t n (gTd t n (gTd t n (gNm t n (adv t n g)))) := z4 q2
  have U2 : vG n (gTd t n (gTd t n (gNm t n (adv t n g)))) := vG_td U1
  have Z2 : (gTd t n (gTd t n (gNm t n (adv t n g)))) 3 = 0 := by rw [gTd_g (by omega)]; exact Z1
  have five : (gTd t n (gTd t n (gNm t n (adv t n g)))) 5 = g 5 + 1 := by rw [gTd_g (by omega), gTd_g (by omega), gNm_5, adv_g (by omega)]
  have eR : (rLot t n g nm τ) = (0, (gTd t n (gTd t n (gNm t n (adv t n g)))), nmS nm (adv t n g 5) (cdN t (adv t n g)), tLot τ (nN t (adv t n (gNm t n (adv t n g)))) (nN t (adv t n (gTd t n (gNm t n (adv t n g)))))) := by unfold rLot; rw [if_neg a, if_neg (fun q => q b), if_neg (fun q => q q1), if_neg (fun q => q q2)]
  refine ⟨(uI (uI σ4 17 (τ 0) (numV t (adv t n (gTd t n (gNm t n (adv t n g)))))) 15 2 (Int32.ofNat (τ 0 + 1))), frX_tr x4 (frX_tr (frX_I (by omega)) (frX_I (by omega))), by rw [eR]; simp only [uI_1, Nat.reduceEqDiff, false_and, if_false]; rw [F4, q2], by simp only [uI_1, Nat.reduceEqDiff, false_and, and_false, if_false]; exact L2, fun _ => ?_, fun hD => cV_of (m := 4) (fun d hd Q hQ => ?_) rfl hD⟩
  · rw [eR]
    refine ⟨⟨tG_I (tG_I K2 (by omega)) (by omega), fun i hi => ?_, tT_lot (p := 15) (tT_j (p := 15) (A := 2) T4 (by omega)) hv (by omega) (by rw [uI_1, if_neg (by omega), C2_1]; exact w1.1) (by rw [uI_1, if_pos ⟨rfl, rfl⟩]; exact w2.1), ?_⟩, U2, Z2, vT_lot hv (by omega) ⟨w1.2.1, w1.2.2⟩ w2.2.2, ?_⟩
    · have hi' : i < adv t n g 5 + 1 := by
        have hi2 : i < (gTd t n (gTd t n (gNm t n (adv t n g)))) 5 := hi
        rw [five] at hi2; rw [adv_g (by omega)]; exact hi2
      simp only [uI_1, Nat.reduceEqDiff, false_and, if_false]
      rw [f4.1 14 (by omega), uI_1, if_neg (by omega), f3.1 14 (by omega)]
      exact z2'.2 i hi'
    · show σ4.2.2 2 7 = some 15
      exact s4
    · show (gTd t n (gTd t n (gNm t n (adv t n g)))) 5 = _
      rw [five, h5]
      show _ = tLot τ (nN t (adv t n (gNm t n (adv t n g)))) (nN t (adv t n (gTd t n (gNm t n (adv t n g))))) 0 + tLot τ (nN t (adv t n (gNm t n (adv t n g)))) (nN t (adv t n (gTd t n (gNm t n (adv t n g))))) 1 + tLot τ (nN t (adv t n (gNm t n (adv t n g)))) (nN t (adv t n (gTd t n (gNm t n (adv t n g))))) 2
      rw [tLot_1, tLot_1, tLot_1, if_pos rfl, if_neg (by omega), if_neg (by omega), if_neg (by omega), if_neg (by omega), if_neg (by omega), if_neg (by omega)]
      omega
  · have hd1 : 1 ≤ d := by omega
    have hd2 : 2 ≤ d := by omega
    have hd3 : 3 ≤ d := by omega
    have hd4 : 4 ≤ d := by omega
    refine b29_0 ?_
    simp only [↓br_pos, ↓br_neg, ↓rF_I, ↓rF_L, ↓rF_R, ↓rF_N, rO_m, rB_m, ↓rI_m, wI_m, ↓rB2_m, ↓rB3_m, wB2_m, wB3_m, ↓rL_m, wL_m, ↓rQ_m, wQ_m, ↓lI_m, pI_m, pL_m, pR_m, sI_m, sBy_m, sBo_m, sL_m, sQ_m, fst_m, true_and, and_true, tg_some, ln_some, uI_1, uI_2, uL_1, uL_2, uL_3, uQ_1, uQ_2, uQ_3, rv_i, rv_l, rv_n, rv_b0, rv_b1, RMR, ne_eq, reduceCtorEq, not_false_eq_true, Option.getD_some, if_true, if_false, and_self, false_and, and_false, Nat.add_left_cancel_iff, Nat.add_eq_left, Nat.left_eq_add, Nat.one_ne_zero, Nat.reduceAdd, Nat.reduceLT, Nat.reduceLeDiff, Nat.reduceEqDiff, true_implies, false_implies, implies_true, Option.some.injEq, forall_eq', forall_eq, reduceCtorEq, brT, brF, br_s, i_10, i_01, ib_0_2, ib_1_2, tn_0, tn_1, Int32.le_refl, eq_self, rv_bN, rv_iM, RCX 0, RCG 2, RCT 4, RCT 15, RCT 25, RCS 35, RCS 49, RCH 63, RCP 67, RCB 72, RCR 77, RCM 81, RLY, lit_at hw, h7, c0, l12, s1, s2, c2, eb, en, e1 hd3, e2 hd4, s3, c3, e3 hd4, q1, s4, c4, e4 hd4, q2, on_succ]
    exact hQ
theorem g_29_25 {w : mT} {σ : mS} {t : Nat → Nat} {n : Nat} {g τ : Rw} {nm : Nat → Int32} (hw : lit w) (ht : ∀ i, t i < 256) (hS : rS σ t n 25 g nm τ) (hV : rV n g τ) : ∃ σ', frX 25 σ σ' ∧ σ'.1 2 5 = Int32.ofNat (rLot t n g nm τ).1 ∧ σ'.1 25 0 = σ.1 25 0 ∧ ((rLot t n g nm τ).1 = 0 → rS σ' t n 25 (rLot t n g nm τ).2.1 (rLot t n g nm τ).2.2.1 (rLot t n g nm τ).2.2.2 ∧ rV n (rLot t n g nm τ).2.1 (rLot t n g nm τ).2.2.2) ∧ ∀ {D : Nat} {K : Hp → Prop}, 5 ≤ D → (wpV D 29 [.ref 2] (mW w σ) K ↔ K (mW w σ')) := by
  obtain ⟨hG, hN, hT, h7⟩ := hS
  obtain ⟨vg, h03, hv, h5⟩ := hV
  have c0 := hT.2.1
  have v0 := hv.1
  have v1 := hv.2.1
  have v2 := hv.2.2.1
  have h50 : σ.1 2 5 = 0 := by rw [hG.2.2.2.2.2.1, h03]; rfl
  have ll := on_lt (i := τ 0) (j := 12) (by omega) (by omega)
  by_cases a : 12 ≤ τ 0
  · have eR : (rLot t n g nm τ) = (8 * g 0 + 4, g, nm, τ) := if_pos a
    have l12 : (Int32.ofNat (τ 0) < (12 : Int32)) ↔ False := iff_false_intro (fun q => absurd (ll.mp q) (by omega))
    refine ⟨uI σ 2 5 (8 * Int32.ofNat (g 0) + 4), frX_I (by omega), by rw [eR, uI_1, if_pos ⟨rfl, rfl⟩]; exact f8_of, by rw [uI_1, if_neg (by omega)], fun q => absurd q (by rw [eR]; show ¬ 8 * g 0 + 4 = 0; omega), fun hD => cV_of (m := 4) (fun d hd Q hQ => ?_) rfl hD⟩
    have hd1 : 1 ≤ d := by omega
    have hd2 : 2 ≤ d := by omega
    have hd3 : 3 ≤ d := by omega
    have hd4 : 4 ≤ d := by omega
    refine b29_0 ?_
    simp only [↓br_pos, ↓br_neg, ↓rF_I, ↓rF_L, ↓rF_R, ↓rF_N, rO_m, rB_m, ↓rI_m, wI_m, ↓rB2_m, ↓rB3_m, wB2_m, wB3_m, ↓rL_m, wL_m, ↓rQ_m, wQ_m, ↓lI_m, pI_m, pL_m, pR_m, sI_m, sBy_m, sBo_m, sL_m, sQ_m, fst_m, true_and, and_true, tg_some, ln_some, uI_1, uI_2, uL_1, uL_2, uL_3, uQ_1, uQ_2, uQ_3, rv_i, rv_l, rv_n, rv_b0, rv_b1, RMR, ne_eq, reduceCtorEq, not_false_eq_true, Option.getD_some, if_true, if_false, and_self, false_and, and_false, Nat.add_left_cancel_iff, Nat.add_eq_left, Nat.left_eq_add, Nat.one_ne_zero, Nat.reduceAdd, Nat.reduceLT, Nat.reduceLeDiff, Nat.reduceEqDiff, true_implies, false_implies, implies_true, Option.some.injEq, forall_eq', forall_eq, reduceCtorEq, brT, brF, br_s, i_10, i_01, ib_0_2, ib_1_2, tn_0, tn_1, Int32.le_refl, eq_self, rv_bN, rv_iM, RCX 0, RCG 2, RCT 4, RCT 15, RCT 25, RCS 35, RCS 49, RCH 63, RCP 67, RCB 72, RCR 77, RCM 81, RLY, lit_at hw, h7, c0, l12, g_36 hw hG.2.2.1 h50 hd1]
    exact hQ
  have l12 : (Int32.ofNat (τ 0) < (12 : Int32)) ↔ True := iff_true_intro (ll.mpr (by omega))
  have eb : inB (Int32.ofNat (τ 0)) 12 = true := on_inB (by omega) (by omega)
  have en := on_nat (i := τ 0) (by omega)
  obtain ⟨σ1, f1, t1, e1⟩ := g_39 hw ht hG vg
  have va := vG_adv (t := t) vg
  have N1 : ∀ i, i < adv t n g 5 → σ1.1 14 i = nm i := by
    rw [adv_g (by omega)]
    intro i hi
    rw [f1.1 14 (by omega)]; exact hN i hi
  have s1 : σ1.2.2 2 7 = some 25 := by rw [f1.2]; exact h7
  obtain ⟨σ2, f2, F2, ⟨g2, G2, V2⟩, z2, e2⟩ := g_33 hw ht t1 va (by rw [adv_g (by omega)]; exact h03) (by rw [adv_g (by omega), h5]; omega) N1
  have r2 : ∀ a, 25 ≤ a → a < 35 → σ2.1 a = σ.1 a := fun a ha hb => by rw [f2.1 a (by omega) (by omega), f1.1 a (by omega)]
  have s2 : σ2.2.2 2 7 = some 25 := by rw [f2.2]; exact s1
  have c2 : σ2.1 25 2 = Int32.ofNat (τ 0) := by rw [r2 25 (by omega) (by omega)]; exact c0
  have x2 : frX 25 σ σ2 := frX_tr (frX_R f1) (frX_N f2)
  have T2 : tTold σ2 25 τ := tTold_fr hT (fun a h1 h2 => r2 a (by omega) (by omega))
  have hd45 : ∀ {d : Nat}, 4 ≤ d → 3 ≤ d := fun h => by omega
  by_cases b : nameF t (adv t n g) nm = 0
  case neg =>
    have n0 : σ2.1 2 5 ≠ 0 := f8_ne F2 b (by have := nameF_lt (t := t) (nm := nm) va; omega)
    have m1 : (uI σ2 26 (τ 0) (-1)).1 2 5 ≠ 0 := by simp only [uI_1, Nat.reduceEqDiff, false_and, if_false]; exact n0
    have eR : (rLot t n g nm τ) = (nameF t (adv t n g) nm, g, nm, τ) := by unfold rLot; rw [if_neg a, if_pos b]
    refine ⟨(uI (uI (uI σ2 26 (τ 0) (-1)) 27 (τ 0) (-1)) 25 2 (Int32.ofNat (τ 0 + 1))), frX_tr x2 (frX_tr (frX_I (by omega)) (frX_tr (frX_I (by omega)) (frX_I (by omega)))), by rw [eR]; simp only [uI_1, Nat.reduceEqDiff, false_and, if_false]; exact F2, by simp only [uI_1, Nat.reduceEqDiff, false_and, and_false, if_false]; exact (by rw [r2 25 (by omega) (by omega)]), fun q => absurd q (by rw [eR]; exact b), fun hD => cV_of (m := 4) (fun d hd Q hQ => ?_) rfl hD⟩
    have hd1 : 1 ≤ d := by omega
    have hd2 : 2 ≤ d := by omega
    have hd3 : 3 ≤ d := by omega
    have hd4 : 4 ≤ d := by omega
    refine b29_0 ?_
    simp only [↓br_pos, ↓br_neg, ↓rF_I, ↓rF_L, ↓rF_R, ↓rF_N, rO_m, rB_m, ↓rI_m, wI_m, ↓rB2_m, ↓rB3_m, wB2_m, wB3_m, ↓rL_m, wL_m, ↓rQ_m, wQ_m, ↓lI_m, pI_m, pL_m, pR_m, sI_m, sBy_m, sBo_m, sL_m, sQ_m, fst_m, true_and, and_true, tg_some, ln_some, uI_1, uI_2, uL_1, uL_2, uL_3, uQ_1, uQ_2, uQ_3, rv_i, rv_l, rv_n, rv_b0, rv_b1, RMR, ne_eq, reduceCtorEq, not_false_eq_true, Option.getD_some, if_true, if_false, and_self, false_and, and_false, Nat.add_left_cancel_iff, Nat.add_eq_left, Nat.left_eq_add, Nat.one_ne_zero, Nat.reduceAdd, Nat.reduceLT, Nat.reduceLeDiff, Nat.reduceEqDiff, true_implies, false_implies, implies_true, Option.some.injEq, forall_eq', forall_eq, reduceCtorEq, brT, brF, br_s, i_10, i_01, ib_0_2, ib_1_2, tn_0, tn_1, Int32.le_refl, eq_self, rv_bN, rv_iM, RCX 0, RCG 2, RCT 4, RCT 15, RCT 25, RCS 35, RCS 49, RCH 63, RCP 67, RCB 72, RCR 77, RCM 81, RLY, lit_at hw, h7, c0, l12, s1, s2, c2, eb, en, e1 hd3, e2 hd4, g_34n hw n0 hd1, g_34n hw m1 hd1, on_succ]
    exact hQ
  have z2' := z2 b
  have K0 : tG σ2 t n (gNm t n (adv t n g)) := z2'.1
  have U0 : vG n (gNm t n (adv t n g)) := vG_nm va
  have Z0 : (gNm t n (adv t n g)) 3 = 0 := by rw [gNm_3, adv_g (by omega)]; exact h03
  obtain ⟨σ3, f3, F3, ⟨g3, G3, V3⟩, z3, e3⟩ := g_34 (σ := σ2) (i := 4) (low := 1) (high := 9999) hw ht K0 U0 Z0 (by omega)
  have s3 : σ3.2.2 2 7 = some 25 := by rw [f3.2]; exact s2
  have r3 : ∀ a, 25 ≤ a → a < 35 → σ3.1 a = (σ2).1 a := fun a ha hb => f3.1 a (by omega)
  have c3 : σ3.1 25 2 = Int32.ofNat (τ 0) := by rw [r3 25 (by omega) (by omega)]; exact c2
  have L1 : σ3.1 25 0 = σ.1 25 0 := by rw [r3 25 (by omega) (by omega), r2 25 (by omega) (by omega)]
  have T3 : tTold σ3 25 τ := tTold_fr T2 (fun a h1 h2 => r3 a (by omega) (by omega))
  have x3 : frX 25 σ σ3 := frX_tr x2 (frX_R f3)
  by_cases q1 : toldF t n (gNm t n (adv t n g)) 4 1 9999 = 0
  case neg =>
    have n0 : σ3.1 2 5 ≠ 0 := f8_ne F3 q1 (by have := toldF_lt (t := t) (i := 4) (low := 1) (high := 9999) U0; omega)
    have m0 : (uI σ3 26 (τ 0) (-1)).1 2 5 ≠ 0 := by simp only [uI_1, Nat.reduceEqDiff, false_and, if_false]; exact n0
    have eR : (rLot t n g nm τ) = (toldF t n (gNm t n (adv t n g)) 4 1 9999, g, nm, τ) := by unfold rLot; rw [if_neg a, if_neg (fun q => q b), if_pos q1]
    refine ⟨(uI (uI (uI σ3 26 (τ 0) (-1)) 27 (τ 0) (-1)) 25 2 (Int32.ofNat (τ 0 + 1))), frX_tr x3 (frX_tr (frX_I (by omega)) (frX_tr (frX_I (by omega)) (frX_I (by omega)))), by rw [eR]; simp only [uI_1, Nat.reduceEqDiff, false_and, if_false]; exact F3, by simp only [uI_1, Nat.reduceEqDiff, false_and, and_false, if_false]; exact L1, fun q => absurd q (by rw [eR]; exact q1), fun hD => cV_of (m := 4) (fun d hd Q hQ => ?_) rfl hD⟩
    have hd1 : 1 ≤ d := by omega
    have hd2 : 2 ≤ d := by omega
    have hd3 : 3 ≤ d := by omega
    have hd4 : 4 ≤ d := by omega
    refine b29_0 ?_
    simp only [↓br_pos, ↓br_neg, ↓rF_I, ↓rF_L, ↓rF_R, ↓rF_N, rO_m, rB_m, ↓rI_m, wI_m, ↓rB2_m, ↓rB3_m, wB2_m, wB3_m, ↓rL_m, wL_m, ↓rQ_m, wQ_m, ↓lI_m, pI_m, pL_m, pR_m, sI_m, sBy_m, sBo_m, sL_m, sQ_m, fst_m, true_and, and_true, tg_some, ln_some, uI_1, uI_2, uL_1, uL_2, uL_3, uQ_1, uQ_2, uQ_3, rv_i, rv_l, rv_n, rv_b0, rv_b1, RMR, ne_eq, reduceCtorEq, not_false_eq_true, Option.getD_some, if_true, if_false, and_self, false_and, and_false, Nat.add_left_cancel_iff, Nat.add_eq_left, Nat.left_eq_add, Nat.one_ne_zero, Nat.reduceAdd, Nat.reduceLT, Nat.reduceLeDiff, Nat.reduceEqDiff, true_implies, false_implies, implies_true, Option.some.injEq, forall_eq', forall_eq, reduceCtorEq, brT, brF, br_s, i_10, i_01, ib_0_2, ib_1_2, tn_0, tn_1, Int32.le_refl, eq_self, rv_bN, rv_iM, RCX 0, RCG 2, RCT 4, RCT 15, RCT 25, RCS 35, RCS 49, RCH 63, RCP 67, RCB 72, RCR 77, RCM 81, RLY, lit_at hw, h7, c0, l12, s1, s2, c2, eb, en, e1 hd3, e2 hd4, s3, c3, e3 hd4, q1, g_34n hw m0 hd1, on_succ]
    exact hQ
  have w1 := told_v (lo := 1) (hi := 9999) rfl rfl (by omega) (by omega) q1
  have K1 : tG σ3 t n (gTd t n (gNm t n (adv t n g))) := z3 q1
  have U1 : vG n (gTd t n (gNm t n (adv t n g))) := vG_td U0
  have Z1 : (gTd t n (gNm t n (adv t n g))) 3 = 0 := by rw [gTd_g (by omega)]; exact Z0
  obtain ⟨σ4, f4, F4, ⟨g4, G4, V4⟩, z4, e4⟩ := g_34 (σ := uI σ3 26 (τ 0) (numV t (adv t n (gNm t n (adv t n g))))) (i := 5) (low := 0) (high := 999) hw ht (tG_I K1 (by omega)) U1 Z1 (by omega)
  have s4 : σ4.2.2 2 7 = some 25 := by rw [f4.2]; exact s3
  have r4 : ∀ a, 25 ≤ a → a < 35 → σ4.1 a = (uI σ3 26 (τ 0) (numV t (adv t n (gNm t n (adv t n g))))).1 a := fun a ha hb => f4.1 a (by omega)
  have c4 : σ4.1 25 2 = Int32.ofNat (τ 0) := by rw [r4 25 (by omega) (by omega), uI_1, if_neg (by omega)]; exact c3
  have L2 : σ4.1 25 0 = σ.1 25 0 := by rw [r4 25 (by omega) (by omega), uI_1, if_neg (by omega)]; exact L1
  have T4 : tTold σ4 25 τ := tTold_fr (tT_j (p := 25) (A := 1) T3 (by omega)) (fun a h1 h2 => r4 a (by omega) (by omega))
  have x4 : frX 25 σ σ4 := frX_tr x3 (frX_tr (frX_I (by omega)) (frX_R f4))
  have C2_1 : σ4.1 26 (τ 0) = (numV t (adv t n (gNm t n (adv t n g)))) := by rw [r4 26 (by omega) (by omega), uI_1, if_pos ⟨rfl, rfl⟩]
  by_cases q2 : toldF t n (gTd t n (gNm t n (adv t n g))) 5 0 999 = 0
  case neg =>
    have n0 : σ4.1 2 5 ≠ 0 := f8_ne F4 q2 (by have := toldF_lt (t := t) (i := 5) (low := 0) (high := 999) U1; omega)
    have eR : (rLot t n g nm τ) = (toldF t n (gTd t n (gNm t n (adv t n g))) 5 0 999, g, nm, τ) := by unfold rLot; rw [if_neg a, if_neg (fun q => q b), if_neg (fun q => q q1), if_pos q2]
    refine ⟨(uI (uI σ4 27 (τ 0) (-1)) 25 2 (Int32.ofNat (τ 0 + 1))), frX_tr x4 (frX_tr (frX_I (by omega)) (frX_I (by omega))), by rw [eR]; simp only [uI_1, Nat.reduceEqDiff, false_and, if_false]; exact F4, by simp only [uI_1, Nat.reduceEqDiff, false_and, and_false, if_false]; exact L2, fun q => absurd q (by rw [eR]; exact q2), fun hD => cV_of (m := 4) (fun d hd Q hQ => ?_) rfl hD⟩
    have hd1 : 1 ≤ d := by omega
    have hd2 : 2 ≤ d := by omega
    have hd3 : 3 ≤ d := by omega
    have hd4 : 4 ≤ d := by omega
    refine b29_0 ?_
    simp only [↓br_pos, ↓br_neg, ↓rF_I, ↓rF_L, ↓rF_R, ↓rF_N, rO_m, rB_m, ↓rI_m, wI_m, ↓rB2_m, ↓rB3_m, wB2_m, wB3_m, ↓rL_m, wL_m, ↓rQ_m, wQ_m, ↓lI_m, pI_m, pL_m, pR_m, sI_m, sBy_m, sBo_m, sL_m, sQ_m, fst_m, true_and, and_true, tg_some, ln_some, uI_1, uI_2, uL_1, uL_2, uL_3, uQ_1, uQ_2, uQ_3, rv_i, rv_l, rv_n, rv_b0, rv_b1, RMR, ne_eq, reduceCtorEq, not_false_eq_true, Option.getD_some, if_true, if_false, and_self, false_and, and_false, Nat.add_left_cancel_iff, Nat.add_eq_left, Nat.left_eq_add, Nat.one_ne_zero, Nat.reduceAdd, Nat.reduceLT, Nat.reduceLeDiff, Nat.reduceEqDiff, true_implies, false_implies, implies_true, Option.some.injEq, forall_eq', forall_eq, reduceCtorEq, brT, brF, br_s, i_10, i_01, ib_0_2, ib_1_2, tn_0, tn_1, Int32.le_refl, eq_self, rv_bN, rv_iM, RCX 0, RCG 2, RCT 4, RCT 15, RCT 25, RCS 35, RCS 49, RCH 63, RCP 67, RCB 72, RCR 77, RCM 81, RLY, lit_at hw, h7, c0, l12, s1, s2, c2, eb, en, e1 hd3, e2 hd4, s3, c3, e3 hd4, q1, s4, c4, e4 hd4, q2, on_succ]
    exact hQ
  have w2 := told_v (lo := 0) (hi := 999) rfl rfl (by omega) (by omega) q2
  have K2 : tG σ4 t n (gTd t n (gTd t n (gNm t n (adv t n g)))) := z4 q2
  have U2 : vG n (gTd t n (gTd t n (gNm t n (adv t n g)))) := vG_td U1
  have Z2 : (gTd t n (gTd t n (gNm t n (adv t n g)))) 3 = 0 := by rw [gTd_g (by omega)]; exact Z1
  have five : (gTd t n (gTd t n (gNm t n (adv t n g)))) 5 = g 5 + 1 := by rw [gTd_g (by omega), gTd_g (by omega), gNm_5, adv_g (by omega)]
  have eR : (rLot t n g nm τ) = (0, (gTd t n (gTd t n (gNm t n (adv t n g)))), nmS nm (adv t n g 5) (cdN t (adv t n g)), tLot τ (nN t (adv t n (gNm t n (adv t n g)))) (nN t (adv t n (gTd t n (gNm t n (adv t n g)))))) := by unfold rLot; rw [if_neg a, if_neg (fun q => q b), if_neg (fun q => q q1), if_neg (fun q => q q2)]
  refine ⟨(uI (uI σ4 27 (τ 0) (numV t (adv t n (gTd t n (gNm t n (adv t n g)))))) 25 2 (Int32.ofNat (τ 0 + 1))), frX_tr x4 (frX_tr (frX_I (by omega)) (frX_I (by omega))), by rw [eR]; simp only [uI_1, Nat.reduceEqDiff, false_and, if_false]; rw [F4, q2], by simp only [uI_1, Nat.reduceEqDiff, false_and, and_false, if_false]; exact L2, fun _ => ?_, fun hD => cV_of (m := 4) (fun d hd Q hQ => ?_) rfl hD⟩
  · rw [eR]
    refine ⟨⟨tG_I (tG_I K2 (by omega)) (by omega), fun i hi => ?_, tT_lot (p := 25) (tT_j (p := 25) (A := 2) T4 (by omega)) hv (by omega) (by rw [uI_1, if_neg (by omega), C2_1]; exact w1.1) (by rw [uI_1, if_pos ⟨rfl, rfl⟩]; exact w2.1), ?_⟩, U2, Z2, vT_lot hv (by omega) ⟨w1.2.1, w1.2.2⟩ w2.2.2, ?_⟩
    · have hi' : i < adv t n g 5 + 1 := by
        have hi2 : i < (gTd t n (gTd t n (gNm t n (adv t n g)))) 5 := hi
        rw [five] at hi2; rw [adv_g (by omega)]; exact hi2
      simp only [uI_1, Nat.reduceEqDiff, false_and, if_false]
      rw [f4.1 14 (by omega), uI_1, if_neg (by omega), f3.1 14 (by omega)]
      exact z2'.2 i hi'
    · show σ4.2.2 2 7 = some 25
      exact s4
    · show (gTd t n (gTd t n (gNm t n (adv t n g)))) 5 = _
      rw [five, h5]
      show _ = tLot τ (nN t (adv t n (gNm t n (adv t n g)))) (nN t (adv t n (gTd t n (gNm t n (adv t n g))))) 0 + tLot τ (nN t (adv t n (gNm t n (adv t n g)))) (nN t (adv t n (gTd t n (gNm t n (adv t n g))))) 1 + tLot τ (nN t (adv t n (gNm t n (adv t n g)))) (nN t (adv t n (gTd t n (gNm t n (adv t n g))))) 2
      rw [tLot_1, tLot_1, tLot_1, if_pos rfl, if_neg (by omega), if_neg (by omega), if_neg (by omega), if_neg (by omega), if_neg (by omega), if_neg (by omega)]
      omega
  · have hd1 : 1 ≤ d := by omega
    have hd2 : 2 ≤ d := by omega
    have hd3 : 3 ≤ d := by omega
    have hd4 : 4 ≤ d := by omega
    refine b29_0 ?_
    simp only [↓br_pos, ↓br_neg, ↓rF_I, ↓rF_L, ↓rF_R, ↓rF_N, rO_m, rB_m, ↓rI_m, wI_m, ↓rB2_m, ↓rB3_m, wB2_m, wB3_m, ↓rL_m, wL_m, ↓rQ_m, wQ_m, ↓lI_m, pI_m, pL_m, pR_m, sI_m, sBy_m, sBo_m, sL_m, sQ_m, fst_m, true_and, and_true, tg_some, ln_some, uI_1, uI_2, uL_1, uL_2, uL_3, uQ_1, uQ_2, uQ_3, rv_i, rv_l, rv_n, rv_b0, rv_b1, RMR, ne_eq, reduceCtorEq, not_false_eq_true, Option.getD_some, if_true, if_false, and_self, false_and, and_false, Nat.add_left_cancel_iff, Nat.add_eq_left, Nat.left_eq_add, Nat.one_ne_zero, Nat.reduceAdd, Nat.reduceLT, Nat.reduceLeDiff, Nat.reduceEqDiff, true_implies, false_implies, implies_true, Option.some.injEq, forall_eq', forall_eq, reduceCtorEq, brT, brF, br_s, i_10, i_01, ib_0_2, ib_1_2, tn_0, tn_1, Int32.le_refl, eq_self, rv_bN, rv_iM, RCX 0, RCG 2, RCT 4, RCT 15, RCT 25, RCS 35, RCS 49, RCH 63, RCP 67, RCB 72, RCR 77, RCM 81, RLY, lit_at hw, h7, c0, l12, s1, s2, c2, eb, en, e1 hd3, e2 hd4, s3, c3, e3 hd4, q1, s4, c4, e4 hd4, q2, on_succ]
    exact hQ
theorem g_30_15 {w : mT} {σ : mS} {t : Nat → Nat} {n : Nat} {g τ : Rw} {nm : Nat → Int32} (hw : lit w) (ht : ∀ i, t i < 256) (hS : rS σ t n 15 g nm τ) (hV : rV n g τ) : ∃ σ', frX 15 σ σ' ∧ σ'.1 2 5 = Int32.ofNat (rPil t n g nm τ).1 ∧ σ'.1 15 0 = σ.1 15 0 ∧ ((rPil t n g nm τ).1 = 0 → rS σ' t n 15 (rPil t n g nm τ).2.1 (rPil t n g nm τ).2.2.1 (rPil t n g nm τ).2.2.2 ∧ rV n (rPil t n g nm τ).2.1 (rPil t n g nm τ).2.2.2) ∧ ∀ {D : Nat} {K : Hp → Prop}, 5 ≤ D → (wpV D 30 [.ref 2] (mW w σ) K ↔ K (mW w σ')) := by
  obtain ⟨hG, hN, hT, h7⟩ := hS
  obtain ⟨vg, h03, hv, h5⟩ := hV
  have c0 := hT.2.2.1
  have v0 := hv.1
  have v1 := hv.2.1
  have v2 := hv.2.2.1
  have h50 : σ.1 2 5 = 0 := by rw [hG.2.2.2.2.2.1, h03]; rfl
  have ll := on_lt (i := τ 1) (j := 3) (by omega) (by omega)
  by_cases a : 3 ≤ τ 1
  · have eR : (rPil t n g nm τ) = (8 * g 0 + 4, g, nm, τ) := if_pos a
    have l12 : (Int32.ofNat (τ 1) < (3 : Int32)) ↔ False := iff_false_intro (fun q => absurd (ll.mp q) (by omega))
    refine ⟨uI σ 2 5 (8 * Int32.ofNat (g 0) + 4), frX_I (by omega), by rw [eR, uI_1, if_pos ⟨rfl, rfl⟩]; exact f8_of, by rw [uI_1, if_neg (by omega)], fun q => absurd q (by rw [eR]; show ¬ 8 * g 0 + 4 = 0; omega), fun hD => cV_of (m := 4) (fun d hd Q hQ => ?_) rfl hD⟩
    have hd1 : 1 ≤ d := by omega
    have hd2 : 2 ≤ d := by omega
    have hd3 : 3 ≤ d := by omega
    have hd4 : 4 ≤ d := by omega
    refine b30_0 ?_
    simp only [↓br_pos, ↓br_neg, ↓rF_I, ↓rF_L, ↓rF_R, ↓rF_N, rO_m, rB_m, ↓rI_m, wI_m, ↓rB2_m, ↓rB3_m, wB2_m, wB3_m, ↓rL_m, wL_m, ↓rQ_m, wQ_m, ↓lI_m, pI_m, pL_m, pR_m, sI_m, sBy_m, sBo_m, sL_m, sQ_m, fst_m, true_and, and_true, tg_some, ln_some, uI_1, uI_2, uL_1, uL_2, uL_3, uQ_1, uQ_2, uQ_3, rv_i, rv_l, rv_n, rv_b0, rv_b1, RMR, ne_eq, reduceCtorEq, not_false_eq_true, Option.getD_some, if_true, if_false, and_self, false_and, and_false, Nat.add_left_cancel_iff, Nat.add_eq_left, Nat.left_eq_add, Nat.one_ne_zero, Nat.reduceAdd, Nat.reduceLT, Nat.reduceLeDiff, Nat.reduceEqDiff, true_implies, false_implies, implies_true, Option.some.injEq, forall_eq', forall_eq, reduceCtorEq, brT, brF, br_s, i_10, i_01, ib_0_2, ib_1_2, tn_0, tn_1, Int32.le_refl, eq_self, rv_bN, rv_iM, RCX 0, RCG 2, RCT 4, RCT 15, RCT 25, RCS 35, RCS 49, RCH 63, RCP 67, RCB 72, RCR 77, RCM 81, RLY, lit_at hw, h7, c0, l12, g_36 hw hG.2.2.1 h50 hd1]
    exact hQ
  have l12 : (Int32.ofNat (τ 1) < (3 : Int32)) ↔ True := iff_true_intro (ll.mpr (by omega))
  have eb : inB (Int32.ofNat (τ 1)) 3 = true := on_inB (by omega) (by omega)
  have en := on_nat (i := τ 1) (by omega)
  obtain ⟨σ1, f1, t1, e1⟩ := g_39 hw ht hG vg
  have va := vG_adv (t := t) vg
  have N1 : ∀ i, i < adv t n g 5 → σ1.1 14 i = nm i := by
    rw [adv_g (by omega)]
    intro i hi
    rw [f1.1 14 (by omega)]; exact hN i hi
  have s1 : σ1.2.2 2 7 = some 15 := by rw [f1.2]; exact h7
  obtain ⟨σ2, f2, F2, ⟨g2, G2, V2⟩, z2, e2⟩ := g_33 hw ht t1 va (by rw [adv_g (by omega)]; exact h03) (by rw [adv_g (by omega), h5]; omega) N1
  have r2 : ∀ a, 15 ≤ a → a < 25 → σ2.1 a = σ.1 a := fun a ha hb => by rw [f2.1 a (by omega) (by omega), f1.1 a (by omega)]
  have s2 : σ2.2.2 2 7 = some 15 := by rw [f2.2]; exact s1
  have c2 : σ2.1 15 3 = Int32.ofNat (τ 1) := by rw [r2 15 (by omega) (by omega)]; exact c0
  have x2 : frX 15 σ σ2 := frX_tr (frX_R f1) (frX_N f2)
  have T2 : tTold σ2 15 τ := tTold_fr hT (fun a h1 h2 => r2 a (by omega) (by omega))
  have hd45 : ∀ {d : Nat}, 4 ≤ d → 3 ≤ d := fun h => by omega
  by_cases b : nameF t (adv t n g) nm = 0
  case neg =>
    have n0 : σ2.1 2 5 ≠ 0 := f8_ne F2 b (by have := nameF_lt (t := t) (nm := nm) va; omega)
    have eR : (rPil t n g nm τ) = (nameF t (adv t n g) nm, g, nm, τ) := by unfold rPil; rw [if_neg a, if_pos b]
    refine ⟨(uI (uI σ2 18 (τ 1) (-1)) 15 3 (Int32.ofNat (τ 1 + 1))), frX_tr x2 (frX_tr (frX_I (by omega)) (frX_I (by omega))), by rw [eR]; simp only [uI_1, Nat.reduceEqDiff, false_and, if_false]; exact F2, by simp only [uI_1, Nat.reduceEqDiff, false_and, and_false, if_false]; exact (by rw [r2 15 (by omega) (by omega)]), fun q => absurd q (by rw [eR]; exact b), fun hD => cV_of (m := 4) (fun d hd Q hQ => ?_) rfl hD⟩
    have hd1 : 1 ≤ d := by omega
    have hd2 : 2 ≤ d := by omega
    have hd3 : 3 ≤ d := by omega
    have hd4 : 4 ≤ d := by omega
    refine b30_0 ?_
    simp only [↓br_pos, ↓br_neg, ↓rF_I, ↓rF_L, ↓rF_R, ↓rF_N, rO_m, rB_m, ↓rI_m, wI_m, ↓rB2_m, ↓rB3_m, wB2_m, wB3_m, ↓rL_m, wL_m, ↓rQ_m, wQ_m, ↓lI_m, pI_m, pL_m, pR_m, sI_m, sBy_m, sBo_m, sL_m, sQ_m, fst_m, true_and, and_true, tg_some, ln_some, uI_1, uI_2, uL_1, uL_2, uL_3, uQ_1, uQ_2, uQ_3, rv_i, rv_l, rv_n, rv_b0, rv_b1, RMR, ne_eq, reduceCtorEq, not_false_eq_true, Option.getD_some, if_true, if_false, and_self, false_and, and_false, Nat.add_left_cancel_iff, Nat.add_eq_left, Nat.left_eq_add, Nat.one_ne_zero, Nat.reduceAdd, Nat.reduceLT, Nat.reduceLeDiff, Nat.reduceEqDiff, true_implies, false_implies, implies_true, Option.some.injEq, forall_eq', forall_eq, reduceCtorEq, brT, brF, br_s, i_10, i_01, ib_0_2, ib_1_2, tn_0, tn_1, Int32.le_refl, eq_self, rv_bN, rv_iM, RCX 0, RCG 2, RCT 4, RCT 15, RCT 25, RCS 35, RCS 49, RCH 63, RCP 67, RCB 72, RCR 77, RCM 81, RLY, lit_at hw, h7, c0, l12, s1, s2, c2, eb, en, e1 hd3, e2 hd4, g_34n hw n0 hd1, on_succ]
    exact hQ
  have z2' := z2 b
  have K0 : tG σ2 t n (gNm t n (adv t n g)) := z2'.1
  have U0 : vG n (gNm t n (adv t n g)) := vG_nm va
  have Z0 : (gNm t n (adv t n g)) 3 = 0 := by rw [gNm_3, adv_g (by omega)]; exact h03
  obtain ⟨σ3, f3, F3, ⟨g3, G3, V3⟩, z3, e3⟩ := g_34 (σ := σ2) (i := 6) (low := 2) (high := 12) hw ht K0 U0 Z0 (by omega)
  have s3 : σ3.2.2 2 7 = some 15 := by rw [f3.2]; exact s2
  have r3 : ∀ a, 15 ≤ a → a < 25 → σ3.1 a = (σ2).1 a := fun a ha hb => f3.1 a (by omega)
  have c3 : σ3.1 15 3 = Int32.ofNat (τ 1) := by rw [r3 15 (by omega) (by omega)]; exact c2
  have L1 : σ3.1 15 0 = σ.1 15 0 := by rw [r3 15 (by omega) (by omega), r2 15 (by omega) (by omega)]
  have T3 : tTold σ3 15 τ := tTold_fr T2 (fun a h1 h2 => r3 a (by omega) (by omega))
  have x3 : frX 15 σ σ3 := frX_tr x2 (frX_R f3)
  by_cases q1 : toldF t n (gNm t n (adv t n g)) 6 2 12 = 0
  case neg =>
    have n0 : σ3.1 2 5 ≠ 0 := f8_ne F3 q1 (by have := toldF_lt (t := t) (i := 6) (low := 2) (high := 12) U0; omega)
    have eR : (rPil t n g nm τ) = (toldF t n (gNm t n (adv t n g)) 6 2 12, g, nm, τ) := by unfold rPil; rw [if_neg a, if_neg (fun q => q b), if_pos q1]
    refine ⟨(uI (uI σ3 18 (τ 1) (-1)) 15 3 (Int32.ofNat (τ 1 + 1))), frX_tr x3 (frX_tr (frX_I (by omega)) (frX_I (by omega))), by rw [eR]; simp only [uI_1, Nat.reduceEqDiff, false_and, if_false]; exact F3, by simp only [uI_1, Nat.reduceEqDiff, false_and, and_false, if_false]; exact L1, fun q => absurd q (by rw [eR]; exact q1), fun hD => cV_of (m := 4) (fun d hd Q hQ => ?_) rfl hD⟩
    have hd1 : 1 ≤ d := by omega
    have hd2 : 2 ≤ d := by omega
    have hd3 : 3 ≤ d := by omega
    have hd4 : 4 ≤ d := by omega
    refine b30_0 ?_
    simp only [↓br_pos, ↓br_neg, ↓rF_I, ↓rF_L, ↓rF_R, ↓rF_N, rO_m, rB_m, ↓rI_m, wI_m, ↓rB2_m, ↓rB3_m, wB2_m, wB3_m, ↓rL_m, wL_m, ↓rQ_m, wQ_m, ↓lI_m, pI_m, pL_m, pR_m, sI_m, sBy_m, sBo_m, sL_m, sQ_m, fst_m, true_and, and_true, tg_some, ln_some, uI_1, uI_2, uL_1, uL_2, uL_3, uQ_1, uQ_2, uQ_3, rv_i, rv_l, rv_n, rv_b0, rv_b1, RMR, ne_eq, reduceCtorEq, not_false_eq_true, Option.getD_some, if_true, if_false, and_self, false_and, and_false, Nat.add_left_cancel_iff, Nat.add_eq_left, Nat.left_eq_add, Nat.one_ne_zero, Nat.reduceAdd, Nat.reduceLT, Nat.reduceLeDiff, Nat.reduceEqDiff, true_implies, false_implies, implies_true, Option.some.injEq, forall_eq', forall_eq, reduceCtorEq, brT, brF, br_s, i_10, i_01, ib_0_2, ib_1_2, tn_0, tn_1, Int32.le_refl, eq_self, rv_bN, rv_iM, RCX 0, RCG 2, RCT 4, RCT 15, RCT 25, RCS 35, RCS 49, RCH 63, RCP 67, RCB 72, RCR 77, RCM 81, RLY, lit_at hw, h7, c0, l12, s1, s2, c2, eb, en, e1 hd3, e2 hd4, s3, c3, e3 hd4, q1, on_succ]
    exact hQ
  have w1 := told_v (lo := 2) (hi := 12) rfl rfl (by omega) (by omega) q1
  have K1 : tG σ3 t n (gTd t n (gNm t n (adv t n g))) := z3 q1
  have U1 : vG n (gTd t n (gNm t n (adv t n g))) := vG_td U0
  have Z1 : (gTd t n (gNm t n (adv t n g))) 3 = 0 := by rw [gTd_g (by omega)]; exact Z0
  have five : (gTd t n (gNm t n (adv t n g))) 5 = g 5 + 1 := by rw [gTd_g (by omega), gNm_5, adv_g (by omega)]
  have eR : (rPil t n g nm τ) = (0, (gTd t n (gNm t n (adv t n g))), nmS nm (adv t n g 5) (cdN t (adv t n g)), tPil τ (nN t (adv t n (gNm t n (adv t n g))))) := by unfold rPil; rw [if_neg a, if_neg (fun q => q b), if_neg (fun q => q q1)]
  refine ⟨(uI (uI σ3 18 (τ 1) (numV t (adv t n (gNm t n (adv t n g))))) 15 3 (Int32.ofNat (τ 1 + 1))), frX_tr x3 (frX_tr (frX_I (by omega)) (frX_I (by omega))), by rw [eR]; simp only [uI_1, Nat.reduceEqDiff, false_and, if_false]; rw [F3, q1], by simp only [uI_1, Nat.reduceEqDiff, false_and, and_false, if_false]; exact L1, fun _ => ?_, fun hD => cV_of (m := 4) (fun d hd Q hQ => ?_) rfl hD⟩
  · rw [eR]
    refine ⟨⟨tG_I (tG_I K1 (by omega)) (by omega), fun i hi => ?_, tT_pil (p := 15) (tT_j (p := 15) (A := 3) T3 (by omega)) hv (by omega) (by rw [uI_1, if_pos ⟨rfl, rfl⟩]; exact w1.1), ?_⟩, U1, Z1, vT_pil hv (by omega) ⟨w1.2.1, w1.2.2⟩, ?_⟩
    · have hi' : i < adv t n g 5 + 1 := by
        have hi2 : i < (gTd t n (gNm t n (adv t n g))) 5 := hi
        rw [five] at hi2; rw [adv_g (by omega)]; exact hi2
      simp only [uI_1, Nat.reduceEqDiff, false_and, if_false]
      rw [f3.1 14 (by omega)]
      exact z2'.2 i hi'
    · show σ3.2.2 2 7 = some 15
      exact s3
    · show (gTd t n (gNm t n (adv t n g))) 5 = _
      rw [five, h5]
      show _ = tPil τ (nN t (adv t n (gNm t n (adv t n g)))) 0 + tPil τ (nN t (adv t n (gNm t n (adv t n g)))) 1 + tPil τ (nN t (adv t n (gNm t n (adv t n g)))) 2
      rw [tPil_1, tPil_1, tPil_1, if_neg (by omega), if_neg (by omega), if_pos rfl, if_neg (by omega), if_neg (by omega)]
      omega
  · have hd1 : 1 ≤ d := by omega
    have hd2 : 2 ≤ d := by omega
    have hd3 : 3 ≤ d := by omega
    have hd4 : 4 ≤ d := by omega
    refine b30_0 ?_
    simp only [↓br_pos, ↓br_neg, ↓rF_I, ↓rF_L, ↓rF_R, ↓rF_N, rO_m, rB_m, ↓rI_m, wI_m, ↓rB2_m, ↓rB3_m, wB2_m, wB3_m, ↓rL_m, wL_m, ↓rQ_m, wQ_m, ↓lI_m, pI_m, pL_m, pR_m, sI_m, sBy_m, sBo_m, sL_m, sQ_m, fst_m, true_and, and_true, tg_some, ln_some, uI_1, uI_2, uL_1, uL_2, uL_3, uQ_1, uQ_2, uQ_3, rv_i, rv_l, rv_n, rv_b0, rv_b1, RMR, ne_eq, reduceCtorEq, not_false_eq_true, Option.getD_some, if_true, if_false, and_self, false_and, and_false, Nat.add_left_cancel_iff, Nat.add_eq_left, Nat.left_eq_add, Nat.one_ne_zero, Nat.reduceAdd, Nat.reduceLT, Nat.reduceLeDiff, Nat.reduceEqDiff, true_implies, false_implies, implies_true, Option.some.injEq, forall_eq', forall_eq, reduceCtorEq, brT, brF, br_s, i_10, i_01, ib_0_2, ib_1_2, tn_0, tn_1, Int32.le_refl, eq_self, rv_bN, rv_iM, RCX 0, RCG 2, RCT 4, RCT 15, RCT 25, RCS 35, RCS 49, RCH 63, RCP 67, RCB 72, RCR 77, RCM 81, RLY, lit_at hw, h7, c0, l12, s1, s2, c2, eb, en, e1 hd3, e2 hd4, s3, c3, e3 hd4, q1, on_succ]
    exact hQ
theorem g_30_25 {w : mT} {σ : mS} {t : Nat → Nat} {n : Nat} {g τ : Rw} {nm : Nat → Int32} (hw : lit w) (ht : ∀ i, t i < 256) (hS : rS σ t n 25 g nm τ) (hV : rV n g τ) : ∃ σ', frX 25 σ σ' ∧ σ'.1 2 5 = Int32.ofNat (rPil t n g nm τ).1 ∧ σ'.1 25 0 = σ.1 25 0 ∧ ((rPil t n g nm τ).1 = 0 → rS σ' t n 25 (rPil t n g nm τ).2.1 (rPil t n g nm τ).2.2.1 (rPil t n g nm τ).2.2.2 ∧ rV n (rPil t n g nm τ).2.1 (rPil t n g nm τ).2.2.2) ∧ ∀ {D : Nat} {K : Hp → Prop}, 5 ≤ D → (wpV D 30 [.ref 2] (mW w σ) K ↔ K (mW w σ')) := by
  obtain ⟨hG, hN, hT, h7⟩ := hS
  obtain ⟨vg, h03, hv, h5⟩ := hV
  have c0 := hT.2.2.1
  have v0 := hv.1
  have v1 := hv.2.1
  have v2 := hv.2.2.1
  have h50 : σ.1 2 5 = 0 := by rw [hG.2.2.2.2.2.1, h03]; rfl
  have ll := on_lt (i := τ 1) (j := 3) (by omega) (by omega)
  by_cases a : 3 ≤ τ 1
  · have eR : (rPil t n g nm τ) = (8 * g 0 + 4, g, nm, τ) := if_pos a
    have l12 : (Int32.ofNat (τ 1) < (3 : Int32)) ↔ False := iff_false_intro (fun q => absurd (ll.mp q) (by omega))
    refine ⟨uI σ 2 5 (8 * Int32.ofNat (g 0) + 4), frX_I (by omega), by rw [eR, uI_1, if_pos ⟨rfl, rfl⟩]; exact f8_of, by rw [uI_1, if_neg (by omega)], fun q => absurd q (by rw [eR]; show ¬ 8 * g 0 + 4 = 0; omega), fun hD => cV_of (m := 4) (fun d hd Q hQ => ?_) rfl hD⟩
    have hd1 : 1 ≤ d := by omega
    have hd2 : 2 ≤ d := by omega
    have hd3 : 3 ≤ d := by omega
    have hd4 : 4 ≤ d := by omega
    refine b30_0 ?_
    simp only [↓br_pos, ↓br_neg, ↓rF_I, ↓rF_L, ↓rF_R, ↓rF_N, rO_m, rB_m, ↓rI_m, wI_m, ↓rB2_m, ↓rB3_m, wB2_m, wB3_m, ↓rL_m, wL_m, ↓rQ_m, wQ_m, ↓lI_m, pI_m, pL_m, pR_m, sI_m, sBy_m, sBo_m, sL_m, sQ_m, fst_m, true_and, and_true, tg_some, ln_some, uI_1, uI_2, uL_1, uL_2, uL_3, uQ_1, uQ_2, uQ_3, rv_i, rv_l, rv_n, rv_b0, rv_b1, RMR, ne_eq, reduceCtorEq, not_false_eq_true, Option.getD_some, if_true, if_false, and_self, false_and, and_false, Nat.add_left_cancel_iff, Nat.add_eq_left, Nat.left_eq_add, Nat.one_ne_zero, Nat.reduceAdd, Nat.reduceLT, Nat.reduceLeDiff, Nat.reduceEqDiff, true_implies, false_implies, implies_true, Option.some.injEq, forall_eq', forall_eq, reduceCtorEq, brT, brF, br_s, i_10, i_01, ib_0_2, ib_1_2, tn_0, tn_1, Int32.le_refl, eq_self, rv_bN, rv_iM, RCX 0, RCG 2, RCT 4, RCT 15, RCT 25, RCS 35, RCS 49, RCH 63, RCP 67, RCB 72, RCR 77, RCM 81, RLY, lit_at hw, h7, c0, l12, g_36 hw hG.2.2.1 h50 hd1]
    exact hQ
  have l12 : (Int32.ofNat (τ 1) < (3 : Int32)) ↔ True := iff_true_intro (ll.mpr (by omega))
  have eb : inB (Int32.ofNat (τ 1)) 3 = true := on_inB (by omega) (by omega)
  have en := on_nat (i := τ 1) (by omega)
  obtain ⟨σ1, f1, t1, e1⟩ := g_39 hw ht hG vg
  have va := vG_adv (t := t) vg
  have N1 : ∀ i, i < adv t n g 5 → σ1.1 14 i = nm i := by
    rw [adv_g (by omega)]
    intro i hi
    rw [f1.1 14 (by omega)]; exact hN i hi
  have s1 : σ1.2.2 2 7 = some 25 := by rw [f1.2]; exact h7
  obtain ⟨σ2, f2, F2, ⟨g2, G2, V2⟩, z2, e2⟩ := g_33 hw ht t1 va (by rw [adv_g (by omega)]; exact h03) (by rw [adv_g (by omega), h5]; omega) N1
  have r2 : ∀ a, 25 ≤ a → a < 35 → σ2.1 a = σ.1 a := fun a ha hb => by rw [f2.1 a (by omega) (by omega), f1.1 a (by omega)]
  have s2 : σ2.2.2 2 7 = some 25 := by rw [f2.2]; exact s1
  have c2 : σ2.1 25 3 = Int32.ofNat (τ 1) := by rw [r2 25 (by omega) (by omega)]; exact c0
  have x2 : frX 25 σ σ2 := frX_tr (frX_R f1) (frX_N f2)
  have T2 : tTold σ2 25 τ := tTold_fr hT (fun a h1 h2 => r2 a (by omega) (by omega))
  have hd45 : ∀ {d : Nat}, 4 ≤ d → 3 ≤ d := fun h => by omega
  by_cases b : nameF t (adv t n g) nm = 0
  case neg =>
    have n0 : σ2.1 2 5 ≠ 0 := f8_ne F2 b (by have := nameF_lt (t := t) (nm := nm) va; omega)
    have eR : (rPil t n g nm τ) = (nameF t (adv t n g) nm, g, nm, τ) := by unfold rPil; rw [if_neg a, if_pos b]
    refine ⟨(uI (uI σ2 28 (τ 1) (-1)) 25 3 (Int32.ofNat (τ 1 + 1))), frX_tr x2 (frX_tr (frX_I (by omega)) (frX_I (by omega))), by rw [eR]; simp only [uI_1, Nat.reduceEqDiff, false_and, if_false]; exact F2, by simp only [uI_1, Nat.reduceEqDiff, false_and, and_false, if_false]; exact (by rw [r2 25 (by omega) (by omega)]), fun q => absurd q (by rw [eR]; exact b), fun hD => cV_of (m := 4) (fun d hd Q hQ => ?_) rfl hD⟩
    have hd1 : 1 ≤ d := by omega
    have hd2 : 2 ≤ d := by omega
    have hd3 : 3 ≤ d := by omega
    have hd4 : 4 ≤ d := by omega
    refine b30_0 ?_
    simp only [↓br_pos, ↓br_neg, ↓rF_I, ↓rF_L, ↓rF_R, ↓rF_N, rO_m, rB_m, ↓rI_m, wI_m, ↓rB2_m, ↓rB3_m, wB2_m, wB3_m, ↓rL_m, wL_m, ↓rQ_m, wQ_m, ↓lI_m, pI_m, pL_m, pR_m, sI_m, sBy_m, sBo_m, sL_m, sQ_m, fst_m, true_and, and_true, tg_some, ln_some, uI_1, uI_2, uL_1, uL_2, uL_3, uQ_1, uQ_2, uQ_3, rv_i, rv_l, rv_n, rv_b0, rv_b1, RMR, ne_eq, reduceCtorEq, not_false_eq_true, Option.getD_some, if_true, if_false, and_self, false_and, and_false, Nat.add_left_cancel_iff, Nat.add_eq_left, Nat.left_eq_add, Nat.one_ne_zero, Nat.reduceAdd, Nat.reduceLT, Nat.reduceLeDiff, Nat.reduceEqDiff, true_implies, false_implies, implies_true, Option.some.injEq, forall_eq', forall_eq, reduceCtorEq, brT, brF, br_s, i_10, i_01, ib_0_2, ib_1_2, tn_0, tn_1, Int32.le_refl, eq_self, rv_bN, rv_iM, RCX 0, RCG 2, RCT 4, RCT 15, RCT 25, RCS 35, RCS 49, RCH 63, RCP 67, RCB 72, RCR 77, RCM 81, RLY, lit_at hw, h7, c0, l12, s1, s2, c2, eb, en, e1 hd3, e2 hd4, g_34n hw n0 hd1, on_succ]
    exact hQ
  have z2' := z2 b
  have K0 : tG σ2 t n (gNm t n (adv t n g)) := z2'.1
  have U0 : vG n (gNm t n (adv t n g)) := vG_nm va
  have Z0 : (gNm t n (adv t n g)) 3 = 0 := by rw [gNm_3, adv_g (by omega)]; exact h03
  obtain ⟨σ3, f3, F3, ⟨g3, G3, V3⟩, z3, e3⟩ := g_34 (σ := σ2) (i := 6) (low := 2) (high := 12) hw ht K0 U0 Z0 (by omega)
  have s3 : σ3.2.2 2 7 = some 25 := by rw [f3.2]; exact s2
  have r3 : ∀ a, 25 ≤ a → a < 35 → σ3.1 a = (σ2).1 a := fun a ha hb => f3.1 a (by omega)
  have c3 : σ3.1 25 3 = Int32.ofNat (τ 1) := by rw [r3 25 (by omega) (by omega)]; exact c2
  have L1 : σ3.1 25 0 = σ.1 25 0 := by rw [r3 25 (by omega) (by omega), r2 25 (by omega) (by omega)]
  have T3 : tTold σ3 25 τ := tTold_fr T2 (fun a h1 h2 => r3 a (by omega) (by omega))
  have x3 : frX 25 σ σ3 := frX_tr x2 (frX_R f3)
  by_cases q1 : toldF t n (gNm t n (adv t n g)) 6 2 12 = 0
  case neg =>
    have n0 : σ3.1 2 5 ≠ 0 := f8_ne F3 q1 (by have := toldF_lt (t := t) (i := 6) (low := 2) (high := 12) U0; omega)
    have eR : (rPil t n g nm τ) = (toldF t n (gNm t n (adv t n g)) 6 2 12, g, nm, τ) := by unfold rPil; rw [if_neg a, if_neg (fun q => q b), if_pos q1]
    refine ⟨(uI (uI σ3 28 (τ 1) (-1)) 25 3 (Int32.ofNat (τ 1 + 1))), frX_tr x3 (frX_tr (frX_I (by omega)) (frX_I (by omega))), by rw [eR]; simp only [uI_1, Nat.reduceEqDiff, false_and, if_false]; exact F3, by simp only [uI_1, Nat.reduceEqDiff, false_and, and_false, if_false]; exact L1, fun q => absurd q (by rw [eR]; exact q1), fun hD => cV_of (m := 4) (fun d hd Q hQ => ?_) rfl hD⟩
    have hd1 : 1 ≤ d := by omega
    have hd2 : 2 ≤ d := by omega
    have hd3 : 3 ≤ d := by omega
    have hd4 : 4 ≤ d := by omega
    refine b30_0 ?_
    simp only [↓br_pos, ↓br_neg, ↓rF_I, ↓rF_L, ↓rF_R, ↓rF_N, rO_m, rB_m, ↓rI_m, wI_m, ↓rB2_m, ↓rB3_m, wB2_m, wB3_m, ↓rL_m, wL_m, ↓rQ_m, wQ_m, ↓lI_m, pI_m, pL_m, pR_m, sI_m, sBy_m, sBo_m, sL_m, sQ_m, fst_m, true_and, and_true, tg_some, ln_some, uI_1, uI_2, uL_1, uL_2, uL_3, uQ_1, uQ_2, uQ_3, rv_i, rv_l, rv_n, rv_b0, rv_b1, RMR, ne_eq, reduceCtorEq, not_false_eq_true, Option.getD_some, if_true, if_false, and_self, false_and, and_false, Nat.add_left_cancel_iff, Nat.add_eq_left, Nat.left_eq_add, Nat.one_ne_zero, Nat.reduceAdd, Nat.reduceLT, Nat.reduceLeDiff, Nat.reduceEqDiff, true_implies, false_implies, implies_true, Option.some.injEq, forall_eq', forall_eq, reduceCtorEq, brT, brF, br_s, i_10, i_01, ib_0_2, ib_1_2, tn_0, tn_1, Int32.le_refl, eq_self, rv_bN, rv_iM, RCX 0, RCG 2, RCT 4, RCT 15, RCT 25, RCS 35, RCS 49, RCH 63, RCP 67, RCB 72, RCR 77, RCM 81, RLY, lit_at hw, h7, c0, l12, s1, s2, c2, eb, en, e1 hd3, e2 hd4, s3, c3, e3 hd4, q1, on_succ]
    exact hQ
  have w1 := told_v (lo := 2) (hi := 12) rfl rfl (by omega) (by omega) q1
  have K1 : tG σ3 t n (gTd t n (gNm t n (adv t n g))) := z3 q1
  have U1 : vG n (gTd t n (gNm t n (adv t n g))) := vG_td U0
  have Z1 : (gTd t n (gNm t n (adv t n g))) 3 = 0 := by rw [gTd_g (by omega)]; exact Z0
  have five : (gTd t n (gNm t n (adv t n g))) 5 = g 5 + 1 := by rw [gTd_g (by omega), gNm_5, adv_g (by omega)]
  have eR : (rPil t n g nm τ) = (0, (gTd t n (gNm t n (adv t n g))), nmS nm (adv t n g 5) (cdN t (adv t n g)), tPil τ (nN t (adv t n (gNm t n (adv t n g))))) := by unfold rPil; rw [if_neg a, if_neg (fun q => q b), if_neg (fun q => q q1)]
  refine ⟨(uI (uI σ3 28 (τ 1) (numV t (adv t n (gNm t n (adv t n g))))) 25 3 (Int32.ofNat (τ 1 + 1))), frX_tr x3 (frX_tr (frX_I (by omega)) (frX_I (by omega))), by rw [eR]; simp only [uI_1, Nat.reduceEqDiff, false_and, if_false]; rw [F3, q1], by simp only [uI_1, Nat.reduceEqDiff, false_and, and_false, if_false]; exact L1, fun _ => ?_, fun hD => cV_of (m := 4) (fun d hd Q hQ => ?_) rfl hD⟩
  · rw [eR]
    refine ⟨⟨tG_I (tG_I K1 (by omega)) (by omega), fun i hi => ?_, tT_pil (p := 25) (tT_j (p := 25) (A := 3) T3 (by omega)) hv (by omega) (by rw [uI_1, if_pos ⟨rfl, rfl⟩]; exact w1.1), ?_⟩, U1, Z1, vT_pil hv (by omega) ⟨w1.2.1, w1.2.2⟩, ?_⟩
    · have hi' : i < adv t n g 5 + 1 := by
        have hi2 : i < (gTd t n (gNm t n (adv t n g))) 5 := hi
        rw [five] at hi2; rw [adv_g (by omega)]; exact hi2
      simp only [uI_1, Nat.reduceEqDiff, false_and, if_false]
      rw [f3.1 14 (by omega)]
      exact z2'.2 i hi'
    · show σ3.2.2 2 7 = some 25
      exact s3
    · show (gTd t n (gNm t n (adv t n g))) 5 = _
      rw [five, h5]
      show _ = tPil τ (nN t (adv t n (gNm t n (adv t n g)))) 0 + tPil τ (nN t (adv t n (gNm t n (adv t n g)))) 1 + tPil τ (nN t (adv t n (gNm t n (adv t n g)))) 2
      rw [tPil_1, tPil_1, tPil_1, if_neg (by omega), if_neg (by omega), if_pos rfl, if_neg (by omega), if_neg (by omega)]
      omega
  · have hd1 : 1 ≤ d := by omega
    have hd2 : 2 ≤ d := by omega
    have hd3 : 3 ≤ d := by omega
    have hd4 : 4 ≤ d := by omega
    refine b30_0 ?_
    simp only [↓br_pos, ↓br_neg, ↓rF_I, ↓rF_L, ↓rF_R, ↓rF_N, rO_m, rB_m, ↓rI_m, wI_m, ↓rB2_m, ↓rB3_m, wB2_m, wB3_m, ↓rL_m, wL_m, ↓rQ_m, wQ_m, ↓lI_m, pI_m, pL_m, pR_m, sI_m, sBy_m, sBo_m, sL_m, sQ_m, fst_m, true_and, and_true, tg_some, ln_some, uI_1, uI_2, uL_1, uL_2, uL_3, uQ_1, uQ_2, uQ_3, rv_i, rv_l, rv_n, rv_b0, rv_b1, RMR, ne_eq, reduceCtorEq, not_false_eq_true, Option.getD_some, if_true, if_false, and_self, false_and, and_false, Nat.add_left_cancel_iff, Nat.add_eq_left, Nat.left_eq_add, Nat.one_ne_zero, Nat.reduceAdd, Nat.reduceLT, Nat.reduceLeDiff, Nat.reduceEqDiff, true_implies, false_implies, implies_true, Option.some.injEq, forall_eq', forall_eq, reduceCtorEq, brT, brF, br_s, i_10, i_01, ib_0_2, ib_1_2, tn_0, tn_1, Int32.le_refl, eq_self, rv_bN, rv_iM, RCX 0, RCG 2, RCT 4, RCT 15, RCT 25, RCS 35, RCS 49, RCH 63, RCP 67, RCB 72, RCR 77, RCM 81, RLY, lit_at hw, h7, c0, l12, s1, s2, c2, eb, en, e1 hd3, e2 hd4, s3, c3, e3 hd4, q1, on_succ]
    exact hQ
theorem g_31_15 {w : mT} {σ : mS} {t : Nat → Nat} {n : Nat} {g τ : Rw} {nm : Nat → Int32} (hw : lit w) (ht : ∀ i, t i < 256) (hS : rS σ t n 15 g nm τ) (hV : rV n g τ) : ∃ σ', frX 15 σ σ' ∧ σ'.1 2 5 = Int32.ofNat (rShp t n g nm τ).1 ∧ σ'.1 15 0 = σ.1 15 0 ∧ ((rShp t n g nm τ).1 = 0 → rS σ' t n 15 (rShp t n g nm τ).2.1 (rShp t n g nm τ).2.2.1 (rShp t n g nm τ).2.2.2 ∧ rV n (rShp t n g nm τ).2.1 (rShp t n g nm τ).2.2.2) ∧ ∀ {D : Nat} {K : Hp → Prop}, 5 ≤ D → (wpV D 31 [.ref 2] (mW w σ) K ↔ K (mW w σ')) := by
  obtain ⟨hG, hN, hT, h7⟩ := hS
  obtain ⟨vg, h03, hv, h5⟩ := hV
  have c0 := hT.2.2.2.1
  have v0 := hv.1
  have v1 := hv.2.1
  have v2 := hv.2.2.1
  have h50 : σ.1 2 5 = 0 := by rw [hG.2.2.2.2.2.1, h03]; rfl
  have ll := on_lt (i := τ 2) (j := 8) (by omega) (by omega)
  by_cases a : 8 ≤ τ 2
  · have eR : (rShp t n g nm τ) = (8 * g 0 + 4, g, nm, τ) := if_pos a
    have l12 : (Int32.ofNat (τ 2) < (8 : Int32)) ↔ False := iff_false_intro (fun q => absurd (ll.mp q) (by omega))
    refine ⟨uI σ 2 5 (8 * Int32.ofNat (g 0) + 4), frX_I (by omega), by rw [eR, uI_1, if_pos ⟨rfl, rfl⟩]; exact f8_of, by rw [uI_1, if_neg (by omega)], fun q => absurd q (by rw [eR]; show ¬ 8 * g 0 + 4 = 0; omega), fun hD => cV_of (m := 4) (fun d hd Q hQ => ?_) rfl hD⟩
    have hd1 : 1 ≤ d := by omega
    have hd2 : 2 ≤ d := by omega
    have hd3 : 3 ≤ d := by omega
    have hd4 : 4 ≤ d := by omega
    refine b31_0 ?_
    simp only [↓br_pos, ↓br_neg, ↓rF_I, ↓rF_L, ↓rF_R, ↓rF_N, rO_m, rB_m, ↓rI_m, wI_m, ↓rB2_m, ↓rB3_m, wB2_m, wB3_m, ↓rL_m, wL_m, ↓rQ_m, wQ_m, ↓lI_m, pI_m, pL_m, pR_m, sI_m, sBy_m, sBo_m, sL_m, sQ_m, fst_m, true_and, and_true, tg_some, ln_some, uI_1, uI_2, uL_1, uL_2, uL_3, uQ_1, uQ_2, uQ_3, rv_i, rv_l, rv_n, rv_b0, rv_b1, RMR, ne_eq, reduceCtorEq, not_false_eq_true, Option.getD_some, if_true, if_false, and_self, false_and, and_false, Nat.add_left_cancel_iff, Nat.add_eq_left, Nat.left_eq_add, Nat.one_ne_zero, Nat.reduceAdd, Nat.reduceLT, Nat.reduceLeDiff, Nat.reduceEqDiff, true_implies, false_implies, implies_true, Option.some.injEq, forall_eq', forall_eq, reduceCtorEq, brT, brF, br_s, i_10, i_01, ib_0_2, ib_1_2, tn_0, tn_1, Int32.le_refl, eq_self, rv_bN, rv_iM, RCX 0, RCG 2, RCT 4, RCT 15, RCT 25, RCS 35, RCS 49, RCH 63, RCP 67, RCB 72, RCR 77, RCM 81, RLY, lit_at hw, h7, c0, l12, g_36 hw hG.2.2.1 h50 hd1]
    exact hQ
  have l12 : (Int32.ofNat (τ 2) < (8 : Int32)) ↔ True := iff_true_intro (ll.mpr (by omega))
  have eb : inB (Int32.ofNat (τ 2)) 8 = true := on_inB (by omega) (by omega)
  have en := on_nat (i := τ 2) (by omega)
  obtain ⟨σ1, f1, t1, e1⟩ := g_39 hw ht hG vg
  have va := vG_adv (t := t) vg
  have N1 : ∀ i, i < adv t n g 5 → σ1.1 14 i = nm i := by
    rw [adv_g (by omega)]
    intro i hi
    rw [f1.1 14 (by omega)]; exact hN i hi
  have s1 : σ1.2.2 2 7 = some 15 := by rw [f1.2]; exact h7
  obtain ⟨σ2, f2, F2, ⟨g2, G2, V2⟩, z2, e2⟩ := g_33 hw ht t1 va (by rw [adv_g (by omega)]; exact h03) (by rw [adv_g (by omega), h5]; omega) N1
  have r2 : ∀ a, 15 ≤ a → a < 25 → σ2.1 a = σ.1 a := fun a ha hb => by rw [f2.1 a (by omega) (by omega), f1.1 a (by omega)]
  have s2 : σ2.2.2 2 7 = some 15 := by rw [f2.2]; exact s1
  have c2 : σ2.1 15 4 = Int32.ofNat (τ 2) := by rw [r2 15 (by omega) (by omega)]; exact c0
  have x2 : frX 15 σ σ2 := frX_tr (frX_R f1) (frX_N f2)
  have T2 : tTold σ2 15 τ := tTold_fr hT (fun a h1 h2 => r2 a (by omega) (by omega))
  have hd45 : ∀ {d : Nat}, 4 ≤ d → 3 ≤ d := fun h => by omega
  by_cases b : nameF t (adv t n g) nm = 0
  case neg =>
    have n0 : σ2.1 2 5 ≠ 0 := f8_ne F2 b (by have := nameF_lt (t := t) (nm := nm) va; omega)
    have m1 : (uI σ2 19 (τ 2) (-1)).1 2 5 ≠ 0 := by simp only [uI_1, Nat.reduceEqDiff, false_and, if_false]; exact n0
    have m2 : (uI (uI σ2 19 (τ 2) (-1)) 20 (τ 2) (-1)).1 2 5 ≠ 0 := by simp only [uI_1, Nat.reduceEqDiff, false_and, if_false]; exact n0
    have m3 : (uI (uI (uI σ2 19 (τ 2) (-1)) 20 (τ 2) (-1)) 21 (τ 2) (-1)).1 2 5 ≠ 0 := by simp only [uI_1, Nat.reduceEqDiff, false_and, if_false]; exact n0
    have m4 : (uI (uI (uI (uI σ2 19 (τ 2) (-1)) 20 (τ 2) (-1)) 21 (τ 2) (-1)) 22 (τ 2) (-1)).1 2 5 ≠ 0 := by simp only [uI_1, Nat.reduceEqDiff, false_and, if_false]; exact n0
    have eR : (rShp t n g nm τ) = (nameF t (adv t n g) nm, g, nm, τ) := by unfold rShp; rw [if_neg a, if_pos b]
    have GG : tG (uI (uI (uI (uI (uI σ2 19 (τ 2) (-1)) 20 (τ 2) (-1)) 21 (τ 2) (-1)) 22 (τ 2) (-1)) 23 (τ 2) (-1)) t n g2 := (tG_I (tG_I (tG_I (tG_I (tG_I G2 (by omega)) (by omega)) (by omega)) (by omega)) (by omega))
    have m9 : (uI (uI (uI (uI (uI σ2 19 (τ 2) (-1)) 20 (τ 2) (-1)) 21 (τ 2) (-1)) 22 (τ 2) (-1)) 23 (τ 2) (-1)).1 2 5 ≠ 0 := by simp only [uI_1, Nat.reduceEqDiff, false_and, if_false]; exact n0
    by_cases sy : sayP t g2 12
    · have zy : iB (sayP t g2 12) = 1 := iB_t sy
      refine ⟨(uI (uI (uI (uI (uI (uI (uI σ2 19 (τ 2) (-1)) 20 (τ 2) (-1)) 21 (τ 2) (-1)) 22 (τ 2) (-1)) 23 (τ 2) (-1)) 24 (τ 2) (-1)) 15 4 (Int32.ofNat (τ 2 + 1))), frX_tr x2 (frX_tr (frX_I (by omega)) (frX_tr (frX_I (by omega)) (frX_tr (frX_I (by omega)) (frX_tr (frX_I (by omega)) (frX_tr (frX_I (by omega)) (frX_tr (frX_I (by omega)) (frX_I (by omega)))))))), by rw [eR]; simp only [uI_1, Nat.reduceEqDiff, false_and, if_false]; exact F2, by simp only [uI_1, Nat.reduceEqDiff, false_and, and_false, if_false]; exact (by rw [r2 15 (by omega) (by omega)]), fun q => absurd q (by rw [eR]; exact b), fun hD => cV_of (m := 4) (fun d hd Q hQ => ?_) rfl hD⟩
      have hd1 : 1 ≤ d := by omega
      have hd2 : 2 ≤ d := by omega
      have hd3 : 3 ≤ d := by omega
      have hd4 : 4 ≤ d := by omega
      refine b31_0 ?_
      simp only [↓br_pos, ↓br_neg, ↓rF_I, ↓rF_L, ↓rF_R, ↓rF_N, rO_m, rB_m, ↓rI_m, wI_m, ↓rB2_m, ↓rB3_m, wB2_m, wB3_m, ↓rL_m, wL_m, ↓rQ_m, wQ_m, ↓lI_m, pI_m, pL_m, pR_m, sI_m, sBy_m, sBo_m, sL_m, sQ_m, fst_m, true_and, and_true, tg_some, ln_some, uI_1, uI_2, uL_1, uL_2, uL_3, uQ_1, uQ_2, uQ_3, rv_i, rv_l, rv_n, rv_b0, rv_b1, RMR, ne_eq, reduceCtorEq, not_false_eq_true, Option.getD_some, if_true, if_false, and_self, false_and, and_false, Nat.add_left_cancel_iff, Nat.add_eq_left, Nat.left_eq_add, Nat.one_ne_zero, Nat.reduceAdd, Nat.reduceLT, Nat.reduceLeDiff, Nat.reduceEqDiff, true_implies, false_implies, implies_true, Option.some.injEq, forall_eq', forall_eq, reduceCtorEq, brT, brF, br_s, i_10, i_01, ib_0_2, ib_1_2, tn_0, tn_1, Int32.le_refl, eq_self, rv_bN, rv_iM, RCX 0, RCG 2, RCT 4, RCT 15, RCT 25, RCS 35, RCS 49, RCH 63, RCP 67, RCB 72, RCR 77, RCM 81, RLY, lit_at hw, h7, c0, l12, s1, s2, c2, eb, en, e1 hd3, e2 hd4, g_34n hw n0 hd1, g_34n hw m1 hd1, g_34n hw m2 hd1, g_34n hw m3 hd1, g_34n hw m4 hd1, g_37 (i := 12) hw GG V2 (by omega) hd1, zy, g_34n hw m9 hd1, on_succ]
      exact hQ
    · have zy : iB (sayP t g2 12) = 0 := iB_f sy
      refine ⟨(uI (uI (uI (uI (uI (uI (uI σ2 19 (τ 2) (-1)) 20 (τ 2) (-1)) 21 (τ 2) (-1)) 22 (τ 2) (-1)) 23 (τ 2) (-1)) 24 (τ 2) 0) 15 4 (Int32.ofNat (τ 2 + 1))), frX_tr x2 (frX_tr (frX_I (by omega)) (frX_tr (frX_I (by omega)) (frX_tr (frX_I (by omega)) (frX_tr (frX_I (by omega)) (frX_tr (frX_I (by omega)) (frX_tr (frX_I (by omega)) (frX_I (by omega)))))))), by rw [eR]; simp only [uI_1, Nat.reduceEqDiff, false_and, if_false]; exact F2, by simp only [uI_1, Nat.reduceEqDiff, false_and, and_false, if_false]; exact (by rw [r2 15 (by omega) (by omega)]), fun q => absurd q (by rw [eR]; exact b), fun hD => cV_of (m := 4) (fun d hd Q hQ => ?_) rfl hD⟩
      have hd1 : 1 ≤ d := by omega
      have hd2 : 2 ≤ d := by omega
      have hd3 : 3 ≤ d := by omega
      have hd4 : 4 ≤ d := by omega
      refine b31_0 ?_
      simp only [↓br_pos, ↓br_neg, ↓rF_I, ↓rF_L, ↓rF_R, ↓rF_N, rO_m, rB_m, ↓rI_m, wI_m, ↓rB2_m, ↓rB3_m, wB2_m, wB3_m, ↓rL_m, wL_m, ↓rQ_m, wQ_m, ↓lI_m, pI_m, pL_m, pR_m, sI_m, sBy_m, sBo_m, sL_m, sQ_m, fst_m, true_and, and_true, tg_some, ln_some, uI_1, uI_2, uL_1, uL_2, uL_3, uQ_1, uQ_2, uQ_3, rv_i, rv_l, rv_n, rv_b0, rv_b1, RMR, ne_eq, reduceCtorEq, not_false_eq_true, Option.getD_some, if_true, if_false, and_self, false_and, and_false, Nat.add_left_cancel_iff, Nat.add_eq_left, Nat.left_eq_add, Nat.one_ne_zero, Nat.reduceAdd, Nat.reduceLT, Nat.reduceLeDiff, Nat.reduceEqDiff, true_implies, false_implies, implies_true, Option.some.injEq, forall_eq', forall_eq, reduceCtorEq, brT, brF, br_s, i_10, i_01, ib_0_2, ib_1_2, tn_0, tn_1, Int32.le_refl, eq_self, rv_bN, rv_iM, RCX 0, RCG 2, RCT 4, RCT 15, RCT 25, RCS 35, RCS 49, RCH 63, RCP 67, RCB 72, RCR 77, RCM 81, RLY, lit_at hw, h7, c0, l12, s1, s2, c2, eb, en, e1 hd3, e2 hd4, g_34n hw n0 hd1, g_34n hw m1 hd1, g_34n hw m2 hd1, g_34n hw m3 hd1, g_34n hw m4 hd1, g_37 (i := 12) hw GG V2 (by omega) hd1, zy, on_succ]
      exact hQ
  have z2' := z2 b
  have K0 : tG σ2 t n (gNm t n (adv t n g)) := z2'.1
  have U0 : vG n (gNm t n (adv t n g)) := vG_nm va
  have Z0 : (gNm t n (adv t n g)) 3 = 0 := by rw [gNm_3, adv_g (by omega)]; exact h03
  obtain ⟨σ3, f3, F3, ⟨g3, G3, V3⟩, z3, e3⟩ := g_34 (σ := σ2) (i := 7) (low := 1) (high := 999) hw ht K0 U0 Z0 (by omega)
  have s3 : σ3.2.2 2 7 = some 15 := by rw [f3.2]; exact s2
  have r3 : ∀ a, 15 ≤ a → a < 25 → σ3.1 a = (σ2).1 a := fun a ha hb => f3.1 a (by omega)
  have c3 : σ3.1 15 4 = Int32.ofNat (τ 2) := by rw [r3 15 (by omega) (by omega)]; exact c2
  have L1 : σ3.1 15 0 = σ.1 15 0 := by rw [r3 15 (by omega) (by omega), r2 15 (by omega) (by omega)]
  have T3 : tTold σ3 15 τ := tTold_fr T2 (fun a h1 h2 => r3 a (by omega) (by omega))
  have x3 : frX 15 σ σ3 := frX_tr x2 (frX_R f3)
  by_cases q1 : toldF t n (gNm t n (adv t n g)) 7 1 999 = 0
  case neg =>
    have n0 : σ3.1 2 5 ≠ 0 := f8_ne F3 q1 (by have := toldF_lt (t := t) (i := 7) (low := 1) (high := 999) U0; omega)
    have m0 : (uI σ3 19 (τ 2) (-1)).1 2 5 ≠ 0 := by simp only [uI_1, Nat.reduceEqDiff, false_and, if_false]; exact n0
    have m1 : (uI (uI σ3 19 (τ 2) (-1)) 20 (τ 2) (-1)).1 2 5 ≠ 0 := by simp only [uI_1, Nat.reduceEqDiff, false_and, if_false]; exact n0
    have m2 : (uI (uI (uI σ3 19 (τ 2) (-1)) 20 (τ 2) (-1)) 21 (τ 2) (-1)).1 2 5 ≠ 0 := by simp only [uI_1, Nat.reduceEqDiff, false_and, if_false]; exact n0
    have m3 : (uI (uI (uI (uI σ3 19 (τ 2) (-1)) 20 (τ 2) (-1)) 21 (τ 2) (-1)) 22 (τ 2) (-1)).1 2 5 ≠ 0 := by simp only [uI_1, Nat.reduceEqDiff, false_and, if_false]; exact n0
    have eR : (rShp t n g nm τ) = (toldF t n (gNm t n (adv t n g)) 7 1 999, g, nm, τ) := by unfold rShp; rw [if_neg a, if_neg (fun q => q b), if_pos q1]
    have GG : tG (uI (uI (uI (uI (uI σ3 19 (τ 2) (-1)) 20 (τ 2) (-1)) 21 (τ 2) (-1)) 22 (τ 2) (-1)) 23 (τ 2) (-1)) t n g3 := (tG_I (tG_I (tG_I (tG_I (tG_I G3 (by omega)) (by omega)) (by omega)) (by omega)) (by omega))
    have m9 : (uI (uI (uI (uI (uI σ3 19 (τ 2) (-1)) 20 (τ 2) (-1)) 21 (τ 2) (-1)) 22 (τ 2) (-1)) 23 (τ 2) (-1)).1 2 5 ≠ 0 := by simp only [uI_1, Nat.reduceEqDiff, false_and, if_false]; exact n0
    by_cases sy : sayP t g3 12
    · have zy : iB (sayP t g3 12) = 1 := iB_t sy
      refine ⟨(uI (uI (uI (uI (uI (uI (uI σ3 19 (τ 2) (-1)) 20 (τ 2) (-1)) 21 (τ 2) (-1)) 22 (τ 2) (-1)) 23 (τ 2) (-1)) 24 (τ 2) (-1)) 15 4 (Int32.ofNat (τ 2 + 1))), frX_tr x3 (frX_tr (frX_I (by omega)) (frX_tr (frX_I (by omega)) (frX_tr (frX_I (by omega)) (frX_tr (frX_I (by omega)) (frX_tr (frX_I (by omega)) (frX_tr (frX_I (by omega)) (frX_I (by omega)))))))), by rw [eR]; simp only [uI_1, Nat.reduceEqDiff, false_and, if_false]; exact F3, by simp only [uI_1, Nat.reduceEqDiff, false_and, and_false, if_false]; exact L1, fun q => absurd q (by rw [eR]; exact q1), fun hD => cV_of (m := 4) (fun d hd Q hQ => ?_) rfl hD⟩
      have hd1 : 1 ≤ d := by omega
      have hd2 : 2 ≤ d := by omega
      have hd3 : 3 ≤ d := by omega
      have hd4 : 4 ≤ d := by omega
      refine b31_0 ?_
      simp only [↓br_pos, ↓br_neg, ↓rF_I, ↓rF_L, ↓rF_R, ↓rF_N, rO_m, rB_m, ↓rI_m, wI_m, ↓rB2_m, ↓rB3_m, wB2_m, wB3_m, ↓rL_m, wL_m, ↓rQ_m, wQ_m, ↓lI_m, pI_m, pL_m, pR_m, sI_m, sBy_m, sBo_m, sL_m, sQ_m, fst_m, true_and, and_true, tg_some, ln_some, uI_1, uI_2, uL_1, uL_2, uL_3, uQ_1, uQ_2, uQ_3, rv_i, rv_l, rv_n, rv_b0, rv_b1, RMR, ne_eq, reduceCtorEq, not_false_eq_true, Option.getD_some, if_true, if_false, and_self, false_and, and_false, Nat.add_left_cancel_iff, Nat.add_eq_left, Nat.left_eq_add, Nat.one_ne_zero, Nat.reduceAdd, Nat.reduceLT, Nat.reduceLeDiff, Nat.reduceEqDiff, true_implies, false_implies, implies_true, Option.some.injEq, forall_eq', forall_eq, reduceCtorEq, brT, brF, br_s, i_10, i_01, ib_0_2, ib_1_2, tn_0, tn_1, Int32.le_refl, eq_self, rv_bN, rv_iM, RCX 0, RCG 2, RCT 4, RCT 15, RCT 25, RCS 35, RCS 49, RCH 63, RCP 67, RCB 72, RCR 77, RCM 81, RLY, lit_at hw, h7, c0, l12, s1, s2, c2, eb, en, e1 hd3, e2 hd4, s3, c3, e3 hd4, q1, g_34n hw m0 hd1, g_34n hw m1 hd1, g_34n hw m2 hd1, g_34n hw m3 hd1, g_37 (i := 12) hw GG V3 (by omega) hd1, zy, g_34n hw m9 hd1, on_succ]
      exact hQ
    · have zy : iB (sayP t g3 12) = 0 := iB_f sy
      refine ⟨(uI (uI (uI (uI (uI (uI (uI σ3 19 (τ 2) (-1)) 20 (τ 2) (-1)) 21 (τ 2) (-1)) 22 (τ 2) (-1)) 23 (τ 2) (-1)) 24 (τ 2) 0) 15 4 (Int32.ofNat (τ 2 + 1))), frX_tr x3 (frX_tr (frX_I (by omega)) (frX_tr (frX_I (by omega)) (frX_tr (frX_I (by omega)) (frX_tr (frX_I (by omega)) (frX_tr (frX_I (by omega)) (frX_tr (frX_I (by omega)) (frX_I (by omega)))))))), by rw [eR]; simp only [uI_1, Nat.reduceEqDiff, false_and, if_false]; exact F3, by simp only [uI_1, Nat.reduceEqDiff, false_and, and_false, if_false]; exact L1, fun q => absurd q (by rw [eR]; exact q1), fun hD => cV_of (m := 4) (fun d hd Q hQ => ?_) rfl hD⟩
      have hd1 : 1 ≤ d := by omega
      have hd2 : 2 ≤ d := by omega
      have hd3 : 3 ≤ d := by omega
      have hd4 : 4 ≤ d := by omega
      refine b31_0 ?_
      simp only [↓br_pos, ↓br_neg, ↓rF_I, ↓rF_L, ↓rF_R, ↓rF_N, rO_m, rB_m, ↓rI_m, wI_m, ↓rB2_m, ↓rB3_m, wB2_m, wB3_m, ↓rL_m, wL_m, ↓rQ_m, wQ_m, ↓lI_m, pI_m, pL_m, pR_m, sI_m, sBy_m, sBo_m, sL_m, sQ_m, fst_m, true_and, and_true, tg_some, ln_some, uI_1, uI_2, uL_1, uL_2, uL_3, uQ_1, uQ_2, uQ_3, rv_i, rv_l, rv_n, rv_b0, rv_b1, RMR, ne_eq, reduceCtorEq, not_false_eq_true, Option.getD_some, if_true, if_false, and_self, false_and, and_false, Nat.add_left_cancel_iff, Nat.add_eq_left, Nat.left_eq_add, Nat.one_ne_zero, Nat.reduceAdd, Nat.reduceLT, Nat.reduceLeDiff, Nat.reduceEqDiff, true_implies, false_implies, implies_true, Option.some.injEq, forall_eq', forall_eq, reduceCtorEq, brT, brF, br_s, i_10, i_01, ib_0_2, ib_1_2, tn_0, tn_1, Int32.le_refl, eq_self, rv_bN, rv_iM, RCX 0, RCG 2, RCT 4, RCT 15, RCT 25, RCS 35, RCS 49, RCH 63, RCP 67, RCB 72, RCR 77, RCM 81, RLY, lit_at hw, h7, c0, l12, s1, s2, c2, eb, en, e1 hd3, e2 hd4, s3, c3, e3 hd4, q1, g_34n hw m0 hd1, g_34n hw m1 hd1, g_34n hw m2 hd1, g_34n hw m3 hd1, g_37 (i := 12) hw GG V3 (by omega) hd1, zy, on_succ]
      exact hQ
  have w1 := told_v (lo := 1) (hi := 999) rfl rfl (by omega) (by omega) q1
  have K1 : tG σ3 t n (gTd t n (gNm t n (adv t n g))) := z3 q1
  have U1 : vG n (gTd t n (gNm t n (adv t n g))) := vG_td U0
  have Z1 : (gTd t n (gNm t n (adv t n g))) 3 = 0 := by rw [gTd_g (by omega)]; exact Z0
  obtain ⟨σ4, f4, F4, ⟨g4, G4, V4⟩, z4, e4⟩ := g_34 (σ := uI σ3 19 (τ 2) (numV t (adv t n (gNm t n (adv t n g))))) (i := 8) (low := 0) (high := 999) hw ht (tG_I K1 (by omega)) U1 Z1 (by omega)
  have s4 : σ4.2.2 2 7 = some 15 := by rw [f4.2]; exact s3
  have r4 : ∀ a, 15 ≤ a → a < 25 → σ4.1 a = (uI σ3 19 (τ 2) (numV t (adv t n (gNm t n (adv t n g))))).1 a := fun a ha hb => f4.1 a (by omega)
  have c4 : σ4.1 15 4 = Int32.ofNat (τ 2) := by rw [r4 15 (by omega) (by omega), uI_1, if_neg (by omega)]; exact c3
  have L2 : σ4.1 15 0 = σ.1 15 0 := by rw [r4 15 (by omega) (by omega), uI_1, if_neg (by omega)]; exact L1
  have T4 : tTold σ4 15 τ := tTold_fr (tT_j (p := 15) (A := 4) T3 (by omega)) (fun a h1 h2 => r4 a (by omega) (by omega))
  have x4 : frX 15 σ σ4 := frX_tr x3 (frX_tr (frX_I (by omega)) (frX_R f4))
  have C2_1 : σ4.1 19 (τ 2) = (numV t (adv t n (gNm t n (adv t n g)))) := by rw [r4 19 (by omega) (by omega), uI_1, if_pos ⟨rfl, rfl⟩]
  by_cases q2 : toldF t n (gTd t n (gNm t n (adv t n g))) 8 0 999 = 0
  case neg =>
    have n0 : σ4.1 2 5 ≠ 0 := f8_ne F4 q2 (by have := toldF_lt (t := t) (i := 8) (low := 0) (high := 999) U1; omega)
    have m0 : (uI σ4 20 (τ 2) (-1)).1 2 5 ≠ 0 := by simp only [uI_1, Nat.reduceEqDiff, false_and, if_false]; exact n0
    have m1 : (uI (uI σ4 20 (τ 2) (-1)) 21 (τ 2) (-1)).1 2 5 ≠ 0 := by simp only [uI_1, Nat.reduceEqDiff, false_and, if_false]; exact n0
    have m2 : (uI (uI (uI σ4 20 (τ 2) (-1)) 21 (τ 2) (-1)) 22 (τ 2) (-1)).1 2 5 ≠ 0 := by simp only [uI_1, Nat.reduceEqDiff, false_and, if_false]; exact n0
    have eR : (rShp t n g nm τ) = (toldF t n (gTd t n (gNm t n (adv t n g))) 8 0 999, g, nm, τ) := by unfold rShp; rw [if_neg a, if_neg (fun q => q b), if_neg (fun q => q q1), if_pos q2]
    have GG : tG (uI (uI (uI (uI σ4 20 (τ 2) (-1)) 21 (τ 2) (-1)) 22 (τ 2) (-1)) 23 (τ 2) (-1)) t n g4 := (tG_I (tG_I (tG_I (tG_I G4 (by omega)) (by omega)) (by omega)) (by omega))
    have m9 : (uI (uI (uI (uI σ4 20 (τ 2) (-1)) 21 (τ 2) (-1)) 22 (τ 2) (-1)) 23 (τ 2) (-1)).1 2 5 ≠ 0 := by simp only [uI_1, Nat.reduceEqDiff, false_and, if_false]; exact n0
    by_cases sy : sayP t g4 12
    · have zy : iB (sayP t g4 12) = 1 := iB_t sy
      refine ⟨(uI (uI (uI (uI (uI (uI σ4 20 (τ 2) (-1)) 21 (τ 2) (-1)) 22 (τ 2) (-1)) 23 (τ 2) (-1)) 24 (τ 2) (-1)) 15 4 (Int32.ofNat (τ 2 + 1))), frX_tr x4 (frX_tr (frX_I (by omega)) (frX_tr (frX_I (by omega)) (frX_tr (frX_I (by omega)) (frX_tr (frX_I (by omega)) (frX_tr (frX_I (by omega)) (frX_I (by omega))))))), by rw [eR]; simp only [uI_1, Nat.reduceEqDiff, false_and, if_false]; exact F4, by simp only [uI_1, Nat.reduceEqDiff, false_and, and_false, if_false]; exact L2, fun q => absurd q (by rw [eR]; exact q2), fun hD => cV_of (m := 4) (fun d hd Q hQ => ?_) rfl hD⟩
      have hd1 : 1 ≤ d := by omega
      have hd2 : 2 ≤ d := by omega
      have hd3 : 3 ≤ d := by omega
      have hd4 : 4 ≤ d := by omega
      refine b31_0 ?_
      simp only [↓br_pos, ↓br_neg, ↓rF_I, ↓rF_L, ↓rF_R, ↓rF_N, rO_m, rB_m, ↓rI_m, wI_m, ↓rB2_m, ↓rB3_m, wB2_m, wB3_m, ↓rL_m, wL_m, ↓rQ_m, wQ_m, ↓lI_m, pI_m, pL_m, pR_m, sI_m, sBy_m, sBo_m, sL_m, sQ_m, fst_m, true_and, and_true, tg_some, ln_some, uI_1, uI_2, uL_1, uL_2, uL_3, uQ_1, uQ_2, uQ_3, rv_i, rv_l, rv_n, rv_b0, rv_b1, RMR, ne_eq, reduceCtorEq, not_false_eq_true, Option.getD_some, if_true, if_false, and_self, false_and, and_false, Nat.add_left_cancel_iff, Nat.add_eq_left, Nat.left_eq_add, Nat.one_ne_zero, Nat.reduceAdd, Nat.reduceLT, Nat.reduceLeDiff, Nat.reduceEqDiff, true_implies, false_implies, implies_true, Option.some.injEq, forall_eq', forall_eq, reduceCtorEq, brT, brF, br_s, i_10, i_01, ib_0_2, ib_1_2, tn_0, tn_1, Int32.le_refl, eq_self, rv_bN, rv_iM, RCX 0, RCG 2, RCT 4, RCT 15, RCT 25, RCS 35, RCS 49, RCH 63, RCP 67, RCB 72, RCR 77, RCM 81, RLY, lit_at hw, h7, c0, l12, s1, s2, c2, eb, en, e1 hd3, e2 hd4, s3, c3, e3 hd4, q1, s4, c4, e4 hd4, q2, g_34n hw m0 hd1, g_34n hw m1 hd1, g_34n hw m2 hd1, g_37 (i := 12) hw GG V4 (by omega) hd1, zy, g_34n hw m9 hd1, on_succ]
      exact hQ
    · have zy : iB (sayP t g4 12) = 0 := iB_f sy
      refine ⟨(uI (uI (uI (uI (uI (uI σ4 20 (τ 2) (-1)) 21 (τ 2) (-1)) 22 (τ 2) (-1)) 23 (τ 2) (-1)) 24 (τ 2) 0) 15 4 (Int32.ofNat (τ 2 + 1))), frX_tr x4 (frX_tr (frX_I (by omega)) (frX_tr (frX_I (by omega)) (frX_tr (frX_I (by omega)) (frX_tr (frX_I (by omega)) (frX_tr (frX_I (by omega)) (frX_I (by omega))))))), by rw [eR]; simp only [uI_1, Nat.reduceEqDiff, false_and, if_false]; exact F4, by simp only [uI_1, Nat.reduceEqDiff, false_and, and_false, if_false]; exact L2, fun q => absurd q (by rw [eR]; exact q2), fun hD => cV_of (m := 4) (fun d hd Q hQ => ?_) rfl hD⟩
      have hd1 : 1 ≤ d := by omega
      have hd2 : 2 ≤ d := by omega
      have hd3 : 3 ≤ d := by omega
      have hd4 : 4 ≤ d := by omega
      refine b31_0 ?_
      simp only [↓br_pos, ↓br_neg, ↓rF_I, ↓rF_L, ↓rF_R, ↓rF_N, rO_m, rB_m, ↓rI_m, wI_m, ↓rB2_m, ↓rB3_m, wB2_m, wB3_m, ↓rL_m, wL_m, ↓rQ_m, wQ_m, ↓lI_m, pI_m, pL_m, pR_m, sI_m, sBy_m, sBo_m, sL_m, sQ_m, fst_m, true_and, and_true, tg_some, ln_some, uI_1, uI_2, uL_1, uL_2, uL_3, uQ_1, uQ_2, uQ_3, rv_i, rv_l, rv_n, rv_b0, rv_b1, RMR, ne_eq, reduceCtorEq, not_false_eq_true, Option.getD_some, if_true, if_false, and_self, false_and, and_false, Nat.add_left_cancel_iff, Nat.add_eq_left, Nat.left_eq_add, Nat.one_ne_zero, Nat.reduceAdd, Nat.reduceLT, Nat.reduceLeDiff, Nat.reduceEqDiff, true_implies, false_implies, implies_true, Option.some.injEq, forall_eq', forall_eq, reduceCtorEq, brT, brF, br_s, i_10, i_01, ib_0_2, ib_1_2, tn_0, tn_1, Int32.le_refl, eq_self, rv_bN, rv_iM, RCX 0, RCG 2, RCT 4, RCT 15, RCT 25, RCS 35, RCS 49, RCH 63, RCP 67, RCB 72, RCR 77, RCM 81, RLY, lit_at hw, h7, c0, l12, s1, s2, c2, eb, en, e1 hd3, e2 hd4, s3, c3, e3 hd4, q1, s4, c4, e4 hd4, q2, g_34n hw m0 hd1, g_34n hw m1 hd1, g_34n hw m2 hd1, g_37 (i := 12) hw GG V4 (by omega) hd1, zy, on_succ]
      exact hQ
  have w2 := told_v (lo := 0) (hi := 999) rfl rfl (by omega) (by omega) q2
  have K2 : tG σ4 t n (gTd t n (gTd t n (gNm t n (adv t n g)))) := z4 q2
  have U2 : vG n (gTd t n (gTd t n (gNm t n (adv t n g)))) := vG_td U1
  have Z2 : (gTd t n (gTd t n (gNm t n (adv t n g)))) 3 = 0 := by rw [gTd_g (by omega)]; exact Z1
  obtain ⟨σ5, f5, F5, ⟨g5, G5, V5⟩, z5, e5⟩ := g_34 (σ := uI σ4 20 (τ 2) (numV t (adv t n (gTd t n (gNm t n (adv t n g)))))) (i := 9) (low := (numV t (adv t n (gTd t n (gNm t n (adv t n g)))))) (high := 999) hw ht (tG_I K2 (by omega)) U2 Z2 (by omega)
  have s5 : σ5.2.2 2 7 = some 15 := by rw [f5.2]; exact s4
  have r5 : ∀ a, 15 ≤ a → a < 25 → σ5.1 a = (uI σ4 20 (τ 2) (numV t (adv t n (gTd t n (gNm t n (adv t n g)))))).1 a := fun a ha hb => f5.1 a (by omega)
  have c5 : σ5.1 15 4 = Int32.ofNat (τ 2) := by rw [r5 15 (by omega) (by omega), uI_1, if_neg (by omega)]; exact c4
  have L3 : σ5.1 15 0 = σ.1 15 0 := by rw [r5 15 (by omega) (by omega), uI_1, if_neg (by omega)]; exact L2
  have T5 : tTold σ5 15 τ := tTold_fr (tT_j (p := 15) (A := 5) T4 (by omega)) (fun a h1 h2 => r5 a (by omega) (by omega))
  have x5 : frX 15 σ σ5 := frX_tr x4 (frX_tr (frX_I (by omega)) (frX_R f5))
  have C3_1 : σ5.1 19 (τ 2) = (numV t (adv t n (gNm t n (adv t n g)))) := by rw [r5 19 (by omega) (by omega), uI_1, if_neg (by omega)]; exact C2_1
  have C3_2 : σ5.1 20 (τ 2) = (numV t (adv t n (gTd t n (gNm t n (adv t n g))))) := by rw [r5 20 (by omega) (by omega), uI_1, if_pos ⟨rfl, rfl⟩]
  by_cases q3 : toldF t n (gTd t n (gTd t n (gNm t n (adv t n g)))) 9 (numV t (adv t n (gTd t n (gNm t n (adv t n g))))) 999 = 0
  case neg =>
    have n0 : σ5.1 2 5 ≠ 0 := f8_ne F5 q3 (by have := toldF_lt (t := t) (i := 9) (low := (numV t (adv t n (gTd t n (gNm t n (adv t n g)))))) (high := 999) U2; omega)
    have m0 : (uI σ5 21 (τ 2) (-1)).1 2 5 ≠ 0 := by simp only [uI_1, Nat.reduceEqDiff, false_and, if_false]; exact n0
    have m1 : (uI (uI σ5 21 (τ 2) (-1)) 22 (τ 2) (-1)).1 2 5 ≠ 0 := by simp only [uI_1, Nat.reduceEqDiff, false_and, if_false]; exact n0
    have eR : (rShp t n g nm τ) = (toldF t n (gTd t n (gTd t n (gNm t n (adv t n g)))) 9 (numV t (adv t n (gTd t n (gNm t n (adv t n g))))) 999, g, nm, τ) := by unfold rShp; rw [if_neg a, if_neg (fun q => q b), if_neg (fun q => q q1), if_neg (fun q => q q2), if_pos q3]
    have GG : tG (uI (uI (uI σ5 21 (τ 2) (-1)) 22 (τ 2) (-1)) 23 (τ 2) (-1)) t n g5 := (tG_I (tG_I (tG_I G5 (by omega)) (by omega)) (by omega))
    have m9 : (uI (uI (uI σ5 21 (τ 2) (-1)) 22 (τ 2) (-1)) 23 (τ 2) (-1)).1 2 5 ≠ 0 := by simp only [uI_1, Nat.reduceEqDiff, false_and, if_false]; exact n0
    by_cases sy : sayP t g5 12
    · have zy : iB (sayP t g5 12) = 1 := iB_t sy
      refine ⟨(uI (uI (uI (uI (uI σ5 21 (τ 2) (-1)) 22 (τ 2) (-1)) 23 (τ 2) (-1)) 24 (τ 2) (-1)) 15 4 (Int32.ofNat (τ 2 + 1))), frX_tr x5 (frX_tr (frX_I (by omega)) (frX_tr (frX_I (by omega)) (frX_tr (frX_I (by omega)) (frX_tr (frX_I (by omega)) (frX_I (by omega)))))), by rw [eR]; simp only [uI_1, Nat.reduceEqDiff, false_and, if_false]; exact F5, by simp only [uI_1, Nat.reduceEqDiff, false_and, and_false, if_false]; exact L3, fun q => absurd q (by rw [eR]; exact q3), fun hD => cV_of (m := 4) (fun d hd Q hQ => ?_) rfl hD⟩
      have hd1 : 1 ≤ d := by omega
      have hd2 : 2 ≤ d := by omega
      have hd3 : 3 ≤ d := by omega
      have hd4 : 4 ≤ d := by omega
      refine b31_0 ?_
      simp only [↓br_pos, ↓br_neg, ↓rF_I, ↓rF_L, ↓rF_R, ↓rF_N, rO_m, rB_m, ↓rI_m, wI_m, ↓rB2_m, ↓rB3_m, wB2_m, wB3_m, ↓rL_m, wL_m, ↓rQ_m, wQ_m, ↓lI_m, pI_m, pL_m, pR_m, sI_m, sBy_m, sBo_m, sL_m, sQ_m, fst_m, true_and, and_true, tg_some, ln_some, uI_1, uI_2, uL_1, uL_2, uL_3, uQ_1, uQ_2, uQ_3, rv_i, rv_l, rv_n, rv_b0, rv_b1, RMR, ne_eq, reduceCtorEq, not_false_eq_true, Option.getD_some, if_true, if_false, and_self, false_and, and_false, Nat.add_left_cancel_iff, Nat.add_eq_left, Nat.left_eq_add, Nat.one_ne_zero, Nat.reduceAdd, Nat.reduceLT, Nat.reduceLeDiff, Nat.reduceEqDiff, true_implies, false_implies, implies_true, Option.some.injEq, forall_eq', forall_eq, reduceCtorEq, brT, brF, br_s, i_10, i_01, ib_0_2, ib_1_2, tn_0, tn_1, Int32.le_refl, eq_self, rv_bN, rv_iM, RCX 0, RCG 2, RCT 4, RCT 15, RCT 25, RCS 35, RCS 49, RCH 63, RCP 67, RCB 72, RCR 77, RCM 81, RLY, lit_at hw, h7, c0, l12, s1, s2, c2, eb, en, e1 hd3, e2 hd4, s3, c3, e3 hd4, q1, s4, c4, e4 hd4, q2, s5, c5, e5 hd4, q3, C3_2, g_34n hw m0 hd1, g_34n hw m1 hd1, g_37 (i := 12) hw GG V5 (by omega) hd1, zy, g_34n hw m9 hd1, on_succ]
      exact hQ
    · have zy : iB (sayP t g5 12) = 0 := iB_f sy
      refine ⟨(uI (uI (uI (uI (uI σ5 21 (τ 2) (-1)) 22 (τ 2) (-1)) 23 (τ 2) (-1)) 24 (τ 2) 0) 15 4 (Int32.ofNat (τ 2 + 1))), frX_tr x5 (frX_tr (frX_I (by omega)) (frX_tr (frX_I (by omega)) (frX_tr (frX_I (by omega)) (frX_tr (frX_I (by omega)) (frX_I (by omega)))))), by rw [eR]; simp only [uI_1, Nat.reduceEqDiff, false_and, if_false]; exact F5, by simp only [uI_1, Nat.reduceEqDiff, false_and, and_false, if_false]; exact L3, fun q => absurd q (by rw [eR]; exact q3), fun hD => cV_of (m := 4) (fun d hd Q hQ => ?_) rfl hD⟩
      have hd1 : 1 ≤ d := by omega
      have hd2 : 2 ≤ d := by omega
      have hd3 : 3 ≤ d := by omega
      have hd4 : 4 ≤ d := by omega
      refine b31_0 ?_
      simp only [↓br_pos, ↓br_neg, ↓rF_I, ↓rF_L, ↓rF_R, ↓rF_N, rO_m, rB_m, ↓rI_m, wI_m, ↓rB2_m, ↓rB3_m, wB2_m, wB3_m, ↓rL_m, wL_m, ↓rQ_m, wQ_m, ↓lI_m, pI_m, pL_m, pR_m, sI_m, sBy_m, sBo_m, sL_m, sQ_m, fst_m, true_and, and_true, tg_some, ln_some, uI_1, uI_2, uL_1, uL_2, uL_3, uQ_1, uQ_2, uQ_3, rv_i, rv_l, rv_n, rv_b0, rv_b1, RMR, ne_eq, reduceCtorEq, not_false_eq_true, Option.getD_some, if_true, if_false, and_self, false_and, and_false, Nat.add_left_cancel_iff, Nat.add_eq_left, Nat.left_eq_add, Nat.one_ne_zero, Nat.reduceAdd, Nat.reduceLT, Nat.reduceLeDiff, Nat.reduceEqDiff, true_implies, false_implies, implies_true, Option.some.injEq, forall_eq', forall_eq, reduceCtorEq, brT, brF, br_s, i_10, i_01, ib_0_2, ib_1_2, tn_0, tn_1, Int32.le_refl, eq_self, rv_bN, rv_iM, RCX 0, RCG 2, RCT 4, RCT 15, RCT 25, RCS 35, RCS 49, RCH 63, RCP 67, RCB 72, RCR 77, RCM 81, RLY, lit_at hw, h7, c0, l12, s1, s2, c2, eb, en, e1 hd3, e2 hd4, s3, c3, e3 hd4, q1, s4, c4, e4 hd4, q2, s5, c5, e5 hd4, q3, C3_2, g_34n hw m0 hd1, g_34n hw m1 hd1, g_37 (i := 12) hw GG V5 (by omega) hd1, zy, on_succ]
      exact hQ
  have w3 := told_v (lo := (nN t (adv t n (gTd t n (gNm t n (adv t n g)))))) (hi := 999) w2.1 rfl (by omega) (by omega) q3
  have K3 : tG σ5 t n (gTd t n (gTd t n (gTd t n (gNm t n (adv t n g))))) := z5 q3
  have U3 : vG n (gTd t n (gTd t n (gTd t n (gNm t n (adv t n g))))) := vG_td U2
  have Z3 : (gTd t n (gTd t n (gTd t n (gNm t n (adv t n g))))) 3 = 0 := by rw [gTd_g (by omega)]; exact Z2
  obtain ⟨σ6, f6, F6, ⟨g6, G6, V6⟩, z6, e6⟩ := g_34 (σ := uI σ5 21 (τ 2) (numV t (adv t n (gTd t n (gTd t n (gNm t n (adv t n g))))))) (i := 10) (low := 1) (high := 99) hw ht (tG_I K3 (by omega)) U3 Z3 (by omega)
  have s6 : σ6.2.2 2 7 = some 15 := by rw [f6.2]; exact s5
  have r6 : ∀ a, 15 ≤ a → a < 25 → σ6.1 a = (uI σ5 21 (τ 2) (numV t (adv t n (gTd t n (gTd t n (gNm t n (adv t n g))))))).1 a := fun a ha hb => f6.1 a (by omega)
  have c6 : σ6.1 15 4 = Int32.ofNat (τ 2) := by rw [r6 15 (by omega) (by omega), uI_1, if_neg (by omega)]; exact c5
  have L4 : σ6.1 15 0 = σ.1 15 0 := by rw [r6 15 (by omega) (by omega), uI_1, if_neg (by omega)]; exact L3
  have T6 : tTold σ6 15 τ := tTold_fr (tT_j (p := 15) (A := 6) T5 (by omega)) (fun a h1 h2 => r6 a (by omega) (by omega))
  have x6 : frX 15 σ σ6 := frX_tr x5 (frX_tr (frX_I (by omega)) (frX_R f6))
  have C4_1 : σ6.1 19 (τ 2) = (numV t (adv t n (gNm t n (adv t n g)))) := by rw [r6 19 (by omega) (by omega), uI_1, if_neg (by omega)]; exact C3_1
  have C4_2 : σ6.1 20 (τ 2) = (numV t (adv t n (gTd t n (gNm t n (adv t n g))))) := by rw [r6 20 (by omega) (by omega), uI_1, if_neg (by omega)]; exact C3_2
  have C4_3 : σ6.1 21 (τ 2) = (numV t (adv t n (gTd t n (gTd t n (gNm t n (adv t n g)))))) := by rw [r6 21 (by omega) (by omega), uI_1, if_pos ⟨rfl, rfl⟩]
  by_cases q4 : toldF t n (gTd t n (gTd t n (gTd t n (gNm t n (adv t n g))))) 10 1 99 = 0
  case neg =>
    have n0 : σ6.1 2 5 ≠ 0 := f8_ne F6 q4 (by have := toldF_lt (t := t) (i := 10) (low := 1) (high := 99) U3; omega)
    have m0 : (uI σ6 22 (τ 2) (-1)).1 2 5 ≠ 0 := by simp only [uI_1, Nat.reduceEqDiff, false_and, if_false]; exact n0
    have eR : (rShp t n g nm τ) = (toldF t n (gTd t n (gTd t n (gTd t n (gNm t n (adv t n g))))) 10 1 99, g, nm, τ) := by unfold rShp; rw [if_neg a, if_neg (fun q => q b), if_neg (fun q => q q1), if_neg (fun q => q q2), if_neg (fun q => q q3), if_pos q4]
    have GG : tG (uI (uI σ6 22 (τ 2) (-1)) 23 (τ 2) (-1)) t n g6 := (tG_I (tG_I G6 (by omega)) (by omega))
    have m9 : (uI (uI σ6 22 (τ 2) (-1)) 23 (τ 2) (-1)).1 2 5 ≠ 0 := by simp only [uI_1, Nat.reduceEqDiff, false_and, if_false]; exact n0
    by_cases sy : sayP t g6 12
    · have zy : iB (sayP t g6 12) = 1 := iB_t sy
      refine ⟨(uI (uI (uI (uI σ6 22 (τ 2) (-1)) 23 (τ 2) (-1)) 24 (τ 2) (-1)) 15 4 (Int32.ofNat (τ 2 + 1))), frX_tr x6 (frX_tr (frX_I (by omega)) (frX_tr (frX_I (by omega)) (frX_tr (frX_I (by omega)) (frX_I (by omega))))), by rw [eR]; simp only [uI_1, Nat.reduceEqDiff, false_and, if_false]; exact F6, by simp only [uI_1, Nat.reduceEqDiff, false_and, and_false, if_false]; exact L4, fun q => absurd q (by rw [eR]; exact q4), fun hD => cV_of (m := 4) (fun d hd Q hQ => ?_) rfl hD⟩
      have hd1 : 1 ≤ d := by omega
      have hd2 : 2 ≤ d := by omega
      have hd3 : 3 ≤ d := by omega
      have hd4 : 4 ≤ d := by omega
      refine b31_0 ?_
      simp only [↓br_pos, ↓br_neg, ↓rF_I, ↓rF_L, ↓rF_R, ↓rF_N, rO_m, rB_m, ↓rI_m, wI_m, ↓rB2_m, ↓rB3_m, wB2_m, wB3_m, ↓rL_m, wL_m, ↓rQ_m, wQ_m, ↓lI_m, pI_m, pL_m, pR_m, sI_m, sBy_m, sBo_m, sL_m, sQ_m, fst_m, true_and, and_true, tg_some, ln_some, uI_1, uI_2, uL_1, uL_2, uL_3, uQ_1, uQ_2, uQ_3, rv_i, rv_l, rv_n, rv_b0, rv_b1, RMR, ne_eq, reduceCtorEq, not_false_eq_true, Option.getD_some, if_true, if_false, and_self, false_and, and_false, Nat.add_left_cancel_iff, Nat.add_eq_left, Nat.left_eq_add, Nat.one_ne_zero, Nat.reduceAdd, Nat.reduceLT, Nat.reduceLeDiff, Nat.reduceEqDiff, true_implies, false_implies, implies_true, Option.some.injEq, forall_eq', forall_eq, reduceCtorEq, brT, brF, br_s, i_10, i_01, ib_0_2, ib_1_2, tn_0, tn_1, Int32.le_refl, eq_self, rv_bN, rv_iM, RCX 0, RCG 2, RCT 4, RCT 15, RCT 25, RCS 35, RCS 49, RCH 63, RCP 67, RCB 72, RCR 77, RCM 81, RLY, lit_at hw, h7, c0, l12, s1, s2, c2, eb, en, e1 hd3, e2 hd4, s3, c3, e3 hd4, q1, s4, c4, e4 hd4, q2, s5, c5, e5 hd4, q3, C3_2, s6, c6, e6 hd4, q4, C3_2, g_34n hw m0 hd1, g_37 (i := 12) hw GG V6 (by omega) hd1, zy, g_34n hw m9 hd1, on_succ]
      exact hQ
    · have zy : iB (sayP t g6 12) = 0 := iB_f sy
      refine ⟨(uI (uI (uI (uI σ6 22 (τ 2) (-1)) 23 (τ 2) (-1)) 24 (τ 2) 0) 15 4 (Int32.ofNat (τ 2 + 1))), frX_tr x6 (frX_tr (frX_I (by omega)) (frX_tr (frX_I (by omega)) (frX_tr (frX_I (by omega)) (frX_I (by omega))))), by rw [eR]; simp only [uI_1, Nat.reduceEqDiff, false_and, if_false]; exact F6, by simp only [uI_1, Nat.reduceEqDiff, false_and, and_false, if_false]; exact L4, fun q => absurd q (by rw [eR]; exact q4), fun hD => cV_of (m := 4) (fun d hd Q hQ => ?_) rfl hD⟩
      have hd1 : 1 ≤ d := by omega
      have hd2 : 2 ≤ d := by omega
      have hd3 : 3 ≤ d := by omega
      have hd4 : 4 ≤ d := by omega
      refine b31_0 ?_
      simp only [↓br_pos, ↓br_neg, ↓rF_I, ↓rF_L, ↓rF_R, ↓rF_N, rO_m, rB_m, ↓rI_m, wI_m, ↓rB2_m, ↓rB3_m, wB2_m, wB3_m, ↓rL_m, wL_m, ↓rQ_m, wQ_m, ↓lI_m, pI_m, pL_m, pR_m, sI_m, sBy_m, sBo_m, sL_m, sQ_m, fst_m, true_and, and_true, tg_some, ln_some, uI_1, uI_2, uL_1, uL_2, uL_3, uQ_1, uQ_2, uQ_3, rv_i, rv_l, rv_n, rv_b0, rv_b1, RMR, ne_eq, reduceCtorEq, not_false_eq_true, Option.getD_some, if_true, if_false, and_self, false_and, and_false, Nat.add_left_cancel_iff, Nat.add_eq_left, Nat.left_eq_add, Nat.one_ne_zero, Nat.reduceAdd, Nat.reduceLT, Nat.reduceLeDiff, Nat.reduceEqDiff, true_implies, false_implies, implies_true, Option.some.injEq, forall_eq', forall_eq, reduceCtorEq, brT, brF, br_s, i_10, i_01, ib_0_2, ib_1_2, tn_0, tn_1, Int32.le_refl, eq_self, rv_bN, rv_iM, RCX 0, RCG 2, RCT 4, RCT 15, RCT 25, RCS 35, RCS 49, RCH 63, RCP 67, RCB 72, RCR 77, RCM 81, RLY, lit_at hw, h7, c0, l12, s1, s2, c2, eb, en, e1 hd3, e2 hd4, s3, c3, e3 hd4, q1, s4, c4, e4 hd4, q2, s5, c5, e5 hd4, q3, C3_2, s6, c6, e6 hd4, q4, C3_2, g_34n hw m0 hd1, g_37 (i := 12) hw GG V6 (by omega) hd1, zy, on_succ]
      exact hQ
  have w4 := told_v (lo := 1) (hi := 99) rfl rfl (by omega) (by omega) q4
  have K4 : tG σ6 t n (gTd t n (gTd t n (gTd t n (gTd t n (gNm t n (adv t n g)))))) := z6 q4
  have U4 : vG n (gTd t n (gTd t n (gTd t n (gTd t n (gNm t n (adv t n g)))))) := vG_td U3
  have Z4 : (gTd t n (gTd t n (gTd t n (gTd t n (gNm t n (adv t n g)))))) 3 = 0 := by rw [gTd_g (by omega)]; exact Z3
  obtain ⟨σ7, f7, F7, ⟨g7, G7, V7⟩, z7, e7⟩ := g_34 (σ := uI σ6 22 (τ 2) (numV t (adv t n (gTd t n (gTd t n (gTd t n (gNm t n (adv t n g)))))))) (i := 11) (low := 1) (high := 20) hw ht (tG_I K4 (by omega)) U4 Z4 (by omega)
  have s7 : σ7.2.2 2 7 = some 15 := by rw [f7.2]; exact s6
  have r7 : ∀ a, 15 ≤ a → a < 25 → σ7.1 a = (uI σ6 22 (τ 2) (numV t (adv t n (gTd t n (gTd t n (gTd t n (gNm t n (adv t n g)))))))).1 a := fun a ha hb => f7.1 a (by omega)
  have c7 : σ7.1 15 4 = Int32.ofNat (τ 2) := by rw [r7 15 (by omega) (by omega), uI_1, if_neg (by omega)]; exact c6
  have L5 : σ7.1 15 0 = σ.1 15 0 := by rw [r7 15 (by omega) (by omega), uI_1, if_neg (by omega)]; exact L4
  have T7 : tTold σ7 15 τ := tTold_fr (tT_j (p := 15) (A := 7) T6 (by omega)) (fun a h1 h2 => r7 a (by omega) (by omega))
  have x7 : frX 15 σ σ7 := frX_tr x6 (frX_tr (frX_I (by omega)) (frX_R f7))
  have C5_1 : σ7.1 19 (τ 2) = (numV t (adv t n (gNm t n (adv t n g)))) := by rw [r7 19 (by omega) (by omega), uI_1, if_neg (by omega)]; exact C4_1
  have C5_2 : σ7.1 20 (τ 2) = (numV t (adv t n (gTd t n (gNm t n (adv t n g))))) := by rw [r7 20 (by omega) (by omega), uI_1, if_neg (by omega)]; exact C4_2
  have C5_3 : σ7.1 21 (τ 2) = (numV t (adv t n (gTd t n (gTd t n (gNm t n (adv t n g)))))) := by rw [r7 21 (by omega) (by omega), uI_1, if_neg (by omega)]; exact C4_3
  have C5_4 : σ7.1 22 (τ 2) = (numV t (adv t n (gTd t n (gTd t n (gTd t n (gNm t n (adv t n g))))))) := by rw [r7 22 (by omega) (by omega), uI_1, if_pos ⟨rfl, rfl⟩]
  by_cases q5 : toldF t n (gTd t n (gTd t n (gTd t n (gTd t n (gNm t n (adv t n g)))))) 11 1 20 = 0
  case neg =>
    have n0 : σ7.1 2 5 ≠ 0 := f8_ne F7 q5 (by have := toldF_lt (t := t) (i := 11) (low := 1) (high := 20) U4; omega)
    have eR : (rShp t n g nm τ) = (toldF t n (gTd t n (gTd t n (gTd t n (gTd t n (gNm t n (adv t n g)))))) 11 1 20, g, nm, τ) := by unfold rShp; rw [if_neg a, if_neg (fun q => q b), if_neg (fun q => q q1), if_neg (fun q => q q2), if_neg (fun q => q q3), if_neg (fun q => q q4), if_pos q5]
    have GG : tG (uI σ7 23 (τ 2) (-1)) t n g7 := (tG_I G7 (by omega))
    have m9 : (uI σ7 23 (τ 2) (-1)).1 2 5 ≠ 0 := by simp only [uI_1, Nat.reduceEqDiff, false_and, if_false]; exact n0
    by_cases sy : sayP t g7 12
    · have zy : iB (sayP t g7 12) = 1 := iB_t sy
      refine ⟨(uI (uI (uI σ7 23 (τ 2) (-1)) 24 (τ 2) (-1)) 15 4 (Int32.ofNat (τ 2 + 1))), frX_tr x7 (frX_tr (frX_I (by omega)) (frX_tr (frX_I (by omega)) (frX_I (by omega)))), by rw [eR]; simp only [uI_1, Nat.reduceEqDiff, false_and, if_false]; exact F7, by simp only [uI_1, Nat.reduceEqDiff, false_and, and_false, if_false]; exact L5, fun q => absurd q (by rw [eR]; exact q5), fun hD => cV_of (m := 4) (fun d hd Q hQ => ?_) rfl hD⟩
      have hd1 : 1 ≤ d := by omega
      have hd2 : 2 ≤ d := by omega
      have hd3 : 3 ≤ d := by omega
      have hd4 : 4 ≤ d := by omega
      refine b31_0 ?_
      simp only [↓br_pos, ↓br_neg, ↓rF_I, ↓rF_L, ↓rF_R, ↓rF_N, rO_m, rB_m, ↓rI_m, wI_m, ↓rB2_m, ↓rB3_m, wB2_m, wB3_m, ↓rL_m, wL_m, ↓rQ_m, wQ_m, ↓lI_m, pI_m, pL_m, pR_m, sI_m, sBy_m, sBo_m, sL_m, sQ_m, fst_m, true_and, and_true, tg_some, ln_some, uI_1, uI_2, uL_1, uL_2, uL_3, uQ_1, uQ_2, uQ_3, rv_i, rv_l, rv_n, rv_b0, rv_b1, RMR, ne_eq, reduceCtorEq, not_false_eq_true, Option.getD_some, if_true, if_false, and_self, false_and, and_false, Nat.add_left_cancel_iff, Nat.add_eq_left, Nat.left_eq_add, Nat.one_ne_zero, Nat.reduceAdd, Nat.reduceLT, Nat.reduceLeDiff, Nat.reduceEqDiff, true_implies, false_implies, implies_true, Option.some.injEq, forall_eq', forall_eq, reduceCtorEq, brT, brF, br_s, i_10, i_01, ib_0_2, ib_1_2, tn_0, tn_1, Int32.le_refl, eq_self, rv_bN, rv_iM, RCX 0, RCG 2, RCT 4, RCT 15, RCT 25, RCS 35, RCS 49, RCH 63, RCP 67, RCB 72, RCR 77, RCM 81, RLY, lit_at hw, h7, c0, l12, s1, s2, c2, eb, en, e1 hd3, e2 hd4, s3, c3, e3 hd4, q1, s4, c4, e4 hd4, q2, s5, c5, e5 hd4, q3, C3_2, s6, c6, e6 hd4, q4, C3_2, s7, c7, e7 hd4, q5, C3_2, g_37 (i := 12) hw GG V7 (by omega) hd1, zy, g_34n hw m9 hd1, on_succ]
      exact hQ
    · have zy : iB (sayP t g7 12) = 0 := iB_f sy
      refine ⟨(uI (uI (uI σ7 23 (τ 2) (-1)) 24 (τ 2) 0) 15 4 (Int32.ofNat (τ 2 + 1))), frX_tr x7 (frX_tr (frX_I (by omega)) (frX_tr (frX_I (by omega)) (frX_I (by omega)))), by rw [eR]; simp only [uI_1, Nat.reduceEqDiff, false_and, if_false]; exact F7, by simp only [uI_1, Nat.reduceEqDiff, false_and, and_false, if_false]; exact L5, fun q => absurd q (by rw [eR]; exact q5), fun hD => cV_of (m := 4) (fun d hd Q hQ => ?_) rfl hD⟩
      have hd1 : 1 ≤ d := by omega
      have hd2 : 2 ≤ d := by omega
      have hd3 : 3 ≤ d := by omega
      have hd4 : 4 ≤ d := by omega
      refine b31_0 ?_
      simp only [↓br_pos, ↓br_neg, ↓rF_I, ↓rF_L, ↓rF_R, ↓rF_N, rO_m, rB_m, ↓rI_m, wI_m, ↓rB2_m, ↓rB3_m, wB2_m, wB3_m, ↓rL_m, wL_m, ↓rQ_m, wQ_m, ↓lI_m, pI_m, pL_m, pR_m, sI_m, sBy_m, sBo_m, sL_m, sQ_m, fst_m, true_and, and_true, tg_some, ln_some, uI_1, uI_2, uL_1, uL_2, uL_3, uQ_1, uQ_2, uQ_3, rv_i, rv_l, rv_n, rv_b0, rv_b1, RMR, ne_eq, reduceCtorEq, not_false_eq_true, Option.getD_some, if_true, if_false, and_self, false_and, and_false, Nat.add_left_cancel_iff, Nat.add_eq_left, Nat.left_eq_add, Nat.one_ne_zero, Nat.reduceAdd, Nat.reduceLT, Nat.reduceLeDiff, Nat.reduceEqDiff, true_implies, false_implies, implies_true, Option.some.injEq, forall_eq', forall_eq, reduceCtorEq, brT, brF, br_s, i_10, i_01, ib_0_2, ib_1_2, tn_0, tn_1, Int32.le_refl, eq_self, rv_bN, rv_iM, RCX 0, RCG 2, RCT 4, RCT 15, RCT 25, RCS 35, RCS 49, RCH 63, RCP 67, RCB 72, RCR 77, RCM 81, RLY, lit_at hw, h7, c0, l12, s1, s2, c2, eb, en, e1 hd3, e2 hd4, s3, c3, e3 hd4, q1, s4, c4, e4 hd4, q2, s5, c5, e5 hd4, q3, C3_2, s6, c6, e6 hd4, q4, C3_2, s7, c7, e7 hd4, q5, C3_2, g_37 (i := 12) hw GG V7 (by omega) hd1, zy, on_succ]
      exact hQ
  have w5 := told_v (lo := 1) (hi := 20) rfl rfl (by omega) (by omega) q5
  have K5 : tG σ7 t n (gTd t n (gTd t n (gTd t n (gTd t n (gTd t n (gNm t n (adv t n g))))))) := z7 q5
  have U5 : vG n (gTd t n (gTd t n (gTd t n (gTd t n (gTd t n (gNm t n (adv t n g))))))) := vG_td U4
  have Z5 : (gTd t n (gTd t n (gTd t n (gTd t n (gTd t n (gNm t n (adv t n g))))))) 3 = 0 := by rw [gTd_g (by omega)]; exact Z4
  have KK : tG (uI σ7 23 (τ 2) (numV t (adv t n (gTd t n (gTd t n (gTd t n (gTd t n (gNm t n (adv t n g))))))))) t n (gTd t n (gTd t n (gTd t n (gTd t n (gTd t n (gNm t n (adv t n g))))))) := tG_I K5 (by omega)
  by_cases sy : sayP t (gTd t n (gTd t n (gTd t n (gTd t n (gTd t n (gNm t n (adv t n g))))))) 12
  case pos =>
    have zy : iB (sayP t (gTd t n (gTd t n (gTd t n (gTd t n (gTd t n (gNm t n (adv t n g))))))) 12) = 1 := iB_t sy
    obtain ⟨σ8, f8, F8, ⟨g8, G8, V8⟩, z8, e8⟩ := g_34 (σ := uI σ7 23 (τ 2) (numV t (adv t n (gTd t n (gTd t n (gTd t n (gTd t n (gNm t n (adv t n g))))))))) (i := 12) (low := 0) (high := 999) hw ht KK U5 Z5 (by omega)
    have s8 : σ8.2.2 2 7 = some 15 := by rw [f8.2]; exact s7
    have r8 : ∀ a, 15 ≤ a → a < 25 → σ8.1 a = (uI σ7 23 (τ 2) (numV t (adv t n (gTd t n (gTd t n (gTd t n (gTd t n (gNm t n (adv t n g))))))))).1 a := fun a ha hb => f8.1 a (by omega)
    have c8 : σ8.1 15 4 = Int32.ofNat (τ 2) := by rw [r8 15 (by omega) (by omega), uI_1, if_neg (by omega)]; exact c7
    have L6 : σ8.1 15 0 = σ.1 15 0 := by rw [r8 15 (by omega) (by omega), uI_1, if_neg (by omega)]; exact L5
    have T8 : tTold σ8 15 τ := tTold_fr (tT_j (p := 15) (A := 8) T7 (by omega)) (fun a h1 h2 => r8 a (by omega) (by omega))
    have x8 : frX 15 σ σ8 := frX_tr x7 (frX_tr (frX_I (by omega)) (frX_R f8))
    have C6_1 : σ8.1 19 (τ 2) = (numV t (adv t n (gNm t n (adv t n g)))) := by rw [r8 19 (by omega) (by omega), uI_1, if_neg (by omega)]; exact C5_1
    have C6_2 : σ8.1 20 (τ 2) = (numV t (adv t n (gTd t n (gNm t n (adv t n g))))) := by rw [r8 20 (by omega) (by omega), uI_1, if_neg (by omega)]; exact C5_2
    have C6_3 : σ8.1 21 (τ 2) = (numV t (adv t n (gTd t n (gTd t n (gNm t n (adv t n g)))))) := by rw [r8 21 (by omega) (by omega), uI_1, if_neg (by omega)]; exact C5_3
    have C6_4 : σ8.1 22 (τ 2) = (numV t (adv t n (gTd t n (gTd t n (gTd t n (gNm t n (adv t n g))))))) := by rw [r8 22 (by omega) (by omega), uI_1, if_neg (by omega)]; exact C5_4
    have C6_5 : σ8.1 23 (τ 2) = (numV t (adv t n (gTd t n (gTd t n (gTd t n (gTd t n (gNm t n (adv t n g)))))))) := by rw [r8 23 (by omega) (by omega), uI_1, if_pos ⟨rfl, rfl⟩]
    by_cases q6 : toldF t n (gTd t n (gTd t n (gTd t n (gTd t n (gTd t n (gNm t n (adv t n g))))))) 12 0 999 = 0
    case neg =>
      have eR : (rShp t n g nm τ) = (toldF t n (gTd t n (gTd t n (gTd t n (gTd t n (gTd t n (gNm t n (adv t n g))))))) 12 0 999, g, nm, τ) := by unfold rShp; rw [if_neg a, if_neg (fun q => q b), if_neg (fun q => q q1), if_neg (fun q => q q2), if_neg (fun q => q q3), if_neg (fun q => q q4), if_neg (fun q => q q5), if_neg (fun q => q sy), if_pos q6]
      refine ⟨(uI (uI σ8 24 (τ 2) (-1)) 15 4 (Int32.ofNat (τ 2 + 1))), frX_tr x8 (frX_tr (frX_I (by omega)) (frX_I (by omega))), by rw [eR]; simp only [uI_1, Nat.reduceEqDiff, false_and, if_false]; exact F8, by simp only [uI_1, Nat.reduceEqDiff, false_and, and_false, if_false]; exact L6, fun q => absurd q (by rw [eR]; exact q6), fun hD => cV_of (m := 4) (fun d hd Q hQ => ?_) rfl hD⟩
      have hd1 : 1 ≤ d := by omega
      have hd2 : 2 ≤ d := by omega
      have hd3 : 3 ≤ d := by omega
      have hd4 : 4 ≤ d := by omega
      refine b31_0 ?_
      simp only [↓br_pos, ↓br_neg, ↓rF_I, ↓rF_L, ↓rF_R, ↓rF_N, rO_m, rB_m, ↓rI_m, wI_m, ↓rB2_m, ↓rB3_m, wB2_m, wB3_m, ↓rL_m, wL_m, ↓rQ_m, wQ_m, ↓lI_m, pI_m, pL_m, pR_m, sI_m, sBy_m, sBo_m, sL_m, sQ_m, fst_m, true_and, and_true, tg_some, ln_some, uI_1, uI_2, uL_1, uL_2, uL_3, uQ_1, uQ_2, uQ_3, rv_i, rv_l, rv_n, rv_b0, rv_b1, RMR, ne_eq, reduceCtorEq, not_false_eq_true, Option.getD_some, if_true, if_false, and_self, false_and, and_false, Nat.add_left_cancel_iff, Nat.add_eq_left, Nat.left_eq_add, Nat.one_ne_zero, Nat.reduceAdd, Nat.reduceLT, Nat.reduceLeDiff, Nat.reduceEqDiff, true_implies, false_implies, implies_true, Option.some.injEq, forall_eq', forall_eq, reduceCtorEq, brT, brF, br_s, i_10, i_01, ib_0_2, ib_1_2, tn_0, tn_1, Int32.le_refl, eq_self, rv_bN, rv_iM, RCX 0, RCG 2, RCT 4, RCT 15, RCT 25, RCS 35, RCS 49, RCH 63, RCP 67, RCB 72, RCR 77, RCM 81, RLY, lit_at hw, h7, c0, l12, s1, s2, c2, eb, en, e1 hd3, e2 hd4, s3, c3, e3 hd4, q1, s4, c4, e4 hd4, q2, s5, c5, e5 hd4, q3, C3_2, s6, c6, e6 hd4, q4, C3_2, s7, c7, e7 hd4, q5, C3_2, g_37 (i := 12) hw KK U5 (by omega) hd1, zy, s8, c8, e8 hd4, q6, on_succ]
      exact hQ
    have w6 := told_v (lo := 0) (hi := 999) rfl rfl (by omega) (by omega) q6
    have K6 : tG σ8 t n (gTd t n (gTd t n (gTd t n (gTd t n (gTd t n (gTd t n (gNm t n (adv t n g)))))))) := z8 q6
    have five : (gTd t n (gTd t n (gTd t n (gTd t n (gTd t n (gTd t n (gNm t n (adv t n g)))))))) 5 = g 5 + 1 := by rw [gTd_g (by omega), gTd_g (by omega), gTd_g (by omega), gTd_g (by omega), gTd_g (by omega), gTd_g (by omega), gNm_5, adv_g (by omega)]
    have eR : (rShp t n g nm τ) = (0, (gTd t n (gTd t n (gTd t n (gTd t n (gTd t n (gTd t n (gNm t n (adv t n g)))))))), nmS nm (adv t n g 5) (cdN t (adv t n g)), tShp τ (nN t (adv t n (gNm t n (adv t n g)))) (nN t (adv t n (gTd t n (gNm t n (adv t n g))))) (nN t (adv t n (gTd t n (gTd t n (gNm t n (adv t n g)))))) (nN t (adv t n (gTd t n (gTd t n (gTd t n (gNm t n (adv t n g))))))) (nN t (adv t n (gTd t n (gTd t n (gTd t n (gTd t n (gNm t n (adv t n g)))))))) (nN t (adv t n (gTd t n (gTd t n (gTd t n (gTd t n (gTd t n (gNm t n (adv t n g)))))))))) := by unfold rShp; rw [if_neg a, if_neg (fun q => q b), if_neg (fun q => q q1), if_neg (fun q => q q2), if_neg (fun q => q q3), if_neg (fun q => q q4), if_neg (fun q => q q5), if_neg (fun q => q sy), if_neg (fun q => q q6)]
    refine ⟨(uI (uI σ8 24 (τ 2) (numV t (adv t n (gTd t n (gTd t n (gTd t n (gTd t n (gTd t n (gNm t n (adv t n g)))))))))) 15 4 (Int32.ofNat (τ 2 + 1))), frX_tr x8 (frX_tr (frX_I (by omega)) (frX_I (by omega))), by rw [eR]; simp only [uI_1, Nat.reduceEqDiff, false_and, if_false]; rw [F8, q6], by simp only [uI_1, Nat.reduceEqDiff, false_and, and_false, if_false]; exact L6, fun _ => ?_, fun hD => cV_of (m := 4) (fun d hd Q hQ => ?_) rfl hD⟩
    · rw [eR]
      refine ⟨⟨(tG_I (tG_I K6 (by omega)) (by omega)), fun i hi => ?_, tT_shp (p := 15) (tT_j (p := 15) (A := 9) T8 (by omega)) hv (by omega) (by rw [uI_1, if_neg (by omega), C6_1]; exact w1.1) (by rw [uI_1, if_neg (by omega), C6_2]; exact w2.1) (by rw [uI_1, if_neg (by omega), C6_3]; exact w3.1) (by rw [uI_1, if_neg (by omega), C6_4]; exact w4.1) (by rw [uI_1, if_neg (by omega), C6_5]; exact w5.1) (by rw [uI_1, if_pos ⟨rfl, rfl⟩]; exact w6.1), ?_⟩, (vG_td U5), (by show (gTd t n (gTd t n (gTd t n (gTd t n (gTd t n (gTd t n (gNm t n (adv t n g)))))))) 3 = 0; rw [gTd_g (by omega)]; exact Z5), vT_shp hv (by omega) ⟨w1.2.1, w1.2.2⟩ w2.2.2 w3.2.2 ⟨w4.2.1, w4.2.2⟩ ⟨w5.2.1, w5.2.2⟩ w6.2.2, ?_⟩
      · have hi' : i < adv t n g 5 + 1 := by
          have hi2 : i < (gTd t n (gTd t n (gTd t n (gTd t n (gTd t n (gTd t n (gNm t n (adv t n g)))))))) 5 := hi
          rw [five] at hi2; rw [adv_g (by omega)]; exact hi2
        simp only [uI_1, Nat.reduceEqDiff, false_and, if_false]
        rw [f8.1 14 (by omega), uI_1, if_neg (by omega), f7.1 14 (by omega), uI_1, if_neg (by omega), f6.1 14 (by omega), uI_1, if_neg (by omega), f5.1 14 (by omega), uI_1, if_neg (by omega), f4.1 14 (by omega), uI_1, if_neg (by omega), f3.1 14 (by omega)]
        exact z2'.2 i hi'
      · show σ8.2.2 2 7 = some 15
        exact s8
      · show (gTd t n (gTd t n (gTd t n (gTd t n (gTd t n (gTd t n (gNm t n (adv t n g)))))))) 5 = _
        rw [five, h5]
        show _ = tShp τ (nN t (adv t n (gNm t n (adv t n g)))) (nN t (adv t n (gTd t n (gNm t n (adv t n g))))) (nN t (adv t n (gTd t n (gTd t n (gNm t n (adv t n g)))))) (nN t (adv t n (gTd t n (gTd t n (gTd t n (gNm t n (adv t n g))))))) (nN t (adv t n (gTd t n (gTd t n (gTd t n (gTd t n (gNm t n (adv t n g)))))))) (nN t (adv t n (gTd t n (gTd t n (gTd t n (gTd t n (gTd t n (gNm t n (adv t n g))))))))) 0 + tShp τ (nN t (adv t n (gNm t n (adv t n g)))) (nN t (adv t n (gTd t n (gNm t n (adv t n g))))) (nN t (adv t n (gTd t n (gTd t n (gNm t n (adv t n g)))))) (nN t (adv t n (gTd t n (gTd t n (gTd t n (gNm t n (adv t n g))))))) (nN t (adv t n (gTd t n (gTd t n (gTd t n (gTd t n (gNm t n (adv t n g)))))))) (nN t (adv t n (gTd t n (gTd t n (gTd t n (gTd t n (gTd t n (gNm t n (adv t n g))))))))) 1 + tShp τ (nN t (adv t n (gNm t n (adv t n g)))) (nN t (adv t n (gTd t n (gNm t n (adv t n g))))) (nN t (adv t n (gTd t n (gTd t n (gNm t n (adv t n g)))))) (nN t (adv t n (gTd t n (gTd t n (gTd t n (gNm t n (adv t n g))))))) (nN t (adv t n (gTd t n (gTd t n (gTd t n (gTd t n (gNm t n (adv t n g)))))))) (nN t (adv t n (gTd t n (gTd t n (gTd t n (gTd t n (gTd t n (gNm t n (adv t n g))))))))) 2
        have y0 : tShp τ (nN t (adv t n (gNm t n (adv t n g)))) (nN t (adv t n (gTd t n (gNm t n (adv t n g))))) (nN t (adv t n (gTd t n (gTd t n (gNm t n (adv t n g)))))) (nN t (adv t n (gTd t n (gTd t n (gTd t n (gNm t n (adv t n g))))))) (nN t (adv t n (gTd t n (gTd t n (gTd t n (gTd t n (gNm t n (adv t n g)))))))) (nN t (adv t n (gTd t n (gTd t n (gTd t n (gTd t n (gTd t n (gNm t n (adv t n g))))))))) 0 = τ 0 := by rw [tShp_1, if_neg (by omega), if_neg (by omega), if_neg (by omega), if_neg (by omega), if_neg (by omega), if_neg (by omega), if_neg (by omega)]
        have y1 : tShp τ (nN t (adv t n (gNm t n (adv t n g)))) (nN t (adv t n (gTd t n (gNm t n (adv t n g))))) (nN t (adv t n (gTd t n (gTd t n (gNm t n (adv t n g)))))) (nN t (adv t n (gTd t n (gTd t n (gTd t n (gNm t n (adv t n g))))))) (nN t (adv t n (gTd t n (gTd t n (gTd t n (gTd t n (gNm t n (adv t n g)))))))) (nN t (adv t n (gTd t n (gTd t n (gTd t n (gTd t n (gTd t n (gNm t n (adv t n g))))))))) 1 = τ 1 := by rw [tShp_1, if_neg (by omega), if_neg (by omega), if_neg (by omega), if_neg (by omega), if_neg (by omega), if_neg (by omega), if_neg (by omega)]
        have y2 : tShp τ (nN t (adv t n (gNm t n (adv t n g)))) (nN t (adv t n (gTd t n (gNm t n (adv t n g))))) (nN t (adv t n (gTd t n (gTd t n (gNm t n (adv t n g)))))) (nN t (adv t n (gTd t n (gTd t n (gTd t n (gNm t n (adv t n g))))))) (nN t (adv t n (gTd t n (gTd t n (gTd t n (gTd t n (gNm t n (adv t n g)))))))) (nN t (adv t n (gTd t n (gTd t n (gTd t n (gTd t n (gTd t n (gNm t n (adv t n g))))))))) 2 = τ 2 + 1 := by rw [tShp_1, if_pos rfl]
        rw [y0, y1, y2]; omega
    · have hd1 : 1 ≤ d := by omega
      have hd2 : 2 ≤ d := by omega
      have hd3 : 3 ≤ d := by omega
      have hd4 : 4 ≤ d := by omega
      refine b31_0 ?_
      simp only [↓br_pos, ↓br_neg, ↓rF_I, ↓rF_L, ↓rF_R, ↓rF_N, rO_m, rB_m, ↓rI_m, wI_m, ↓rB2_m, ↓rB3_m, wB2_m, wB3_m, ↓rL_m, wL_m, ↓rQ_m, wQ_m, ↓lI_m, pI_m, pL_m, pR_m, sI_m, sBy_m, sBo_m, sL_m, sQ_m, fst_m, true_and, and_true, tg_some, ln_some, uI_1, uI_2, uL_1, uL_2, uL_3, uQ_1, uQ_2, uQ_3, rv_i, rv_l, rv_n, rv_b0, rv_b1, RMR, ne_eq, reduceCtorEq, not_false_eq_true, Option.getD_some, if_true, if_false, and_self, false_and, and_false, Nat.add_left_cancel_iff, Nat.add_eq_left, Nat.left_eq_add, Nat.one_ne_zero, Nat.reduceAdd, Nat.reduceLT, Nat.reduceLeDiff, Nat.reduceEqDiff, true_implies, false_implies, implies_true, Option.some.injEq, forall_eq', forall_eq, reduceCtorEq, brT, brF, br_s, i_10, i_01, ib_0_2, ib_1_2, tn_0, tn_1, Int32.le_refl, eq_self, rv_bN, rv_iM, RCX 0, RCG 2, RCT 4, RCT 15, RCT 25, RCS 35, RCS 49, RCH 63, RCP 67, RCB 72, RCR 77, RCM 81, RLY, lit_at hw, h7, c0, l12, s1, s2, c2, eb, en, e1 hd3, e2 hd4, s3, c3, e3 hd4, q1, s4, c4, e4 hd4, q2, s5, c5, e5 hd4, q3, C3_2, s6, c6, e6 hd4, q4, C3_2, s7, c7, e7 hd4, q5, C3_2, g_37 (i := 12) hw KK U5 (by omega) hd1, zy, s8, c8, e8 hd4, q6, on_succ]
      exact hQ
  have zy : iB (sayP t (gTd t n (gTd t n (gTd t n (gTd t n (gTd t n (gNm t n (adv t n g))))))) 12) = 0 := iB_f sy
  have five : (gTd t n (gTd t n (gTd t n (gTd t n (gTd t n (gNm t n (adv t n g))))))) 5 = g 5 + 1 := by rw [gTd_g (by omega), gTd_g (by omega), gTd_g (by omega), gTd_g (by omega), gTd_g (by omega), gNm_5, adv_g (by omega)]
  have eR : (rShp t n g nm τ) = (0, (gTd t n (gTd t n (gTd t n (gTd t n (gTd t n (gNm t n (adv t n g))))))), nmS nm (adv t n g 5) (cdN t (adv t n g)), tShp τ (nN t (adv t n (gNm t n (adv t n g)))) (nN t (adv t n (gTd t n (gNm t n (adv t n g))))) (nN t (adv t n (gTd t n (gTd t n (gNm t n (adv t n g)))))) (nN t (adv t n (gTd t n (gTd t n (gTd t n (gNm t n (adv t n g))))))) (nN t (adv t n (gTd t n (gTd t n (gTd t n (gTd t n (gNm t n (adv t n g)))))))) 0) := by unfold rShp; rw [if_neg a, if_neg (fun q => q b), if_neg (fun q => q q1), if_neg (fun q => q q2), if_neg (fun q => q q3), if_neg (fun q => q q4), if_neg (fun q => q q5), if_pos sy]
  refine ⟨(uI (uI (uI σ7 23 (τ 2) (numV t (adv t n (gTd t n (gTd t n (gTd t n (gTd t n (gNm t n (adv t n g))))))))) 24 (τ 2) 0) 15 4 (Int32.ofNat (τ 2 + 1))), frX_tr x7 (frX_tr (frX_I (by omega)) (frX_tr (frX_I (by omega)) (frX_I (by omega)))), by rw [eR]; simp only [uI_1, Nat.reduceEqDiff, false_and, if_false]; rw [F7, q5], by simp only [uI_1, Nat.reduceEqDiff, false_and, and_false, if_false]; exact L5, fun _ => ?_, fun hD => cV_of (m := 4) (fun d hd Q hQ => ?_) rfl hD⟩
  · rw [eR]
    refine ⟨⟨(tG_I (tG_I KK (by omega)) (by omega)), fun i hi => ?_, tT_shp (p := 15) (tT_j (p := 15) (A := 9) (tT_j (p := 15) (A := 8) T7 (by omega)) (by omega)) hv (by omega) (by rw [uI_1, if_neg (by omega), uI_1, if_neg (by omega), C5_1]; exact w1.1) (by rw [uI_1, if_neg (by omega), uI_1, if_neg (by omega), C5_2]; exact w2.1) (by rw [uI_1, if_neg (by omega), uI_1, if_neg (by omega), C5_3]; exact w3.1) (by rw [uI_1, if_neg (by omega), uI_1, if_neg (by omega), C5_4]; exact w4.1) (by rw [uI_1, if_neg (by omega), uI_1, if_pos ⟨rfl, rfl⟩]; exact w5.1) (by rw [uI_1, if_pos ⟨rfl, rfl⟩]; rfl), ?_⟩, U5, Z5, vT_shp hv (by omega) ⟨w1.2.1, w1.2.2⟩ w2.2.2 w3.2.2 ⟨w4.2.1, w4.2.2⟩ ⟨w5.2.1, w5.2.2⟩ (by omega), ?_⟩
    · have hi' : i < adv t n g 5 + 1 := by
        have hi2 : i < (gTd t n (gTd t n (gTd t n (gTd t n (gTd t n (gNm t n (adv t n g))))))) 5 := hi
        rw [five] at hi2; rw [adv_g (by omega)]; exact hi2
      simp only [uI_1, Nat.reduceEqDiff, false_and, if_false]
      rw [f7.1 14 (by omega), uI_1, if_neg (by omega), f6.1 14 (by omega), uI_1, if_neg (by omega), f5.1 14 (by omega), uI_1, if_neg (by omega), f4.1 14 (by omega), uI_1, if_neg (by omega), f3.1 14 (by omega)]
      exact z2'.2 i hi'
    · show σ7.2.2 2 7 = some 15
      exact s7
    · show (gTd t n (gTd t n (gTd t n (gTd t n (gTd t n (gNm t n (adv t n g))))))) 5 = _
      rw [five, h5]
      show _ = tShp τ (nN t (adv t n (gNm t n (adv t n g)))) (nN t (adv t n (gTd t n (gNm t n (adv t n g))))) (nN t (adv t n (gTd t n (gTd t n (gNm t n (adv t n g)))))) (nN t (adv t n (gTd t n (gTd t n (gTd t n (gNm t n (adv t n g))))))) (nN t (adv t n (gTd t n (gTd t n (gTd t n (gTd t n (gNm t n (adv t n g)))))))) 0 0 + tShp τ (nN t (adv t n (gNm t n (adv t n g)))) (nN t (adv t n (gTd t n (gNm t n (adv t n g))))) (nN t (adv t n (gTd t n (gTd t n (gNm t n (adv t n g)))))) (nN t (adv t n (gTd t n (gTd t n (gTd t n (gNm t n (adv t n g))))))) (nN t (adv t n (gTd t n (gTd t n (gTd t n (gTd t n (gNm t n (adv t n g)))))))) 0 1 + tShp τ (nN t (adv t n (gNm t n (adv t n g)))) (nN t (adv t n (gTd t n (gNm t n (adv t n g))))) (nN t (adv t n (gTd t n (gTd t n (gNm t n (adv t n g)))))) (nN t (adv t n (gTd t n (gTd t n (gTd t n (gNm t n (adv t n g))))))) (nN t (adv t n (gTd t n (gTd t n (gTd t n (gTd t n (gNm t n (adv t n g)))))))) 0 2
      have y0 : tShp τ (nN t (adv t n (gNm t n (adv t n g)))) (nN t (adv t n (gTd t n (gNm t n (adv t n g))))) (nN t (adv t n (gTd t n (gTd t n (gNm t n (adv t n g)))))) (nN t (adv t n (gTd t n (gTd t n (gTd t n (gNm t n (adv t n g))))))) (nN t (adv t n (gTd t n (gTd t n (gTd t n (gTd t n (gNm t n (adv t n g)))))))) 0 0 = τ 0 := by rw [tShp_1, if_neg (by omega), if_neg (by omega), if_neg (by omega), if_neg (by omega), if_neg (by omega), if_neg (by omega), if_neg (by omega)]
      have y1 : tShp τ (nN t (adv t n (gNm t n (adv t n g)))) (nN t (adv t n (gTd t n (gNm t n (adv t n g))))) (nN t (adv t n (gTd t n (gTd t n (gNm t n (adv t n g)))))) (nN t (adv t n (gTd t n (gTd t n (gTd t n (gNm t n (adv t n g))))))) (nN t (adv t n (gTd t n (gTd t n (gTd t n (gTd t n (gNm t n (adv t n g)))))))) 0 1 = τ 1 := by rw [tShp_1, if_neg (by omega), if_neg (by omega), if_neg (by omega), if_neg (by omega), if_neg (by omega), if_neg (by omega), if_neg (by omega)]
      have y2 : tShp τ (nN t (adv t n (gNm t n (adv t n g)))) (nN t (adv t n (gTd t n (gNm t n (adv t n g))))) (nN t (adv t n (gTd t n (gTd t n (gNm t n (adv t n g)))))) (nN t (adv t n (gTd t n (gTd t n (gTd t n (gNm t n (adv t n g))))))) (nN t (adv t n (gTd t n (gTd t n (gTd t n (gTd t n (gNm t n (adv t n g)))))))) 0 2 = τ 2 + 1 := by rw [tShp_1, if_pos rfl]
      rw [y0, y1, y2]; omega
  · have hd1 : 1 ≤ d := by omega
    have hd2 : 2 ≤ d := by omega
    have hd3 : 3 ≤ d := by omega
    have hd4 : 4 ≤ d := by omega
    refine b31_0 ?_
    simp only [↓br_pos, ↓br_neg, ↓rF_I, ↓rF_L, ↓rF_R, ↓rF_N, rO_m, rB_m, ↓rI_m, wI_m, ↓rB2_m, ↓rB3_m, wB2_m, wB3_m, ↓rL_m, wL_m, ↓rQ_m, wQ_m, ↓lI_m, pI_m, pL_m, pR_m, sI_m, sBy_m, sBo_m, sL_m, sQ_m, fst_m, true_and, and_true, tg_some, ln_some, uI_1, uI_2, uL_1, uL_2, uL_3, uQ_1, uQ_2, uQ_3, rv_i, rv_l, rv_n, rv_b0, rv_b1, RMR, ne_eq, reduceCtorEq, not_false_eq_true, Option.getD_some, if_true, if_false, and_self, false_and, and_false, Nat.add_left_cancel_iff, Nat.add_eq_left, Nat.left_eq_add, Nat.one_ne_zero, Nat.reduceAdd, Nat.reduceLT, Nat.reduceLeDiff, Nat.reduceEqDiff, true_implies, false_implies, implies_true, Option.some.injEq, forall_eq', forall_eq, reduceCtorEq, brT, brF, br_s, i_10, i_01, ib_0_2, ib_1_2, tn_0, tn_1, Int32.le_refl, eq_self, rv_bN, rv_iM, RCX 0, RCG 2, RCT 4, RCT 15, RCT 25, RCS 35, RCS 49, RCH 63, RCP 67, RCB 72, RCR 77, RCM 81, RLY, lit_at hw, h7, c0, l12, s1, s2, c2, eb, en, e1 hd3, e2 hd4, s3, c3, e3 hd4, q1, s4, c4, e4 hd4, q2, s5, c5, e5 hd4, q3, C3_2, s6, c6, e6 hd4, q4, C3_2, s7, c7, e7 hd4, q5, C3_2, g_37 (i := 12) hw KK U5 (by omega) hd1, zy, on_succ]
    exact hQ
theorem g_31_25 {w : mT} {σ : mS} {t : Nat → Nat} {n : Nat} {g τ : Rw} {nm : Nat → Int32} (hw : lit w) (ht : ∀ i, t i < 256) (hS : rS σ t n 25 g nm τ) (hV : rV n g τ) : ∃ σ', frX 25 σ σ' ∧ σ'.1 2 5 = Int32.ofNat (rShp t n g nm τ).1 ∧ σ'.1 25 0 = σ.1 25 0 ∧ ((rShp t n g nm τ).1 = 0 → rS σ' t n 25 (rShp t n g nm τ).2.1 (rShp t n g nm τ).2.2.1 (rShp t n g nm τ).2.2.2 ∧ rV n (rShp t n g nm τ).2.1 (rShp t n g nm τ).2.2.2) ∧ ∀ {D : Nat} {K : Hp → Prop}, 5 ≤ D → (wpV D 31 [.ref 2] (mW w σ) K ↔ K (mW w σ')) := by
  obtain ⟨hG, hN, hT, h7⟩ := hS
  obtain ⟨vg, h03, hv, h5⟩ := hV
  have c0 := hT.2.2.2.1
  have v0 := hv.1
  have v1 := hv.2.1
  have v2 := hv.2.2.1
  have h50 : σ.1 2 5 = 0 := by rw [hG.2.2.2.2.2.1, h03]; rfl
  have ll := on_lt (i := τ 2) (j := 8) (by omega) (by omega)
  by_cases a : 8 ≤ τ 2
  · have eR : (rShp t n g nm τ) = (8 * g 0 + 4, g, nm, τ) := if_pos a
    have l12 : (Int32.ofNat (τ 2) < (8 : Int32)) ↔ False := iff_false_intro (fun q => absurd (ll.mp q) (by omega))
    refine ⟨uI σ 2 5 (8 * Int32.ofNat (g 0) + 4), frX_I (by omega), by rw [eR, uI_1, if_pos ⟨rfl, rfl⟩]; exact f8_of, by rw [uI_1, if_neg (by omega)], fun q => absurd q (by rw [eR]; show ¬ 8 * g 0 + 4 = 0; omega), fun hD => cV_of (m := 4) (fun d hd Q hQ => ?_) rfl hD⟩
    have hd1 : 1 ≤ d := by omega
    have hd2 : 2 ≤ d := by omega
    have hd3 : 3 ≤ d := by omega
    have hd4 : 4 ≤ d := by omega
    refine b31_0 ?_
    simp only [↓br_pos, ↓br_neg, ↓rF_I, ↓rF_L, ↓rF_R, ↓rF_N, rO_m, rB_m, ↓rI_m, wI_m, ↓rB2_m, ↓rB3_m, wB2_m, wB3_m, ↓rL_m, wL_m, ↓rQ_m, wQ_m, ↓lI_m, pI_m, pL_m, pR_m, sI_m, sBy_m, sBo_m, sL_m, sQ_m, fst_m, true_and, and_true, tg_some, ln_some, uI_1, uI_2, uL_1, uL_2, uL_3, uQ_1, uQ_2, uQ_3, rv_i, rv_l, rv_n, rv_b0, rv_b1, RMR, ne_eq, reduceCtorEq, not_false_eq_true, Option.getD_some, if_true, if_false, and_self, false_and, and_false, Nat.add_left_cancel_iff, Nat.add_eq_left, Nat.left_eq_add, Nat.one_ne_zero, Nat.reduceAdd, Nat.reduceLT, Nat.reduceLeDiff, Nat.reduceEqDiff, true_implies, false_implies, implies_true, Option.some.injEq, forall_eq', forall_eq, reduceCtorEq, brT, brF, br_s, i_10, i_01, ib_0_2, ib_1_2, tn_0, tn_1, Int32.le_refl, eq_self, rv_bN, rv_iM, RCX 0, RCG 2, RCT 4, RCT 15, RCT 25, RCS 35, RCS 49, RCH 63, RCP 67, RCB 72, RCR 77, RCM 81, RLY, lit_at hw, h7, c0, l12, g_36 hw hG.2.2.1 h50 hd1]
    exact hQ
  have l12 : (Int32.ofNat (τ 2) < (8 : Int32)) ↔ True := iff_true_intro (ll.mpr (by omega))
  have eb : inB (Int32.ofNat (τ 2)) 8 = true := on_inB (by omega) (by omega)
  have en := on_nat (i := τ 2) (by omega)
  obtain ⟨σ1, f1, t1, e1⟩ := g_39 hw ht hG vg
  have va := vG_adv (t := t) vg
  have N1 : ∀ i, i < adv t n g 5 → σ1.1 14 i = nm i := by
    rw [adv_g (by omega)]
    intro i hi
    rw [f1.1 14 (by omega)]; exact hN i hi
  have s1 : σ1.2.2 2 7 = some 25 := by rw [f1.2]; exact h7
  obtain ⟨σ2, f2, F2, ⟨g2, G2, V2⟩, z2, e2⟩ := g_33 hw ht t1 va (by rw [adv_g (by omega)]; exact h03) (by rw [adv_g (by omega), h5]; omega) N1
  have r2 : ∀ a, 25 ≤ a → a < 35 → σ2.1 a = σ.1 a := fun a ha hb => by rw [f2.1 a (by omega) (by omega), f1.1 a (by omega)]
  have s2 : σ2.2.2 2 7 = some 25 := by rw [f2.2]; exact s1
  have c2 : σ2.1 25 4 = Int32.ofNat (τ 2) := by rw [r2 25 (by omega) (by omega)]; exact c0
  have x2 : frX 25 σ σ2 := frX_tr (frX_R f1) (frX_N f2)
  have T2 : tTold σ2 25 τ := tTold_fr hT (fun a h1 h2 => r2 a (by omega) (by omega))
  have hd45 : ∀ {d : Nat}, 4 ≤ d → 3 ≤ d := fun h => by omega
  by_cases b : nameF t (adv t n g) nm = 0
  case neg =>
    have n0 : σ2.1 2 5 ≠ 0 := f8_ne F2 b (by have := nameF_lt (t := t) (nm := nm) va; omega)
    have m1 : (uI σ2 29 (τ 2) (-1)).1 2 5 ≠ 0 := by simp only [uI_1, Nat.reduceEqDiff, false_and, if_false]; exact n0
    have m2 : (uI (uI σ2 29 (τ 2) (-1)) 30 (τ 2) (-1)).1 2 5 ≠ 0 := by simp only [uI_1, Nat.reduceEqDiff, false_and, if_false]; exact n0
    have m3 : (uI (uI (uI σ2 29 (τ 2) (-1)) 30 (τ 2) (-1)) 31 (τ 2) (-1)).1 2 5 ≠ 0 := by simp only [uI_1, Nat.reduceEqDiff, false_and, if_false]; exact n0
    have m4 : (uI (uI (uI (uI σ2 29 (τ 2) (-1)) 30 (τ 2) (-1)) 31 (τ 2) (-1)) 32 (τ 2) (-1)).1 2 5 ≠ 0 := by simp only [uI_1, Nat.reduceEqDiff, false_and, if_false]; exact n0
    have eR : (rShp t n g nm τ) = (nameF t (adv t n g) nm, g, nm, τ) := by unfold rShp; rw [if_neg a, if_pos b]
    have GG : tG (uI (uI (uI (uI (uI σ2 29 (τ 2) (-1)) 30 (τ 2) (-1)) 31 (τ 2) (-1)) 32 (τ 2) (-1)) 33 (τ 2) (-1)) t n g2 := (tG_I (tG_I (tG_I (tG_I (tG_I G2 (by omega)) (by omega)) (by omega)) (by omega)) (by omega))
    have m9 : (uI (uI (uI (uI (uI σ2 29 (τ 2) (-1)) 30 (τ 2) (-1)) 31 (τ 2) (-1)) 32 (τ 2) (-1)) 33 (τ 2) (-1)).1 2 5 ≠ 0 := by simp only [uI_1, Nat.reduceEqDiff, false_and, if_false]; exact n0
    by_cases sy : sayP t g2 12
    · have zy : iB (sayP t g2 12) = 1 := iB_t sy
      refine ⟨(uI (uI (uI (uI (uI (uI (uI σ2 29 (τ 2) (-1)) 30 (τ 2) (-1)) 31 (τ 2) (-1)) 32 (τ 2) (-1)) 33 (τ 2) (-1)) 34 (τ 2) (-1)) 25 4 (Int32.ofNat (τ 2 + 1))), frX_tr x2 (frX_tr (frX_I (by omega)) (frX_tr (frX_I (by omega)) (frX_tr (frX_I (by omega)) (frX_tr (frX_I (by omega)) (frX_tr (frX_I (by omega)) (frX_tr (frX_I (by omega)) (frX_I (by omega)))))))), by rw [eR]; simp only [uI_1, Nat.reduceEqDiff, false_and, if_false]; exact F2, by simp only [uI_1, Nat.reduceEqDiff, false_and, and_false, if_false]; exact (by rw [r2 25 (by omega) (by omega)]), fun q => absurd q (by rw [eR]; exact b), fun hD => cV_of (m := 4) (fun d hd Q hQ => ?_) rfl hD⟩
      have hd1 : 1 ≤ d := by omega
      have hd2 : 2 ≤ d := by omega
      have hd3 : 3 ≤ d := by omega
      have hd4 : 4 ≤ d := by omega
      refine b31_0 ?_
      simp only [↓br_pos, ↓br_neg, ↓rF_I, ↓rF_L, ↓rF_R, ↓rF_N, rO_m, rB_m, ↓rI_m, wI_m, ↓rB2_m, ↓rB3_m, wB2_m, wB3_m, ↓rL_m, wL_m, ↓rQ_m, wQ_m, ↓lI_m, pI_m, pL_m, pR_m, sI_m, sBy_m, sBo_m, sL_m, sQ_m, fst_m, true_and, and_true, tg_some, ln_some, uI_1, uI_2, uL_1, uL_2, uL_3, uQ_1, uQ_2, uQ_3, rv_i, rv_l, rv_n, rv_b0, rv_b1, RMR, ne_eq, reduceCtorEq, not_false_eq_true, Option.getD_some, if_true, if_false, and_self, false_and, and_false, Nat.add_left_cancel_iff, Nat.add_eq_left, Nat.left_eq_add, Nat.one_ne_zero, Nat.reduceAdd, Nat.reduceLT, Nat.reduceLeDiff, Nat.reduceEqDiff, true_implies, false_implies, implies_true, Option.some.injEq, forall_eq', forall_eq, reduceCtorEq, brT, brF, br_s, i_10, i_01, ib_0_2, ib_1_2, tn_0, tn_1, Int32.le_refl, eq_self, rv_bN, rv_iM, RCX 0, RCG 2, RCT 4, RCT 15, RCT 25, RCS 35, RCS 49, RCH 63, RCP 67, RCB 72, RCR 77, RCM 81, RLY, lit_at hw, h7, c0, l12, s1, s2, c2, eb, en, e1 hd3, e2 hd4, g_34n hw n0 hd1, g_34n hw m1 hd1, g_34n hw m2 hd1, g_34n hw m3 hd1, g_34n hw m4 hd1, g_37 (i := 12) hw GG V2 (by omega) hd1, zy, g_34n hw m9 hd1, on_succ]
      exact hQ
    · have zy : iB (sayP t g2 12) = 0 := iB_f sy
      refine ⟨(uI (uI (uI (uI (uI (uI (uI σ2 29 (τ 2) (-1)) 30 (τ 2) (-1)) 31 (τ 2) (-1)) 32 (τ 2) (-1)) 33 (τ 2) (-1)) 34 (τ 2) 0) 25 4 (Int32.ofNat (τ 2 + 1))), frX_tr x2 (frX_tr (frX_I (by omega)) (frX_tr (frX_I (by omega)) (frX_tr (frX_I (by omega)) (frX_tr (frX_I (by omega)) (frX_tr (frX_I (by omega)) (frX_tr (frX_I (by omega)) (frX_I (by omega)))))))), by rw [eR]; simp only [uI_1, Nat.reduceEqDiff, false_and, if_false]; exact F2, by simp only [uI_1, Nat.reduceEqDiff, false_and, and_false, if_false]; exact (by rw [r2 25 (by omega) (by omega)]), fun q => absurd q (by rw [eR]; exact b), fun hD => cV_of (m := 4) (fun d hd Q hQ => ?_) rfl hD⟩
      have hd1 : 1 ≤ d := by omega
      have hd2 : 2 ≤ d := by omega
      have hd3 : 3 ≤ d := by omega
      have hd4 : 4 ≤ d := by omega
      refine b31_0 ?_
      simp only [↓br_pos, ↓br_neg, ↓rF_I, ↓rF_L, ↓rF_R, ↓rF_N, rO_m, rB_m, ↓rI_m, wI_m, ↓rB2_m, ↓rB3_m, wB2_m, wB3_m, ↓rL_m, wL_m, ↓rQ_m, wQ_m, ↓lI_m, pI_m, pL_m, pR_m, sI_m, sBy_m, sBo_m, sL_m, sQ_m, fst_m, true_and, and_true, tg_some, ln_some, uI_1, uI_2, uL_1, uL_2, uL_3, uQ_1, uQ_2, uQ_3, rv_i, rv_l, rv_n, rv_b0, rv_b1, RMR, ne_eq, reduceCtorEq, not_false_eq_true, Option.getD_some, if_true, if_false, and_self, false_and, and_false, Nat.add_left_cancel_iff, Nat.add_eq_left, Nat.left_eq_add, Nat.one_ne_zero, Nat.reduceAdd, Nat.reduceLT, Nat.reduceLeDiff, Nat.reduceEqDiff, true_implies, false_implies, implies_true, Option.some.injEq, forall_eq', forall_eq, reduceCtorEq, brT, brF, br_s, i_10, i_01, ib_0_2, ib_1_2, tn_0, tn_1, Int32.le_refl, eq_self, rv_bN, rv_iM, RCX 0, RCG 2, RCT 4, RCT 15, RCT 25, RCS 35, RCS 49, RCH 63, RCP 67, RCB 72, RCR 77, RCM 81, RLY, lit_at hw, h7, c0, l12, s1, s2, c2, eb, en, e1 hd3, e2 hd4, g_34n hw n0 hd1, g_34n hw m1 hd1, g_34n hw m2 hd1, g_34n hw m3 hd1, g_34n hw m4 hd1, g_37 (i := 12) hw GG V2 (by omega) hd1, zy, on_succ]
      exact hQ
  have z2' := z2 b
  have K0 : tG σ2 t n (gNm t n (adv t n g)) := z2'.1
  have U0 : vG n (gNm t n (adv t n g)) := vG_nm va
  have Z0 : (gNm t n (adv t n g)) 3 = 0 := by rw [gNm_3, adv_g (by omega)]; exact h03
  obtain ⟨σ3, f3, F3, ⟨g3, G3, V3⟩, z3, e3⟩ := g_34 (σ := σ2) (i := 7) (low := 1) (high := 999) hw ht K0 U0 Z0 (by omega)
  have s3 : σ3.2.2 2 7 = some 25 := by rw [f3.2]; exact s2
  have r3 : ∀ a, 25 ≤ a → a < 35 → σ3.1 a = (σ2).1 a := fun a ha hb => f3.1 a (by omega)
  have c3 : σ3.1 25 4 = Int32.ofNat (τ 2) := by rw [r3 25 (by omega) (by omega)]; exact c2
  have L1 : σ3.1 25 0 = σ.1 25 0 := by rw [r3 25 (by omega) (by omega), r2 25 (by omega) (by omega)]
  have T3 : tTold σ3 25 τ := tTold_fr T2 (fun a h1 h2 => r3 a (by omega) (by omega))
  have x3 : frX 25 σ σ3 := frX_tr x2 (frX_R f3)
  by_cases q1 : toldF t n (gNm t n (adv t n g)) 7 1 999 = 0
  case neg =>
    have n0 : σ3.1 2 5 ≠ 0 := f8_ne F3 q1 (by have := toldF_lt (t := t) (i := 7) (low := 1) (high := 999) U0; omega)
    have m0 : (uI σ3 29 (τ 2) (-1)).1 2 5 ≠ 0 := by simp only [uI_1, Nat.reduceEqDiff, false_and, if_false]; exact n0
    have m1 : (uI (uI σ3 29 (τ 2) (-1)) 30 (τ 2) (-1)).1 2 5 ≠ 0 := by simp only [uI_1, Nat.reduceEqDiff, false_and, if_false]; exact n0
    have m2 : (uI (uI (uI σ3 29 (τ 2) (-1)) 30 (τ 2) (-1)) 31 (τ 2) (-1)).1 2 5 ≠ 0 := by simp only [uI_1, Nat.reduceEqDiff, false_and, if_false]; exact n0
    have m3 : (uI (uI (uI (uI σ3 29 (τ 2) (-1)) 30 (τ 2) (-1)) 31 (τ 2) (-1)) 32 (τ 2) (-1)).1 2 5 ≠ 0 := by simp only [uI_1, Nat.reduceEqDiff, false_and, if_false]; exact n0
    have eR : (rShp t n g nm τ) = (toldF t n (gNm t n (adv t n g)) 7 1 999, g, nm, τ) := by unfold rShp; rw [if_neg a, if_neg (fun q => q b), if_pos q1]
    have GG : tG (uI (uI (uI (uI (uI σ3 29 (τ 2) (-1)) 30 (τ 2) (-1)) 31 (τ 2) (-1)) 32 (τ 2) (-1)) 33 (τ 2) (-1)) t n g3 := (tG_I (tG_I (tG_I (tG_I (tG_I G3 (by omega)) (by omega)) (by omega)) (by omega)) (by omega))
    have m9 : (uI (uI (uI (uI (uI σ3 29 (τ 2) (-1)) 30 (τ 2) (-1)) 31 (τ 2) (-1)) 32 (τ 2) (-1)) 33 (τ 2) (-1)).1 2 5 ≠ 0 := by simp only [uI_1, Nat.reduceEqDiff, false_and, if_false]; exact n0
    by_cases sy : sayP t g3 12
    · have zy : iB (sayP t g3 12) = 1 := iB_t sy
      refine ⟨(uI (uI (uI (uI (uI (uI (uI σ3 29 (τ 2) (-1)) 30 (τ 2) (-1)) 31 (τ 2) (-1)) 32 (τ 2) (-1)) 33 (τ 2) (-1)) 34 (τ 2) (-1)) 25 4 (Int32.ofNat (τ 2 + 1))), frX_tr x3 (frX_tr (frX_I (by omega)) (frX_tr (frX_I (by omega)) (frX_tr (frX_I (by omega)) (frX_tr (frX_I (by omega)) (frX_tr (frX_I (by omega)) (frX_tr (frX_I (by omega)) (frX_I (by omega)))))))), by rw [eR]; simp only [uI_1, Nat.reduceEqDiff, false_and, if_false]; exact F3, by simp only [uI_1, Nat.reduceEqDiff, false_and, and_false, if_false]; exact L1, fun q => absurd q (by rw [eR]; exact q1), fun hD => cV_of (m := 4) (fun d hd Q hQ => ?_) rfl hD⟩
      have hd1 : 1 ≤ d := by omega
      have hd2 : 2 ≤ d := by omega
      have hd3 : 3 ≤ d := by omega
      have hd4 : 4 ≤ d := by omega
      refine b31_0 ?_
      simp only [↓br_pos, ↓br_neg, ↓rF_I, ↓rF_L, ↓rF_R, ↓rF_N, rO_m, rB_m, ↓rI_m, wI_m, ↓rB2_m, ↓rB3_m, wB2_m, wB3_m, ↓rL_m, wL_m, ↓rQ_m, wQ_m, ↓lI_m, pI_m, pL_m, pR_m, sI_m, sBy_m, sBo_m, sL_m, sQ_m, fst_m, true_and, and_true, tg_some, ln_some, uI_1, uI_2, uL_1, uL_2, uL_3, uQ_1, uQ_2, uQ_3, rv_i, rv_l, rv_n, rv_b0, rv_b1, RMR, ne_eq, reduceCtorEq, not_false_eq_true, Option.getD_some, if_true, if_false, and_self, false_and, and_false, Nat.add_left_cancel_iff, Nat.add_eq_left, Nat.left_eq_add, Nat.one_ne_zero, Nat.reduceAdd, Nat.reduceLT, Nat.reduceLeDiff, Nat.reduceEqDiff, true_implies, false_implies, implies_true, Option.some.injEq, forall_eq', forall_eq, reduceCtorEq, brT, brF, br_s, i_10, i_01, ib_0_2, ib_1_2, tn_0, tn_1, Int32.le_refl, eq_self, rv_bN, rv_iM, RCX 0, RCG 2, RCT 4, RCT 15, RCT 25, RCS 35, RCS 49, RCH 63, RCP 67, RCB 72, RCR 77, RCM 81, RLY, lit_at hw, h7, c0, l12, s1, s2, c2, eb, en, e1 hd3, e2 hd4, s3, c3, e3 hd4, q1, g_34n hw m0 hd1, g_34n hw m1 hd1, g_34n hw m2 hd1, g_34n hw m3 hd1, g_37 (i := 12) hw GG V3 (by omega) hd1, zy, g_34n hw m9 hd1, on_succ]
      exact hQ
    · have zy : iB (sayP t g3 12) = 0 := iB_f sy
      refine ⟨(uI (uI (uI (uI (uI (uI (uI σ3 29 (τ 2) (-1)) 30 (τ 2) (-1)) 31 (τ 2) (-1)) 32 (τ 2) (-1)) 33 (τ 2) (-1)) 34 (τ 2) 0) 25 4 (Int32.ofNat (τ 2 + 1))), frX_tr x3 (frX_tr (frX_I (by omega)) (frX_tr (frX_I (by omega)) (frX_tr (frX_I (by omega)) (frX_tr (frX_I (by omega)) (frX_tr (frX_I (by omega)) (frX_tr (frX_I (by omega)) (frX_I (by omega)))))))), by rw [eR]; simp only [uI_1, Nat.reduceEqDiff, false_and, if_false]; exact F3, by simp only [uI_1, Nat.reduceEqDiff, false_and, and_false, if_false]; exact L1, fun q => absurd q (by rw [eR]; exact q1), fun hD => cV_of (m := 4) (fun d hd Q hQ => ?_) rfl hD⟩
      have hd1 : 1 ≤ d := by omega
      have hd2 : 2 ≤ d := by omega
      have hd3 : 3 ≤ d := by omega
      have hd4 : 4 ≤ d := by omega
      refine b31_0 ?_
      simp only [↓br_pos, ↓br_neg, ↓rF_I, ↓rF_L, ↓rF_R, ↓rF_N, rO_m, rB_m, ↓rI_m, wI_m, ↓rB2_m, ↓rB3_m, wB2_m, wB3_m, ↓rL_m, wL_m, ↓rQ_m, wQ_m, ↓lI_m, pI_m, pL_m, pR_m, sI_m, sBy_m, sBo_m, sL_m, sQ_m, fst_m, true_and, and_true, tg_some, ln_some, uI_1, uI_2, uL_1, uL_2, uL_3, uQ_1, uQ_2, uQ_3, rv_i, rv_l, rv_n, rv_b0, rv_b1, RMR, ne_eq, reduceCtorEq, not_false_eq_true, Option.getD_some, if_true, if_false, and_self, false_and, and_false, Nat.add_left_cancel_iff, Nat.add_eq_left, Nat.left_eq_add, Nat.one_ne_zero, Nat.reduceAdd, Nat.reduceLT, Nat.reduceLeDiff, Nat.reduceEqDiff, true_implies, false_implies, implies_true, Option.some.injEq, forall_eq', forall_eq, reduceCtorEq, brT, brF, br_s, i_10, i_01, ib_0_2, ib_1_2, tn_0, tn_1, Int32.le_refl, eq_self, rv_bN, rv_iM, RCX 0, RCG 2, RCT 4, RCT 15, RCT 25, RCS 35, RCS 49, RCH 63, RCP 67, RCB 72, RCR 77, RCM 81, RLY, lit_at hw, h7, c0, l12, s1, s2, c2, eb, en, e1 hd3, e2 hd4, s3, c3, e3 hd4, q1, g_34n hw m0 hd1, g_34n hw m1 hd1, g_34n hw m2 hd1, g_34n hw m3 hd1, g_37 (i := 12) hw GG V3 (by omega) hd1, zy, on_succ]
      exact hQ
  have w1 := told_v (lo := 1) (hi := 999) rfl rfl (by omega) (by omega) q1
  have K1 : tG σ3 t n (gTd t n (gNm t n (adv t n g))) := z3 q1
  have U1 : vG n (gTd t n (gNm t n (adv t n g))) := vG_td U0
  have Z1 : (gTd t n (gNm t n (adv t n g))) 3 = 0 := by rw [gTd_g (by omega)]; exact Z0
  obtain ⟨σ4, f4, F4, ⟨g4, G4, V4⟩, z4, e4⟩ := g_34 (σ := uI σ3 29 (τ 2) (numV t (adv t n (gNm t n (adv t n g))))) (i := 8) (low := 0) (high := 999) hw ht (tG_I K1 (by omega)) U1 Z1 (by omega)
  have s4 : σ4.2.2 2 7 = some 25 := by rw [f4.2]; exact s3
  have r4 : ∀ a, 25 ≤ a → a < 35 → σ4.1 a = (uI σ3 29 (τ 2) (numV t (adv t n (gNm t n (adv t n g))))).1 a := fun a ha hb => f4.1 a (by omega)
  have c4 : σ4.1 25 4 = Int32.ofNat (τ 2) := by rw [r4 25 (by omega) (by omega), uI_1, if_neg (by omega)]; exact c3
  have L2 : σ4.1 25 0 = σ.1 25 0 := by rw [r4 25 (by omega) (by omega), uI_1, if_neg (by omega)]; exact L1
  have T4 : tTold σ4 25 τ := tTold_fr (tT_j (p := 25) (A := 4) T3 (by omega)) (fun a h1 h2 => r4 a (by omega) (by omega))
  have x4 : frX 25 σ σ4 := frX_tr x3 (frX_tr (frX_I (by omega)) (frX_R f4))
  have C2_1 : σ4.1 29 (τ 2) = (numV t (adv t n (gNm t n (adv t n g)))) := by rw [r4 29 (by omega) (by omega), uI_1, if_pos ⟨rfl, rfl⟩]
  by_cases q2 : toldF t n (gTd t n (gNm t n (adv t n g))) 8 0 999 = 0
  case neg =>
    have n0 : σ4.1 2 5 ≠ 0 := f8_ne F4 q2 (by have := toldF_lt (t := t) (i := 8) (low := 0) (high := 999) U1; omega)
    have m0 : (uI σ4 30 (τ 2) (-1)).1 2 5 ≠ 0 := by simp only [uI_1, Nat.reduceEqDiff, false_and, if_false]; exact n0
    have m1 : (uI (uI σ4 30 (τ 2) (-1)) 31 (τ 2) (-1)).1 2 5 ≠ 0 := by simp only [uI_1, Nat.reduceEqDiff, false_and, if_false]; exact n0
    have m2 : (uI (uI (uI σ4 30 (τ 2) (-1)) 31 (τ 2) (-1)) 32 (τ 2) (-1)).1 2 5 ≠ 0 := by simp only [uI_1, Nat.reduceEqDiff, false_and, if_false]; exact n0
    have eR : (rShp t n g nm τ) = (toldF t n (gTd t n (gNm t n (adv t n g))) 8 0 999, g, nm, τ) := by unfold rShp; rw [if_neg a, if_neg (fun q => q b), if_neg (fun q => q q1), if_pos q2]
    have GG : tG (uI (uI (uI (uI σ4 30 (τ 2) (-1)) 31 (τ 2) (-1)) 32 (τ 2) (-1)) 33 (τ 2) (-1)) t n g4 := (tG_I (tG_I (tG_I (tG_I G4 (by omega)) (by omega)) (by omega)) (by omega))
    have m9 : (uI (uI (uI (uI σ4 30 (τ 2) (-1)) 31 (τ 2) (-1)) 32 (τ 2) (-1)) 33 (τ 2) (-1)).1 2 5 ≠ 0 := by simp only [uI_1, Nat.reduceEqDiff, false_and, if_false]; exact n0
    by_cases sy : sayP t g4 12
    · have zy : iB (sayP t g4 12) = 1 := iB_t sy
      refine ⟨(uI (uI (uI (uI (uI (uI σ4 30 (τ 2) (-1)) 31 (τ 2) (-1)) 32 (τ 2) (-1)) 33 (τ 2) (-1)) 34 (τ 2) (-1)) 25 4 (Int32.ofNat (τ 2 + 1))), frX_tr x4 (frX_tr (frX_I (by omega)) (frX_tr (frX_I (by omega)) (frX_tr (frX_I (by omega)) (frX_tr (frX_I (by omega)) (frX_tr (frX_I (by omega)) (frX_I (by omega))))))), by rw [eR]; simp only [uI_1, Nat.reduceEqDiff, false_and, if_false]; exact F4, by simp only [uI_1, Nat.reduceEqDiff, false_and, and_false, if_false]; exact L2, fun q => absurd q (by rw [eR]; exact q2), fun hD => cV_of (m := 4) (fun d hd Q hQ => ?_) rfl hD⟩
      have hd1 : 1 ≤ d := by omega
      have hd2 : 2 ≤ d := by omega
      have hd3 : 3 ≤ d := by omega
      have hd4 : 4 ≤ d := by omega
      refine b31_0 ?_
      simp only [↓br_pos, ↓br_neg, ↓rF_I, ↓rF_L, ↓rF_R, ↓rF_N, rO_m, rB_m, ↓rI_m, wI_m, ↓rB2_m, ↓rB3_m, wB2_m, wB3_m, ↓rL_m, wL_m, ↓rQ_m, wQ_m, ↓lI_m, pI_m, pL_m, pR_m, sI_m, sBy_m, sBo_m, sL_m, sQ_m, fst_m, true_and, and_true, tg_some, ln_some, uI_1, uI_2, uL_1, uL_2, uL_3, uQ_1, uQ_2, uQ_3, rv_i, rv_l, rv_n, rv_b0, rv_b1, RMR, ne_eq, reduceCtorEq, not_false_eq_true, Option.getD_some, if_true, if_false, and_self, false_and, and_false, Nat.add_left_cancel_iff, Nat.add_eq_left, Nat.left_eq_add, Nat.one_ne_zero, Nat.reduceAdd, Nat.reduceLT, Nat.reduceLeDiff, Nat.reduceEqDiff, true_implies, false_implies, implies_true, Option.some.injEq, forall_eq', forall_eq, reduceCtorEq, brT, brF, br_s, i_10, i_01, ib_0_2, ib_1_2, tn_0, tn_1, Int32.le_refl, eq_self, rv_bN, rv_iM, RCX 0, RCG 2, RCT 4, RCT 15, RCT 25, RCS 35, RCS 49, RCH 63, RCP 67, RCB 72, RCR 77, RCM 81, RLY, lit_at hw, h7, c0, l12, s1, s2, c2, eb, en, e1 hd3, e2 hd4, s3, c3, e3 hd4, q1, s4, c4, e4 hd4, q2, g_34n hw m0 hd1, g_34n hw m1 hd1, g_34n hw m2 hd1, g_37 (i := 12) hw GG V4 (by omega) hd1, zy, g_34n hw m9 hd1, on_succ]
      exact hQ
    · have zy : iB (sayP t g4 12) = 0 := iB_f sy
      refine ⟨(uI (uI (uI (uI (uI (uI σ4 30 (τ 2) (-1)) 31 (τ 2) (-1)) 32 (τ 2) (-1)) 33 (τ 2) (-1)) 34 (τ 2) 0) 25 4 (Int32.ofNat (τ 2 + 1))), frX_tr x4 (frX_tr (frX_I (by omega)) (frX_tr (frX_I (by omega)) (frX_tr (frX_I (by omega)) (frX_tr (frX_I (by omega)) (frX_tr (frX_I (by omega)) (frX_I (by omega))))))), by rw [eR]; simp only [uI_1, Nat.reduceEqDiff, false_and, if_false]; exact F4, by simp only [uI_1, Nat.reduceEqDiff, false_and, and_false, if_false]; exact L2, fun q => absurd q (by rw [eR]; exact q2), fun hD => cV_of (m := 4) (fun d hd Q hQ => ?_) rfl hD⟩
      have hd1 : 1 ≤ d := by omega
      have hd2 : 2 ≤ d := by omega
      have hd3 : 3 ≤ d := by omega
      have hd4 : 4 ≤ d := by omega
      refine b31_0 ?_
      simp only [↓br_pos, ↓br_neg, ↓rF_I, ↓rF_L, ↓rF_R, ↓rF_N, rO_m, rB_m, ↓rI_m, wI_m, ↓rB2_m, ↓rB3_m, wB2_m, wB3_m, ↓rL_m, wL_m, ↓rQ_m, wQ_m, ↓lI_m, pI_m, pL_m, pR_m, sI_m, sBy_m, sBo_m, sL_m, sQ_m, fst_m, true_and, and_true, tg_some, ln_some, uI_1, uI_2, uL_1, uL_2, uL_3, uQ_1, uQ_2, uQ_3, rv_i, rv_l, rv_n, rv_b0, rv_b1, RMR, ne_eq, reduceCtorEq, not_false_eq_true, Option.getD_some, if_true, if_false, and_self, false_and, and_false, Nat.add_left_cancel_iff, Nat.add_eq_left, Nat.left_eq_add, Nat.one_ne_zero, Nat.reduceAdd, Nat.reduceLT, Nat.reduceLeDiff, Nat.reduceEqDiff, true_implies, false_implies, implies_true, Option.some.injEq, forall_eq', forall_eq, reduceCtorEq, brT, brF, br_s, i_10, i_01, ib_0_2, ib_1_2, tn_0, tn_1, Int32.le_refl, eq_self, rv_bN, rv_iM, RCX 0, RCG 2, RCT 4, RCT 15, RCT 25, RCS 35, RCS 49, RCH 63, RCP 67, RCB 72, RCR 77, RCM 81, RLY, lit_at hw, h7, c0, l12, s1, s2, c2, eb, en, e1 hd3, e2 hd4, s3, c3, e3 hd4, q1, s4, c4, e4 hd4, q2, g_34n hw m0 hd1, g_34n hw m1 hd1, g_34n hw m2 hd1, g_37 (i := 12) hw GG V4 (by omega) hd1, zy, on_succ]
      exact hQ
  have w2 := told_v (lo := 0) (hi := 999) rfl rfl (by omega) (by omega) q2
  have K2 : tG σ4 t n (gTd t n (gTd t n (gNm t n (adv t n g)))) := z4 q2
  have U2 : vG n (gTd t n (gTd t n (gNm t n (adv t n g)))) := vG_td U1
  have Z2 : (gTd t n (gTd t n (gNm t n (adv t n g)))) 3 = 0 := by rw [gTd_g (by omega)]; exact Z1
  obtain ⟨σ5, f5, F5, ⟨g5, G5, V5⟩, z5, e5⟩ := g_34 (σ := uI σ4 30 (τ 2) (numV t (adv t n (gTd t n (gNm t n (adv t n g)))))) (i := 9) (low := (numV t (adv t n (gTd t n (gNm t n (adv t n g)))))) (high := 999) hw ht (tG_I K2 (by omega)) U2 Z2 (by omega)
  have s5 : σ5.2.2 2 7 = some 25 := by rw [f5.2]; exact s4
  have r5 : ∀ a, 25 ≤ a → a < 35 → σ5.1 a = (uI σ4 30 (τ 2) (numV t (adv t n (gTd t n (gNm t n (adv t n g)))))).1 a := fun a ha hb => f5.1 a (by omega)
  have c5 : σ5.1 25 4 = Int32.ofNat (τ 2) := by rw [r5 25 (by omega) (by omega), uI_1, if_neg (by omega)]; exact c4
  have L3 : σ5.1 25 0 = σ.1 25 0 := by rw [r5 25 (by omega) (by omega), uI_1, if_neg (by omega)]; exact L2
  have T5 : tTold σ5 25 τ := tTold_fr (tT_j (p := 25) (A := 5) T4 (by omega)) (fun a h1 h2 => r5 a (by omega) (by omega))
  have x5 : frX 25 σ σ5 := frX_tr x4 (frX_tr (frX_I (by omega)) (frX_R f5))
  have C3_1 : σ5.1 29 (τ 2) = (numV t (adv t n (gNm t n (adv t n g)))) := by rw [r5 29 (by omega) (by omega), uI_1, if_neg (by omega)]; exact C2_1
  have C3_2 : σ5.1 30 (τ 2) = (numV t (adv t n (gTd t n (gNm t n (adv t n g))))) := by rw [r5 30 (by omega) (by omega), uI_1, if_pos ⟨rfl, rfl⟩]
  by_cases q3 : toldF t n (gTd t n (gTd t n (gNm t n (adv t n g)))) 9 (numV t (adv t n (gTd t n (gNm t n (adv t n g))))) 999 = 0
  case neg =>
    have n0 : σ5.1 2 5 ≠ 0 := f8_ne F5 q3 (by have := toldF_lt (t := t) (i := 9) (low := (numV t (adv t n (gTd t n (gNm t n (adv t n g)))))) (high := 999) U2; omega)
    have m0 : (uI σ5 31 (τ 2) (-1)).1 2 5 ≠ 0 := by simp only [uI_1, Nat.reduceEqDiff, false_and, if_false]; exact n0
    have m1 : (uI (uI σ5 31 (τ 2) (-1)) 32 (τ 2) (-1)).1 2 5 ≠ 0 := by simp only [uI_1, Nat.reduceEqDiff, false_and, if_false]; exact n0
    have eR : (rShp t n g nm τ) = (toldF t n (gTd t n (gTd t n (gNm t n (adv t n g)))) 9 (numV t (adv t n (gTd t n (gNm t n (adv t n g))))) 999, g, nm, τ) := by unfold rShp; rw [if_neg a, if_neg (fun q => q b), if_neg (fun q => q q1), if_neg (fun q => q q2), if_pos q3]
    have GG : tG (uI (uI (uI σ5 31 (τ 2) (-1)) 32 (τ 2) (-1)) 33 (τ 2) (-1)) t n g5 := (tG_I (tG_I (tG_I G5 (by omega)) (by omega)) (by omega))
    have m9 : (uI (uI (uI σ5 31 (τ 2) (-1)) 32 (τ 2) (-1)) 33 (τ 2) (-1)).1 2 5 ≠ 0 := by simp only [uI_1, Nat.reduceEqDiff, false_and, if_false]; exact n0
    by_cases sy : sayP t g5 12
    · have zy : iB (sayP t g5 12) = 1 := iB_t sy
      refine ⟨(uI (uI (uI (uI (uI σ5 31 (τ 2) (-1)) 32 (τ 2) (-1)) 33 (τ 2) (-1)) 34 (τ 2) (-1)) 25 4 (Int32.ofNat (τ 2 + 1))), frX_tr x5 (frX_tr (frX_I (by omega)) (frX_tr (frX_I (by omega)) (frX_tr (frX_I (by omega)) (frX_tr (frX_I (by omega)) (frX_I (by omega)))))), by rw [eR]; simp only [uI_1, Nat.reduceEqDiff, false_and, if_false]; exact F5, by simp only [uI_1, Nat.reduceEqDiff, false_and, and_false, if_false]; exact L3, fun q => absurd q (by rw [eR]; exact q3), fun hD => cV_of (m := 4) (fun d hd Q hQ => ?_) rfl hD⟩
      have hd1 : 1 ≤ d := by omega
      have hd2 : 2 ≤ d := by omega
      have hd3 : 3 ≤ d := by omega
      have hd4 : 4 ≤ d := by omega
      refine b31_0 ?_
      simp only [↓br_pos, ↓br_neg, ↓rF_I, ↓rF_L, ↓rF_R, ↓rF_N, rO_m, rB_m, ↓rI_m, wI_m, ↓rB2_m, ↓rB3_m, wB2_m, wB3_m, ↓rL_m, wL_m, ↓rQ_m, wQ_m, ↓lI_m, pI_m, pL_m, pR_m, sI_m, sBy_m, sBo_m, sL_m, sQ_m, fst_m, true_and, and_true, tg_some, ln_some, uI_1, uI_2, uL_1, uL_2, uL_3, uQ_1, uQ_2, uQ_3, rv_i, rv_l, rv_n, rv_b0, rv_b1, RMR, ne_eq, reduceCtorEq, not_false_eq_true, Option.getD_some, if_true, if_false, and_self, false_and, and_false, Nat.add_left_cancel_iff, Nat.add_eq_left, Nat.left_eq_add, Nat.one_ne_zero, Nat.reduceAdd, Nat.reduceLT, Nat.reduceLeDiff, Nat.reduceEqDiff, true_implies, false_implies, implies_true, Option.some.injEq, forall_eq', forall_eq, reduceCtorEq, brT, brF, br_s, i_10, i_01, ib_0_2, ib_1_2, tn_0, tn_1, Int32.le_refl, eq_self, rv_bN, rv_iM, RCX 0, RCG 2, RCT 4, RCT 15, RCT 25, RCS 35, RCS 49, RCH 63, RCP 67, RCB 72, RCR 77, RCM 81, RLY, lit_at hw, h7, c0, l12, s1, s2, c2, eb, en, e1 hd3, e2 hd4, s3, c3, e3 hd4, q1, s4, c4, e4 hd4, q2, s5, c5, e5 hd4, q3, C3_2, g_34n hw m0 hd1, g_34n hw m1 hd1, g_37 (i := 12) hw GG V5 (by omega) hd1, zy, g_34n hw m9 hd1, on_succ]
      exact hQ
    · have zy : iB (sayP t g5 12) = 0 := iB_f sy
      refine ⟨(uI (uI (uI (uI (uI σ5 31 (τ 2) (-1)) 32 (τ 2) (-1)) 33 (τ 2) (-1)) 34 (τ 2) 0) 25 4 (Int32.ofNat (τ 2 + 1))), frX_tr x5 (frX_tr (frX_I (by omega)) (frX_tr (frX_I (by omega)) (frX_tr (frX_I (by omega)) (frX_tr (frX_I (by omega)) (frX_I (by omega)))))), by rw [eR]; simp only [uI_1, Nat.reduceEqDiff, false_and, if_false]; exact F5, by simp only [uI_1, Nat.reduceEqDiff, false_and, and_false, if_false]; exact L3, fun q => absurd q (by rw [eR]; exact q3), fun hD => cV_of (m := 4) (fun d hd Q hQ => ?_) rfl hD⟩
      have hd1 : 1 ≤ d := by omega
      have hd2 : 2 ≤ d := by omega
      have hd3 : 3 ≤ d := by omega
      have hd4 : 4 ≤ d := by omega
      refine b31_0 ?_
      simp only [↓br_pos, ↓br_neg, ↓rF_I, ↓rF_L, ↓rF_R, ↓rF_N, rO_m, rB_m, ↓rI_m, wI_m, ↓rB2_m, ↓rB3_m, wB2_m, wB3_m, ↓rL_m, wL_m, ↓rQ_m, wQ_m, ↓lI_m, pI_m, pL_m, pR_m, sI_m, sBy_m, sBo_m, sL_m, sQ_m, fst_m, true_and, and_true, tg_some, ln_some, uI_1, uI_2, uL_1, uL_2, uL_3, uQ_1, uQ_2, uQ_3, rv_i, rv_l, rv_n, rv_b0, rv_b1, RMR, ne_eq, reduceCtorEq, not_false_eq_true, Option.getD_some, if_true, if_false, and_self, false_and, and_false, Nat.add_left_cancel_iff, Nat.add_eq_left, Nat.left_eq_add, Nat.one_ne_zero, Nat.reduceAdd, Nat.reduceLT, Nat.reduceLeDiff, Nat.reduceEqDiff, true_implies, false_implies, implies_true, Option.some.injEq, forall_eq', forall_eq, reduceCtorEq, brT, brF, br_s, i_10, i_01, ib_0_2, ib_1_2, tn_0, tn_1, Int32.le_refl, eq_self, rv_bN, rv_iM, RCX 0, RCG 2, RCT 4, RCT 15, RCT 25, RCS 35, RCS 49, RCH 63, RCP 67, RCB 72, RCR 77, RCM 81, RLY, lit_at hw, h7, c0, l12, s1, s2, c2, eb, en, e1 hd3, e2 hd4, s3, c3, e3 hd4, q1, s4, c4, e4 hd4, q2, s5, c5, e5 hd4, q3, C3_2, g_34n hw m0 hd1, g_34n hw m1 hd1, g_37 (i := 12) hw GG V5 (by omega) hd1, zy, on_succ]
      exact hQ
  have w3 := told_v (lo := (nN t (adv t n (gTd t n (gNm t n (adv t n g)))))) (hi := 999) w2.1 rfl (by omega) (by omega) q3
  have K3 : tG σ5 t n (gTd t n (gTd t n (gTd t n (gNm t n (adv t n g))))) := z5 q3
  have U3 : vG n (gTd t n (gTd t n (gTd t n (gNm t n (adv t n g))))) := vG_td U2
  have Z3 : (gTd t n (gTd t n (gTd t n (gNm t n (adv t n g))))) 3 = 0 := by rw [gTd_g (by omega)]; exact Z2
  obtain ⟨σ6, f6, F6, ⟨g6, G6, V6⟩, z6, e6⟩ := g_34 (σ := uI σ5 31 (τ 2) (numV t (adv t n (gTd t n (gTd t n (gNm t n (adv t n g))))))) (i := 10) (low := 1) (high := 99) hw ht (tG_I K3 (by omega)) U3 Z3 (by omega)
  have s6 : σ6.2.2 2 7 = some 25 := by rw [f6.2]; exact s5
  have r6 : ∀ a, 25 ≤ a → a < 35 → σ6.1 a = (uI σ5 31 (τ 2) (numV t (adv t n (gTd t n (gTd t n (gNm t n (adv t n g))))))).1 a := fun a ha hb => f6.1 a (by omega)
  have c6 : σ6.1 25 4 = Int32.ofNat (τ 2) := by rw [r6 25 (by omega) (by omega), uI_1, if_neg (by omega)]; exact c5
  have L4 : σ6.1 25 0 = σ.1 25 0 := by rw [r6 25 (by omega) (by omega), uI_1, if_neg (by omega)]; exact L3
  have T6 : tTold σ6 25 τ := tTold_fr (tT_j (p := 25) (A := 6) T5 (by omega)) (fun a h1 h2 => r6 a (by omega) (by omega))
  have x6 : frX 25 σ σ6 := frX_tr x5 (frX_tr (frX_I (by omega)) (frX_R f6))
  have C4_1 : σ6.1 29 (τ 2) = (numV t (adv t n (gNm t n (adv t n g)))) := by rw [r6 29 (by omega) (by omega), uI_1, if_neg (by omega)]; exact C3_1
  have C4_2 : σ6.1 30 (τ 2) = (numV t (adv t n (gTd t n (gNm t n (adv t n g))))) := by rw [r6 30 (by omega) (by omega), uI_1, if_neg (by omega)]; exact C3_2
  have C4_3 : σ6.1 31 (τ 2) = (numV t (adv t n (gTd t n (gTd t n (gNm t n (adv t n g)))))) := by rw [r6 31 (by omega) (by omega), uI_1, if_pos ⟨rfl, rfl⟩]
  by_cases q4 : toldF t n (gTd t n (gTd t n (gTd t n (gNm t n (adv t n g))))) 10 1 99 = 0
  case neg =>
    have n0 : σ6.1 2 5 ≠ 0 := f8_ne F6 q4 (by have := toldF_lt (t := t) (i := 10) (low := 1) (high := 99) U3; omega)
    have m0 : (uI σ6 32 (τ 2) (-1)).1 2 5 ≠ 0 := by simp only [uI_1, Nat.reduceEqDiff, false_and, if_false]; exact n0
    have eR : (rShp t n g nm τ) = (toldF t n (gTd t n (gTd t n (gTd t n (gNm t n (adv t n g))))) 10 1 99, g, nm, τ) := by unfold rShp; rw [if_neg a, if_neg (fun q => q b), if_neg (fun q => q q1), if_neg (fun q => q q2), if_neg (fun q => q q3), if_pos q4]
    have GG : tG (uI (uI σ6 32 (τ 2) (-1)) 33 (τ 2) (-1)) t n g6 := (tG_I (tG_I G6 (by omega)) (by omega))
    have m9 : (uI (uI σ6 32 (τ 2) (-1)) 33 (τ 2) (-1)).1 2 5 ≠ 0 := by simp only [uI_1, Nat.reduceEqDiff, false_and, if_false]; exact n0
    by_cases sy : sayP t g6 12
    · have zy : iB (sayP t g6 12) = 1 := iB_t sy
      refine ⟨(uI (uI (uI (uI σ6 32 (τ 2) (-1)) 33 (τ 2) (-1)) 34 (τ 2) (-1)) 25 4 (Int32.ofNat (τ 2 + 1))), frX_tr x6 (frX_tr (frX_I (by omega)) (frX_tr (frX_I (by omega)) (frX_tr (frX_I (by omega)) (frX_I (by omega))))), by rw [eR]; simp only [uI_1, Nat.reduceEqDiff, false_and, if_false]; exact F6, by simp only [uI_1, Nat.reduceEqDiff, false_and, and_false, if_false]; exact L4, fun q => absurd q (by rw [eR]; exact q4), fun hD => cV_of (m := 4) (fun d hd Q hQ => ?_) rfl hD⟩
      have hd1 : 1 ≤ d := by omega
      have hd2 : 2 ≤ d := by omega
      have hd3 : 3 ≤ d := by omega
      have hd4 : 4 ≤ d := by omega
      refine b31_0 ?_
      simp only [↓br_pos, ↓br_neg, ↓rF_I, ↓rF_L, ↓rF_R, ↓rF_N, rO_m, rB_m, ↓rI_m, wI_m, ↓rB2_m, ↓rB3_m, wB2_m, wB3_m, ↓rL_m, wL_m, ↓rQ_m, wQ_m, ↓lI_m, pI_m, pL_m, pR_m, sI_m, sBy_m, sBo_m, sL_m, sQ_m, fst_m, true_and, and_true, tg_some, ln_some, uI_1, uI_2, uL_1, uL_2, uL_3, uQ_1, uQ_2, uQ_3, rv_i, rv_l, rv_n, rv_b0, rv_b1, RMR, ne_eq, reduceCtorEq, not_false_eq_true, Option.getD_some, if_true, if_false, and_self, false_and, and_false, Nat.add_left_cancel_iff, Nat.add_eq_left, Nat.left_eq_add, Nat.one_ne_zero, Nat.reduceAdd, Nat.reduceLT, Nat.reduceLeDiff, Nat.reduceEqDiff, true_implies, false_implies, implies_true, Option.some.injEq, forall_eq', forall_eq, reduceCtorEq, brT, brF, br_s, i_10, i_01, ib_0_2, ib_1_2, tn_0, tn_1, Int32.le_refl, eq_self, rv_bN, rv_iM, RCX 0, RCG 2, RCT 4, RCT 15, RCT 25, RCS 35, RCS 49, RCH 63, RCP 67, RCB 72, RCR 77, RCM 81, RLY, lit_at hw, h7, c0, l12, s1, s2, c2, eb, en, e1 hd3, e2 hd4, s3, c3, e3 hd4, q1, s4, c4, e4 hd4, q2, s5, c5, e5 hd4, q3, C3_2, s6, c6, e6 hd4, q4, C3_2, g_34n hw m0 hd1, g_37 (i := 12) hw GG V6 (by omega) hd1, zy, g_34n hw m9 hd1, on_succ]
      exact hQ
    · have zy : iB (sayP t g6 12) = 0 := iB_f sy
      refine ⟨(uI (uI (uI (uI σ6 32 (τ 2) (-1)) 33 (τ 2) (-1)) 34 (τ 2) 0) 25 4 (Int32.ofNat (τ 2 + 1))), frX_tr x6 (frX_tr (frX_I (by omega)) (frX_tr (frX_I (by omega)) (frX_tr (frX_I (by omega)) (frX_I (by omega))))), by rw [eR]; simp only [uI_1, Nat.reduceEqDiff, false_and, if_false]; exact F6, by simp only [uI_1, Nat.reduceEqDiff, false_and, and_false, if_false]; exact L4, fun q => absurd q (by rw [eR]; exact q4), fun hD => cV_of (m := 4) (fun d hd Q hQ => ?_) rfl hD⟩
      have hd1 : 1 ≤ d := by omega
      have hd2 : 2 ≤ d := by omega
      have hd3 : 3 ≤ d := by omega
      have hd4 : 4 ≤ d := by omega
      refine b31_0 ?_
      simp only [↓br_pos, ↓br_neg, ↓rF_I, ↓rF_L, ↓rF_R, ↓rF_N, rO_m, rB_m, ↓rI_m, wI_m, ↓rB2_m, ↓rB3_m, wB2_m, wB3_m, ↓rL_m, wL_m, ↓rQ_m, wQ_m, ↓lI_m, pI_m, pL_m, pR_m, sI_m, sBy_m, sBo_m, sL_m, sQ_m, fst_m, true_and, and_true, tg_some, ln_some, uI_1, uI_2, uL_1, uL_2, uL_3, uQ_1, uQ_2, uQ_3, rv_i, rv_l, rv_n, rv_b0, rv_b1, RMR, ne_eq, reduceCtorEq, not_false_eq_true, Option.getD_some, if_true, if_false, and_self, false_and, and_false, Nat.add_left_cancel_iff, Nat.add_eq_left, Nat.left_eq_add, Nat.one_ne_zero, Nat.reduceAdd, Nat.reduceLT, Nat.reduceLeDiff, Nat.reduceEqDiff, true_implies, false_implies, implies_true, Option.some.injEq, forall_eq', forall_eq, reduceCtorEq, brT, brF, br_s, i_10, i_01, ib_0_2, ib_1_2, tn_0, tn_1, Int32.le_refl, eq_self, rv_bN, rv_iM, RCX 0, RCG 2, RCT 4, RCT 15, RCT 25, RCS 35, RCS 49, RCH 63, RCP 67, RCB 72, RCR 77, RCM 81, RLY, lit_at hw, h7, c0, l12, s1, s2, c2, eb, en, e1 hd3, e2 hd4, s3, c3, e3 hd4, q1, s4, c4, e4 hd4, q2, s5, c5, e5 hd4, q3, C3_2, s6, c6, e6 hd4, q4, C3_2, g_34n hw m0 hd1, g_37 (i := 12) hw GG V6 (by omega) hd1, zy, on_succ]
      exact hQ
  have w4 := told_v (lo := 1) (hi := 99) rfl rfl (by omega) (by omega) q4
  have K4 : tG σ6 t n (gTd t n (gTd t n (gTd t n (gTd t n (gNm t n (adv t n g)))))) := z6 q4
  have U4 : vG n (gTd t n (gTd t n (gTd t n (gTd t n (gNm t n (adv t n g)))))) := vG_td U3
  have Z4 : (gTd t n (gTd t n (gTd t n (gTd t n (gNm t n (adv t n g)))))) 3 = 0 := by rw [gTd_g (by omega)]; exact Z3
  obtain ⟨σ7, f7, F7, ⟨g7, G7, V7⟩, z7, e7⟩ := g_34 (σ := uI σ6 32 (τ 2) (numV t (adv t n (gTd t n (gTd t n (gTd t n (gNm t n (adv t n g)))))))) (i := 11) (low := 1) (high := 20) hw ht (tG_I K4 (by omega)) U4 Z4 (by omega)
  have s7 : σ7.2.2 2 7 = some 25 := by rw [f7.2]; exact s6
  have r7 : ∀ a, 25 ≤ a → a < 35 → σ7.1 a = (uI σ6 32 (τ 2) (numV t (adv t n (gTd t n (gTd t n (gTd t n (gNm t n (adv t n g)))))))).1 a := fun a ha hb => f7.1 a (by omega)
  have c7 : σ7.1 25 4 = Int32.ofNat (τ 2) := by rw [r7 25 (by omega) (by omega), uI_1, if_neg (by omega)]; exact c6
  have L5 : σ7.1 25 0 = σ.1 25 0 := by rw [r7 25 (by omega) (by omega), uI_1, if_neg (by omega)]; exact L4
  have T7 : tTold σ7 25 τ := tTold_fr (tT_j (p := 25) (A := 7) T6 (by omega)) (fun a h1 h2 => r7 a (by omega) (by omega))
  have x7 : frX 25 σ σ7 := frX_tr x6 (frX_tr (frX_I (by omega)) (frX_R f7))
  have C5_1 : σ7.1 29 (τ 2) = (numV t (adv t n (gNm t n (adv t n g)))) := by rw [r7 29 (by omega) (by omega), uI_1, if_neg (by omega)]; exact C4_1
  have C5_2 : σ7.1 30 (τ 2) = (numV t (adv t n (gTd t n (gNm t n (adv t n g))))) := by rw [r7 30 (by omega) (by omega), uI_1, if_neg (by omega)]; exact C4_2
  have C5_3 : σ7.1 31 (τ 2) = (numV t (adv t n (gTd t n (gTd t n (gNm t n (adv t n g)))))) := by rw [r7 31 (by omega) (by omega), uI_1, if_neg (by omega)]; exact C4_3
  have C5_4 : σ7.1 32 (τ 2) = (numV t (adv t n (gTd t n (gTd t n (gTd t n (gNm t n (adv t n g))))))) := by rw [r7 32 (by omega) (by omega), uI_1, if_pos ⟨rfl, rfl⟩]
  by_cases q5 : toldF t n (gTd t n (gTd t n (gTd t n (gTd t n (gNm t n (adv t n g)))))) 11 1 20 = 0
  case neg =>
    have n0 : σ7.1 2 5 ≠ 0 := f8_ne F7 q5 (by have := toldF_lt (t := t) (i := 11) (low := 1) (high := 20) U4; omega)
    have eR : (rShp t n g nm τ) = (toldF t n (gTd t n (gTd t n (gTd t n (gTd t n (gNm t n (adv t n g)))))) 11 1 20, g, nm, τ) := by unfold rShp; rw [if_neg a, if_neg (fun q => q b), if_neg (fun q => q q1), if_neg (fun q => q q2), if_neg (fun q => q q3), if_neg (fun q => q q4), if_pos q5]
    have GG : tG (uI σ7 33 (τ 2) (-1)) t n g7 := (tG_I G7 (by omega))
    have m9 : (uI σ7 33 (τ 2) (-1)).1 2 5 ≠ 0 := by simp only [uI_1, Nat.reduceEqDiff, false_and, if_false]; exact n0
    by_cases sy : sayP t g7 12
    · have zy : iB (sayP t g7 12) = 1 := iB_t sy
      refine ⟨(uI (uI (uI σ7 33 (τ 2) (-1)) 34 (τ 2) (-1)) 25 4 (Int32.ofNat (τ 2 + 1))), frX_tr x7 (frX_tr (frX_I (by omega)) (frX_tr (frX_I (by omega)) (frX_I (by omega)))), by rw [eR]; simp only [uI_1, Nat.reduceEqDiff, false_and, if_false]; exact F7, by simp only [uI_1, Nat.reduceEqDiff, false_and, and_false, if_false]; exact L5, fun q => absurd q (by rw [eR]; exact q5), fun hD => cV_of (m := 4) (fun d hd Q hQ => ?_) rfl hD⟩
      have hd1 : 1 ≤ d := by omega
      have hd2 : 2 ≤ d := by omega
      have hd3 : 3 ≤ d := by omega
      have hd4 : 4 ≤ d := by omega
      refine b31_0 ?_
      simp only [↓br_pos, ↓br_neg, ↓rF_I, ↓rF_L, ↓rF_R, ↓rF_N, rO_m, rB_m, ↓rI_m, wI_m, ↓rB2_m, ↓rB3_m, wB2_m, wB3_m, ↓rL_m, wL_m, ↓rQ_m, wQ_m, ↓lI_m, pI_m, pL_m, pR_m, sI_m, sBy_m, sBo_m, sL_m, sQ_m, fst_m, true_and, and_true, tg_some, ln_some, uI_1, uI_2, uL_1, uL_2, uL_3, uQ_1, uQ_2, uQ_3, rv_i, rv_l, rv_n, rv_b0, rv_b1, RMR, ne_eq, reduceCtorEq, not_false_eq_true, Option.getD_some, if_true, if_false, and_self, false_and, and_false, Nat.add_left_cancel_iff, Nat.add_eq_left, Nat.left_eq_add, Nat.one_ne_zero, Nat.reduceAdd, Nat.reduceLT, Nat.reduceLeDiff, Nat.reduceEqDiff, true_implies, false_implies, implies_true, Option.some.injEq, forall_eq', forall_eq, reduceCtorEq, brT, brF, br_s, i_10, i_01, ib_0_2, ib_1_2, tn_0, tn_1, Int32.le_refl, eq_self, rv_bN, rv_iM, RCX 0, RCG 2, RCT 4, RCT 15, RCT 25, RCS 35, RCS 49, RCH 63, RCP 67, RCB 72, RCR 77, RCM 81, RLY, lit_at hw, h7, c0, l12, s1, s2, c2, eb, en, e1 hd3, e2 hd4, s3, c3, e3 hd4, q1, s4, c4, e4 hd4, q2, s5, c5, e5 hd4, q3, C3_2, s6, c6, e6 hd4, q4, C3_2, s7, c7, e7 hd4, q5, C3_2, g_37 (i := 12) hw GG V7 (by omega) hd1, zy, g_34n hw m9 hd1, on_succ]
      exact hQ
    · have zy : iB (sayP t g7 12) = 0 := iB_f sy
      refine ⟨(uI (uI (uI σ7 33 (τ 2) (-1)) 34 (τ 2) 0) 25 4 (Int32.ofNat (τ 2 + 1))), frX_tr x7 (frX_tr (frX_I (by omega)) (frX_tr (frX_I (by omega)) (frX_I (by omega)))), by rw [eR]; simp only [uI_1, Nat.reduceEqDiff, false_and, if_false]; exact F7, by simp only [uI_1, Nat.reduceEqDiff, false_and, and_false, if_false]; exact L5, fun q => absurd q (by rw [eR]; exact q5), fun hD => cV_of (m := 4) (fun d hd Q hQ => ?_) rfl hD⟩
      have hd1 : 1 ≤ d := by omega
      have hd2 : 2 ≤ d := by omega
      have hd3 : 3 ≤ d := by omega
      have hd4 : 4 ≤ d := by omega
      refine b31_0 ?_
      simp only [↓br_pos, ↓br_neg, ↓rF_I, ↓rF_L, ↓rF_R, ↓rF_N, rO_m, rB_m, ↓rI_m, wI_m, ↓rB2_m, ↓rB3_m, wB2_m, wB3_m, ↓rL_m, wL_m, ↓rQ_m, wQ_m, ↓lI_m, pI_m, pL_m, pR_m, sI_m, sBy_m, sBo_m, sL_m, sQ_m, fst_m, true_and, and_true, tg_some, ln_some, uI_1, uI_2, uL_1, uL_2, uL_3, uQ_1, uQ_2, uQ_3, rv_i, rv_l, rv_n, rv_b0, rv_b1, RMR, ne_eq, reduceCtorEq, not_false_eq_true, Option.getD_some, if_true, if_false, and_self, false_and, and_false, Nat.add_left_cancel_iff, Nat.add_eq_left, Nat.left_eq_add, Nat.one_ne_zero, Nat.reduceAdd, Nat.reduceLT, Nat.reduceLeDiff, Nat.reduceEqDiff, true_implies, false_implies, implies_true, Option.some.injEq, forall_eq', forall_eq, reduceCtorEq, brT, brF, br_s, i_10, i_01, ib_0_2, ib_1_2, tn_0, tn_1, Int32.le_refl, eq_self, rv_bN, rv_iM, RCX 0, RCG 2, RCT 4, RCT 15, RCT 25, RCS 35, RCS 49, RCH 63, RCP 67, RCB 72, RCR 77, RCM 81, RLY, lit_at hw, h7, c0, l12, s1, s2, c2, eb, en, e1 hd3, e2 hd4, s3, c3, e3 hd4, q1, s4, c4, e4 hd4, q2, s5, c5, e5 hd4, q3, C3_2, s6, c6, e6 hd4, q4, C3_2, s7, c7, e7 hd4, q5, C3_2, g_37 (i := 12) hw GG V7 (by omega) hd1, zy, on_succ]
      exact hQ
  have w5 := told_v (lo := 1) (hi := 20) rfl rfl (by omega) (by omega) q5
  have K5 : tG σ7 t n (gTd t n (gTd t n (gTd t n (gTd t n (gTd t n (gNm t n (adv t n g))))))) := z7 q5
  have U5 : vG n (gTd t n (gTd t n (gTd t n (gTd t n (gTd t n (gNm t n (adv t n g))))))) := vG_td U4
  have Z5 : (gTd t n (gTd t n (gTd t n (gTd t n (gTd t n (gNm t n (adv t n g))))))) 3 = 0 := by rw [gTd_g (by omega)]; exact Z4
  have KK : tG (uI σ7 33 (τ 2) (numV t (adv t n (gTd t n (gTd t n (gTd t n (gTd t n (gNm t n (adv t n g))))))))) t n (gTd t n (gTd t n (gTd t n (gTd t n (gTd t n (gNm t n (adv t n g))))))) := tG_I K5 (by omega)
  by_cases sy : sayP t (gTd t n (gTd t n (gTd t n (gTd t n (gTd t n (gNm t n (adv t n g))))))) 12
  case pos =>
    have zy : iB (sayP t (gTd t n (gTd t n (gTd t n (gTd t n (gTd t n (gNm t n (adv t n g))))))) 12) = 1 := iB_t sy
    obtain ⟨σ8, f8, F8, ⟨g8, G8, V8⟩, z8, e8⟩ := g_34 (σ := uI σ7 33 (τ 2) (numV t (adv t n (gTd t n (gTd t n (gTd t n (gTd t n (gNm t n (adv t n g))))))))) (i := 12) (low := 0) (high := 999) hw ht KK U5 Z5 (by omega)
    have s8 : σ8.2.2 2 7 = some 25 := by rw [f8.2]; exact s7
    have r8 : ∀ a, 25 ≤ a → a < 35 → σ8.1 a = (uI σ7 33 (τ 2) (numV t (adv t n (gTd t n (gTd t n (gTd t n (gTd t n (gNm t n (adv t n g))))))))).1 a := fun a ha hb => f8.1 a (by omega)
    have c8 : σ8.1 25 4 = Int32.ofNat (τ 2) := by rw [r8 25 (by omega) (by omega), uI_1, if_neg (by omega)]; exact c7
    have L6 : σ8.1 25 0 = σ.1 25 0 := by rw [r8 25 (by omega) (by omega), uI_1, if_neg (by omega)]; exact L5
    have T8 : tTold σ8 25 τ := tTold_fr (tT_j (p := 25) (A := 8) T7 (by omega)) (fun a h1 h2 => r8 a (by omega) (by omega))
    have x8 : frX 25 σ σ8 := frX_tr x7 (frX_tr (frX_I (by omega)) (frX_R f8))
    have C6_1 : σ8.1 29 (τ 2) = (numV t (adv t n (gNm t n (adv t n g)))) := by rw [r8 29 (by omega) (by omega), uI_1, if_neg (by omega)]; exact C5_1
    have C6_2 : σ8.1 30 (τ 2) = (numV t (adv t n (gTd t n (gNm t n (adv t n g))))) := by rw [r8 30 (by omega) (by omega), uI_1, if_neg (by omega)]; exact C5_2
    have C6_3 : σ8.1 31 (τ 2) = (numV t (adv t n (gTd t n (gTd t n (gNm t n (adv t n g)))))) := by rw [r8 31 (by omega) (by omega), uI_1, if_neg (by omega)]; exact C5_3
    have C6_4 : σ8.1 32 (τ 2) = (numV t (adv t n (gTd t n (gTd t n (gTd t n (gNm t n (adv t n g))))))) := by rw [r8 32 (by omega) (by omega), uI_1, if_neg (by omega)]; exact C5_4
    have C6_5 : σ8.1 33 (τ 2) = (numV t (adv t n (gTd t n (gTd t n (gTd t n (gTd t n (gNm t n (adv t n g)))))))) := by rw [r8 33 (by omega) (by omega), uI_1, if_pos ⟨rfl, rfl⟩]
    by_cases q6 : toldF t n (gTd t n (gTd t n (gTd t n (gTd t n (gTd t n (gNm t n (adv t n g))))))) 12 0 999 = 0
    case neg =>
      have eR : (rShp t n g nm τ) = (toldF t n (gTd t n (gTd t n (gTd t n (gTd t n (gTd t n (gNm t n (adv t n g))))))) 12 0 999, g, nm, τ) := by unfold rShp; rw [if_neg a, if_neg (fun q => q b), if_neg (fun q => q q1), if_neg (fun q => q q2), if_neg (fun q => q q3), if_neg (fun q => q q4), if_neg (fun q => q q5), if_neg (fun q => q sy), if_pos q6]
      refine ⟨(uI (uI σ8 34 (τ 2) (-1)) 25 4 (Int32.ofNat (τ 2 + 1))), frX_tr x8 (frX_tr (frX_I (by omega)) (frX_I (by omega))), by rw [eR]; simp only [uI_1, Nat.reduceEqDiff, false_and, if_false]; exact F8, by simp only [uI_1, Nat.reduceEqDiff, false_and, and_false, if_false]; exact L6, fun q => absurd q (by rw [eR]; exact q6), fun hD => cV_of (m := 4) (fun d hd Q hQ => ?_) rfl hD⟩
      have hd1 : 1 ≤ d := by omega
      have hd2 : 2 ≤ d := by omega
      have hd3 : 3 ≤ d := by omega
      have hd4 : 4 ≤ d := by omega
      refine b31_0 ?_
      simp only [↓br_pos, ↓br_neg, ↓rF_I, ↓rF_L, ↓rF_R, ↓rF_N, rO_m, rB_m, ↓rI_m, wI_m, ↓rB2_m, ↓rB3_m, wB2_m, wB3_m, ↓rL_m, wL_m, ↓rQ_m, wQ_m, ↓lI_m, pI_m, pL_m, pR_m, sI_m, sBy_m, sBo_m, sL_m, sQ_m, fst_m, true_and, and_true, tg_some, ln_some, uI_1, uI_2, uL_1, uL_2, uL_3, uQ_1, uQ_2, uQ_3, rv_i, rv_l, rv_n, rv_b0, rv_b1, RMR, ne_eq, reduceCtorEq, not_false_eq_true, Option.getD_some, if_true, if_false, and_self, false_and, and_false, Nat.add_left_cancel_iff, Nat.add_eq_left, Nat.left_eq_add, Nat.one_ne_zero, Nat.reduceAdd, Nat.reduceLT, Nat.reduceLeDiff, Nat.reduceEqDiff, true_implies, false_implies, implies_true, Option.some.injEq, forall_eq', forall_eq, reduceCtorEq, brT, brF, br_s, i_10, i_01, ib_0_2, ib_1_2, tn_0, tn_1, Int32.le_refl, eq_self, rv_bN, rv_iM, RCX 0, RCG 2, RCT 4, RCT 15, RCT 25, RCS 35, RCS 49, RCH 63, RCP 67, RCB 72, RCR 77, RCM 81, RLY, lit_at hw, h7, c0, l12, s1, s2, c2, eb, en, e1 hd3, e2 hd4, s3, c3, e3 hd4, q1, s4, c4, e4 hd4, q2, s5, c5, e5 hd4, q3, C3_2, s6, c6, e6 hd4, q4, C3_2, s7, c7, e7 hd4, q5, C3_2, g_37 (i := 12) hw KK U5 (by omega) hd1, zy, s8, c8, e8 hd4, q6, on_succ]
      exact hQ
    have w6 := told_v (lo := 0) (hi := 999) rfl rfl (by omega) (by omega) q6
    have K6 : tG σ8 t n (gTd t n (gTd t n (gTd t n (gTd t n (gTd t n (gTd t n (gNm t n (adv t n g)))))))) := z8 q6
    have five : (gTd t n (gTd t n (gTd t n (gTd t n (gTd t n (gTd t n (gNm t n (adv t n g)))))))) 5 = g 5 + 1 := by rw [gTd_g (by omega), gTd_g (by omega), gTd_g (by omega), gTd_g (by omega), gTd_g (by omega), gTd_g (by omega), gNm_5, adv_g (by omega)]
    have eR : (rShp t n g nm τ) = (0, (gTd t n (gTd t n (gTd t n (gTd t n (gTd t n (gTd t n (gNm t n (adv t n g)))))))), nmS nm (adv t n g 5) (cdN t (adv t n g)), tShp τ (nN t (adv t n (gNm t n (adv t n g)))) (nN t (adv t n (gTd t n (gNm t n (adv t n g))))) (nN t (adv t n (gTd t n (gTd t n (gNm t n (adv t n g)))))) (nN t (adv t n (gTd t n (gTd t n (gTd t n (gNm t n (adv t n g))))))) (nN t (adv t n (gTd t n (gTd t n (gTd t n (gTd t n (gNm t n (adv t n g)))))))) (nN t (adv t n (gTd t n (gTd t n (gTd t n (gTd t n (gTd t n (gNm t n (adv t n g)))))))))) := by unfold rShp; rw [if_neg a, if_neg (fun q => q b), if_neg (fun q => q q1), if_neg (fun q => q q2), if_neg (fun q => q q3), if_neg (fun q => q q4), if_neg (fun q => q q5), if_neg (fun q => q sy), if_neg (fun q => q q6)]
    refine ⟨(uI (uI σ8 34 (τ 2) (numV t (adv t n (gTd t n (gTd t n (gTd t n (gTd t n (gTd t n (gNm t n (adv t n g)))))))))) 25 4 (Int32.ofNat (τ 2 + 1))), frX_tr x8 (frX_tr (frX_I (by omega)) (frX_I (by omega))), by rw [eR]; simp only [uI_1, Nat.reduceEqDiff, false_and, if_false]; rw [F8, q6], by simp only [uI_1, Nat.reduceEqDiff, false_and, and_false, if_false]; exact L6, fun _ => ?_, fun hD => cV_of (m := 4) (fun d hd Q hQ => ?_) rfl hD⟩
    · rw [eR]
      refine ⟨⟨(tG_I (tG_I K6 (by omega)) (by omega)), fun i hi => ?_, tT_shp (p := 25) (tT_j (p := 25) (A := 9) T8 (by omega)) hv (by omega) (by rw [uI_1, if_neg (by omega), C6_1]; exact w1.1) (by rw [uI_1, if_neg (by omega), C6_2]; exact w2.1) (by rw [uI_1, if_neg (by omega), C6_3]; exact w3.1) (by rw [uI_1, if_neg (by omega), C6_4]; exact w4.1) (by rw [uI_1, if_neg (by omega), C6_5]; exact w5.1) (by rw [uI_1, if_pos ⟨rfl, rfl⟩]; exact w6.1), ?_⟩, (vG_td U5), (by show (gTd t n (gTd t n (gTd t n (gTd t n (gTd t n (gTd t n (gNm t n (adv t n g)))))))) 3 = 0; rw [gTd_g (by omega)]; exact Z5), vT_shp hv (by omega) ⟨w1.2.1, w1.2.2⟩ w2.2.2 w3.2.2 ⟨w4.2.1, w4.2.2⟩ ⟨w5.2.1, w5.2.2⟩ w6.2.2, ?_⟩
      · have hi' : i < adv t n g 5 + 1 := by
          have hi2 : i < (gTd t n (gTd t n (gTd t n (gTd t n (gTd t n (gTd t n (gNm t n (adv t n g)))))))) 5 := hi
          rw [five] at hi2; rw [adv_g (by omega)]; exact hi2
        simp only [uI_1, Nat.reduceEqDiff, false_and, if_false]
        rw [f8.1 14 (by omega), uI_1, if_neg (by omega), f7.1 14 (by omega), uI_1, if_neg (by omega), f6.1 14 (by omega), uI_1, if_neg (by omega), f5.1 14 (by omega), uI_1, if_neg (by omega), f4.1 14 (by omega), uI_1, if_neg (by omega), f3.1 14 (by omega)]
        exact z2'.2 i hi'
      · show σ8.2.2 2 7 = some 25
        exact s8
      · show (gTd t n (gTd t n (gTd t n (gTd t n (gTd t n (gTd t n (gNm t n (adv t n g)))))))) 5 = _
        rw [five, h5]
        show _ = tShp τ (nN t (adv t n (gNm t n (adv t n g)))) (nN t (adv t n (gTd t n (gNm t n (adv t n g))))) (nN t (adv t n (gTd t n (gTd t n (gNm t n (adv t n g)))))) (nN t (adv t n (gTd t n (gTd t n (gTd t n (gNm t n (adv t n g))))))) (nN t (adv t n (gTd t n (gTd t n (gTd t n (gTd t n (gNm t n (adv t n g)))))))) (nN t (adv t n (gTd t n (gTd t n (gTd t n (gTd t n (gTd t n (gNm t n (adv t n g))))))))) 0 + tShp τ (nN t (adv t n (gNm t n (adv t n g)))) (nN t (adv t n (gTd t n (gNm t n (adv t n g))))) (nN t (adv t n (gTd t n (gTd t n (gNm t n (adv t n g)))))) (nN t (adv t n (gTd t n (gTd t n (gTd t n (gNm t n (adv t n g))))))) (nN t (adv t n (gTd t n (gTd t n (gTd t n (gTd t n (gNm t n (adv t n g)))))))) (nN t (adv t n (gTd t n (gTd t n (gTd t n (gTd t n (gTd t n (gNm t n (adv t n g))))))))) 1 + tShp τ (nN t (adv t n (gNm t n (adv t n g)))) (nN t (adv t n (gTd t n (gNm t n (adv t n g))))) (nN t (adv t n (gTd t n (gTd t n (gNm t n (adv t n g)))))) (nN t (adv t n (gTd t n (gTd t n (gTd t n (gNm t n (adv t n g))))))) (nN t (adv t n (gTd t n (gTd t n (gTd t n (gTd t n (gNm t n (adv t n g)))))))) (nN t (adv t n (gTd t n (gTd t n (gTd t n (gTd t n (gTd t n (gNm t n (adv t n g))))))))) 2
        have y0 : tShp τ (nN t (adv t n (gNm t n (adv t n g)))) (nN t (adv t n (gTd t n (gNm t n (adv t n g))))) (nN t (adv t n (gTd t n (gTd t n (gNm t n (adv t n g)))))) (nN t (adv t n (gTd t n (gTd t n (gTd t n (gNm t n (adv t n g))))))) (nN t (adv t n (gTd t n (gTd t n (gTd t n (gTd t n (gNm t n (adv t n g)))))))) (nN t (adv t n (gTd t n (gTd t n (gTd t n (gTd t n (gTd t n (gNm t n (adv t n g))))))))) 0 = τ 0 := by rw [tShp_1, if_neg (by omega), if_neg (by omega), if_neg (by omega), if_neg (by omega), if_neg (by omega), if_neg (by omega), if_neg (by omega)]
        have y1 : tShp τ (nN t (adv t n (gNm t n (adv t n g)))) (nN t (adv t n (gTd t n (gNm t n (adv t n g))))) (nN t (adv t n (gTd t n (gTd t n (gNm t n (adv t n g)))))) (nN t (adv t n (gTd t n (gTd t n (gTd t n (gNm t n (adv t n g))))))) (nN t (adv t n (gTd t n (gTd t n (gTd t n (gTd t n (gNm t n (adv t n g)))))))) (nN t (adv t n (gTd t n (gTd t n (gTd t n (gTd t n (gTd t n (gNm t n (adv t n g))))))))) 1 = τ 1 := by rw [tShp_1, if_neg (by omega), if_neg (by omega), if_neg (by omega), if_neg (by omega), if_neg (by omega), if_neg (by omega), if_neg (by omega)]
        have y2 : tShp τ (nN t (adv t n (gNm t n (adv t n g)))) (nN t (adv t n (gTd t n (gNm t n (adv t n g))))) (nN t (adv t n (gTd t n (gTd t n (gNm t n (adv t n g)))))) (nN t (adv t n (gTd t n (gTd t n (gTd t n (gNm t n (adv t n g))))))) (nN t (adv t n (gTd t n (gTd t n (gTd t n (gTd t n (gNm t n (adv t n g)))))))) (nN t (adv t n (gTd t n (gTd t n (gTd t n (gTd t n (gTd t n (gNm t n (adv t n g))))))))) 2 = τ 2 + 1 := by rw [tShp_1, if_pos rfl]
        rw [y0, y1, y2]; omega
    · have hd1 : 1 ≤ d := by omega
      have hd2 : 2 ≤ d := by omega
      have hd3 : 3 ≤ d := by omega
      have hd4 : 4 ≤ d := by omega
      refine b31_0 ?_
      simp only [↓br_pos, ↓br_neg, ↓rF_I, ↓rF_L, ↓rF_R, ↓rF_N, rO_m, rB_m, ↓rI_m, wI_m, ↓rB2_m, ↓rB3_m, wB2_m, wB3_m, ↓rL_m, wL_m, ↓rQ_m, wQ_m, ↓lI_m, pI_m, pL_m, pR_m, sI_m, sBy_m, sBo_m, sL_m, sQ_m, fst_m, true_and, and_true, tg_some, ln_some, uI_1, uI_2, uL_1, uL_2, uL_3, uQ_1, uQ_2, uQ_3, rv_i, rv_l, rv_n, rv_b0, rv_b1, RMR, ne_eq, reduceCtorEq, not_false_eq_true, Option.getD_some, if_true, if_false, and_self, false_and, and_false, Nat.add_left_cancel_iff, Nat.add_eq_left, Nat.left_eq_add, Nat.one_ne_zero, Nat.reduceAdd, Nat.reduceLT, Nat.reduceLeDiff, Nat.reduceEqDiff, true_implies, false_implies, implies_true, Option.some.injEq, forall_eq', forall_eq, reduceCtorEq, brT, brF, br_s, i_10, i_01, ib_0_2, ib_1_2, tn_0, tn_1, Int32.le_refl, eq_self, rv_bN, rv_iM, RCX 0, RCG 2, RCT 4, RCT 15, RCT 25, RCS 35, RCS 49, RCH 63, RCP 67, RCB 72, RCR 77, RCM 81, RLY, lit_at hw, h7, c0, l12, s1, s2, c2, eb, en, e1 hd3, e2 hd4, s3, c3, e3 hd4, q1, s4, c4, e4 hd4, q2, s5, c5, e5 hd4, q3, C3_2, s6, c6, e6 hd4, q4, C3_2, s7, c7, e7 hd4, q5, C3_2, g_37 (i := 12) hw KK U5 (by omega) hd1, zy, s8, c8, e8 hd4, q6, on_succ]
      exact hQ
  have zy : iB (sayP t (gTd t n (gTd t n (gTd t n (gTd t n (gTd t n (gNm t n (adv t n g))))))) 12) = 0 := iB_f sy
  have five : (gTd t n (gTd t n (gTd t n (gTd t n (gTd t n (gNm t n (adv t n g))))))) 5 = g 5 + 1 := by rw [gTd_g (by omega), gTd_g (by omega), gTd_g (by omega), gTd_g (by omega), gTd_g (by omega), gNm_5, adv_g (by omega)]
  have eR : (rShp t n g nm τ) = (0, (gTd t n (gTd t n (gTd t n (gTd t n (gTd t n (gNm t n (adv t n g))))))), nmS nm (adv t n g 5) (cdN t (adv t n g)), tShp τ (nN t (adv t n (gNm t n (adv t n g)))) (nN t (adv t n (gTd t n (gNm t n (adv t n g))))) (nN t (adv t n (gTd t n (gTd t n (gNm t n (adv t n g)))))) (nN t (adv t n (gTd t n (gTd t n (gTd t n (gNm t n (adv t n g))))))) (nN t (adv t n (gTd t n (gTd t n (gTd t n (gTd t n (gNm t n (adv t n g)))))))) 0) := by unfold rShp; rw [if_neg a, if_neg (fun q => q b), if_neg (fun q => q q1), if_neg (fun q => q q2), if_neg (fun q => q q3), if_neg (fun q => q q4), if_neg (fun q => q q5), if_pos sy]
  refine ⟨(uI (uI (uI σ7 33 (τ 2) (numV t (adv t n (gTd t n (gTd t n (gTd t n (gTd t n (gNm t n (adv t n g))))))))) 34 (τ 2) 0) 25 4 (Int32.ofNat (τ 2 + 1))), frX_tr x7 (frX_tr (frX_I (by omega)) (frX_tr (frX_I (by omega)) (frX_I (by omega)))), by rw [eR]; simp only [uI_1, Nat.reduceEqDiff, false_and, if_false]; rw [F7, q5], by simp only [uI_1, Nat.reduceEqDiff, false_and, and_false, if_false]; exact L5, fun _ => ?_, fun hD => cV_of (m := 4) (fun d hd Q hQ => ?_) rfl hD⟩
  · rw [eR]
    refine ⟨⟨(tG_I (tG_I KK (by omega)) (by omega)), fun i hi => ?_, tT_shp (p := 25) (tT_j (p := 25) (A := 9) (tT_j (p := 25) (A := 8) T7 (by omega)) (by omega)) hv (by omega) (by rw [uI_1, if_neg (by omega), uI_1, if_neg (by omega), C5_1]; exact w1.1) (by rw [uI_1, if_neg (by omega), uI_1, if_neg (by omega), C5_2]; exact w2.1) (by rw [uI_1, if_neg (by omega), uI_1, if_neg (by omega), C5_3]; exact w3.1) (by rw [uI_1, if_neg (by omega), uI_1, if_neg (by omega), C5_4]; exact w4.1) (by rw [uI_1, if_neg (by omega), uI_1, if_pos ⟨rfl, rfl⟩]; exact w5.1) (by rw [uI_1, if_pos ⟨rfl, rfl⟩]; rfl), ?_⟩, U5, Z5, vT_shp hv (by omega) ⟨w1.2.1, w1.2.2⟩ w2.2.2 w3.2.2 ⟨w4.2.1, w4.2.2⟩ ⟨w5.2.1, w5.2.2⟩ (by omega), ?_⟩
    · have hi' : i < adv t n g 5 + 1 := by
        have hi2 : i < (gTd t n (gTd t n (gTd t n (gTd t n (gTd t n (gNm t n (adv t n g))))))) 5 := hi
        rw [five] at hi2; rw [adv_g (by omega)]; exact hi2
      simp only [uI_1, Nat.reduceEqDiff, false_and, if_false]
      rw [f7.1 14 (by omega), uI_1, if_neg (by omega), f6.1 14 (by omega), uI_1, if_neg (by omega), f5.1 14 (by omega), uI_1, if_neg (by omega), f4.1 14 (by omega), uI_1, if_neg (by omega), f3.1 14 (by omega)]
      exact z2'.2 i hi'
    · show σ7.2.2 2 7 = some 25
      exact s7
    · show (gTd t n (gTd t n (gTd t n (gTd t n (gTd t n (gNm t n (adv t n g))))))) 5 = _
      rw [five, h5]
      show _ = tShp τ (nN t (adv t n (gNm t n (adv t n g)))) (nN t (adv t n (gTd t n (gNm t n (adv t n g))))) (nN t (adv t n (gTd t n (gTd t n (gNm t n (adv t n g)))))) (nN t (adv t n (gTd t n (gTd t n (gTd t n (gNm t n (adv t n g))))))) (nN t (adv t n (gTd t n (gTd t n (gTd t n (gTd t n (gNm t n (adv t n g)))))))) 0 0 + tShp τ (nN t (adv t n (gNm t n (adv t n g)))) (nN t (adv t n (gTd t n (gNm t n (adv t n g))))) (nN t (adv t n (gTd t n (gTd t n (gNm t n (adv t n g)))))) (nN t (adv t n (gTd t n (gTd t n (gTd t n (gNm t n (adv t n g))))))) (nN t (adv t n (gTd t n (gTd t n (gTd t n (gTd t n (gNm t n (adv t n g)))))))) 0 1 + tShp τ (nN t (adv t n (gNm t n (adv t n g)))) (nN t (adv t n (gTd t n (gNm t n (adv t n g))))) (nN t (adv t n (gTd t n (gTd t n (gNm t n (adv t n g)))))) (nN t (adv t n (gTd t n (gTd t n (gTd t n (gNm t n (adv t n g))))))) (nN t (adv t n (gTd t n (gTd t n (gTd t n (gTd t n (gNm t n (adv t n g)))))))) 0 2
      have y0 : tShp τ (nN t (adv t n (gNm t n (adv t n g)))) (nN t (adv t n (gTd t n (gNm t n (adv t n g))))) (nN t (adv t n (gTd t n (gTd t n (gNm t n (adv t n g)))))) (nN t (adv t n (gTd t n (gTd t n (gTd t n (gNm t n (adv t n g))))))) (nN t (adv t n (gTd t n (gTd t n (gTd t n (gTd t n (gNm t n (adv t n g)))))))) 0 0 = τ 0 := by rw [tShp_1, if_neg (by omega), if_neg (by omega), if_neg (by omega), if_neg (by omega), if_neg (by omega), if_neg (by omega), if_neg (by omega)]
      have y1 : tShp τ (nN t (adv t n (gNm t n (adv t n g)))) (nN t (adv t n (gTd t n (gNm t n (adv t n g))))) (nN t (adv t n (gTd t n (gTd t n (gNm t n (adv t n g)))))) (nN t (adv t n (gTd t n (gTd t n (gTd t n (gNm t n (adv t n g))))))) (nN t (adv t n (gTd t n (gTd t n (gTd t n (gTd t n (gNm t n (adv t n g)))))))) 0 1 = τ 1 := by rw [tShp_1, if_neg (by omega), if_neg (by omega), if_neg (by omega), if_neg (by omega), if_neg (by omega), if_neg (by omega), if_neg (by omega)]
      have y2 : tShp τ (nN t (adv t n (gNm t n (adv t n g)))) (nN t (adv t n (gTd t n (gNm t n (adv t n g))))) (nN t (adv t n (gTd t n (gTd t n (gNm t n (adv t n g)))))) (nN t (adv t n (gTd t n (gTd t n (gTd t n (gNm t n (adv t n g))))))) (nN t (adv t n (gTd t n (gTd t n (gTd t n (gTd t n (gNm t n (adv t n g)))))))) 0 2 = τ 2 + 1 := by rw [tShp_1, if_pos rfl]
      rw [y0, y1, y2]; omega
  · have hd1 : 1 ≤ d := by omega
    have hd2 : 2 ≤ d := by omega
    have hd3 : 3 ≤ d := by omega
    have hd4 : 4 ≤ d := by omega
    refine b31_0 ?_
    simp only [↓br_pos, ↓br_neg, ↓rF_I, ↓rF_L, ↓rF_R, ↓rF_N, rO_m, rB_m, ↓rI_m, wI_m, ↓rB2_m, ↓rB3_m, wB2_m, wB3_m, ↓rL_m, wL_m, ↓rQ_m, wQ_m, ↓lI_m, pI_m, pL_m, pR_m, sI_m, sBy_m, sBo_m, sL_m, sQ_m, fst_m, true_and, and_true, tg_some, ln_some, uI_1, uI_2, uL_1, uL_2, uL_3, uQ_1, uQ_2, uQ_3, rv_i, rv_l, rv_n, rv_b0, rv_b1, RMR, ne_eq, reduceCtorEq, not_false_eq_true, Option.getD_some, if_true, if_false, and_self, false_and, and_false, Nat.add_left_cancel_iff, Nat.add_eq_left, Nat.left_eq_add, Nat.one_ne_zero, Nat.reduceAdd, Nat.reduceLT, Nat.reduceLeDiff, Nat.reduceEqDiff, true_implies, false_implies, implies_true, Option.some.injEq, forall_eq', forall_eq, reduceCtorEq, brT, brF, br_s, i_10, i_01, ib_0_2, ib_1_2, tn_0, tn_1, Int32.le_refl, eq_self, rv_bN, rv_iM, RCX 0, RCG 2, RCT 4, RCT 15, RCT 25, RCS 35, RCS 49, RCH 63, RCP 67, RCB 72, RCR 77, RCM 81, RLY, lit_at hw, h7, c0, l12, s1, s2, c2, eb, en, e1 hd3, e2 hd4, s3, c3, e3 hd4, q1, s4, c4, e4 hd4, q2, s5, c5, e5 hd4, q3, C3_2, s6, c6, e6 hd4, q4, C3_2, s7, c7, e7 hd4, q5, C3_2, g_37 (i := 12) hw KK U5 (by omega) hd1, zy, on_succ]
    exact hQ
