/-! the class's Reader: gap, a line, all lines -/
theorem gNm_4 {t : Nat → Nat} {n : Nat} {g : Rw} : gNm t n g 4 = g 4 := by
  unfold gNm; rw [adv_g (by omega), rS_ne (by omega)]
theorem rLot_4 {t : Nat → Nat} {n : Nat} {g τ : Rw} {nm : Nat → Int32} : (rLot t n g nm τ).2.1 4 = g 4 := by
  unfold rLot
  split
  · rfl
  split
  · rfl
  split
  · rfl
  split
  · rfl
  show gTd t n (gTd t n (gNm t n (adv t n g))) 4 = g 4
  rw [gTd_g (by omega), gTd_g (by omega), gNm_4, adv_g (by omega)]
theorem rPil_4 {t : Nat → Nat} {n : Nat} {g τ : Rw} {nm : Nat → Int32} : (rPil t n g nm τ).2.1 4 = g 4 := by
  unfold rPil
  split
  · rfl
  split
  · rfl
  split
  · rfl
  show gTd t n (gNm t n (adv t n g)) 4 = g 4
  rw [gTd_g (by omega), gNm_4, adv_g (by omega)]
theorem rShp_4 {t : Nat → Nat} {n : Nat} {g τ : Rw} {nm : Nat → Int32} : (rShp t n g nm τ).2.1 4 = g 4 := by
  unfold rShp
  split
  · rfl
  split
  · rfl
  split
  · rfl
  split
  · rfl
  split
  · rfl
  split
  · rfl
  split
  · rfl
  split
  · show gTd t n (gTd t n (gTd t n (gTd t n (gTd t n (gNm t n (adv t n g)))))) 4 = g 4
    rw [gTd_g (by omega), gTd_g (by omega), gTd_g (by omega), gTd_g (by omega), gTd_g (by omega), gNm_4, adv_g (by omega)]
  split
  · rfl
  show gTd t n (gTd t n (gTd t n (gTd t n (gTd t n (gTd t n (gNm t n (adv t n g))))))) 4 = g 4
  rw [gTd_g (by omega), gTd_g (by omega), gTd_g (by omega), gTd_g (by omega), gTd_g (by omega), gTd_g (by omega), gNm_4, adv_g (by omega)]
theorem rGap_4 {t : Nat → Nat} {n : Nat} {g τ : Rw} {nm : Nat → Int32} (h : g 4 ≤ 1) : (rGap t n g nm τ).2.1 4 ≤ 1 := by
  unfold rGap
  split
  · exact h
  split
  · exact h
  show gTd t n (rSet g 4 1) 4 ≤ 1
  rw [gTd_g (by omega), rS_eq]; exact Nat.le_refl _
def rBody (t : Nat → Nat) (n : Nat) (g : Rw) (nm : Nat → Int32) (τ : Rw) : Res :=
  if sayP t g 0 then rLot t n g nm τ else if sayP t g 1 then rPil t n g nm τ else if sayP t g 2 then rShp t n g nm τ else if sayP t g 3 then rGap t n g nm τ else (8 * g 0 + 1, g, nm, τ)
def rLin (t : Nat → Nat) (n : Nat) (g : Rw) (nm : Nat → Int32) (τ : Rw) : Res :=
  if (rBody t n g nm τ).1 ≠ 0 then rBody t n g nm τ else if (rBody t n g nm τ).2.1 2 = 3 then (0, adv t n (rBody t n g nm τ).2.1, (rBody t n g nm τ).2.2) else (8 * (rBody t n g nm τ).2.1 0 + 1, (rBody t n g nm τ).2)
def rLp (t : Nat → Nat) (n : Nat) : Nat → Rw → (Nat → Int32) → Rw → Nat → Nat × Rw × Nat
  | 0, _, _, τ, ln => (0, τ, ln)
  | k + 1, g, nm, τ, ln => if g 2 = 0 then (0, τ, ln) else if (rLin t n g nm τ).1 ≠ 0 then ((rLin t n g nm τ).1, τ, ln + 1) else rLp t n k (rLin t n g nm τ).2.1 (rLin t n g nm τ).2.2.1 (rLin t n g nm τ).2.2.2 (ln + 1)
def g00 : Rw := fun _ => 0
def τ00 : Rw := fun j => if j = 3 then 1 else 0
/-- what a TEXT of n bytes says: its FAULT or 0, what is told, how many lines -/
def rAll (t : Nat → Nat) (n : Nat) : Nat × Rw × Nat := rLp t n 600 (adv t n g00) (fun _ => 0) τ00 0
theorem vG_w {t : Nat → Nat} {n : Nat} {g : Rw} (h : g 1 ≤ n) (hn : n ≤ 600) : vG n (adv t n g) := by
  have s := spn_le (P := isWs) (t := t) (n := n) (n - g 1) (g 1) h
  have q := tkE_b (t := t) s
  exact ⟨q.1, q.2, hn, tkK_le⟩
theorem g_39w {w : mT} {σ : mS} {t : Nat → Nat} {n : Nat} {g : Rw} (hw : lit w) (ht : ∀ i, t i < 256) (hB : tBy σ t) (h1 : σ.1 2 1 = Int32.ofNat n) (h3 : σ.1 2 3 = Int32.ofNat (g 1)) (h5 : σ.1 2 5 = Int32.ofNat (g 3)) (h6 : σ.1 2 6 = Int32.ofNat (g 4)) (h9 : σ.1 2 9 = Int32.ofNat (g 5)) (hle : g 1 ≤ n) (hn : n ≤ 600) : ∃ σ', frR 2 3 σ σ' ∧ tG σ' t n (adv t n g) ∧ ∀ {D : Nat} {K : Hp → Prop}, 3 ≤ D → (wpV D 39 [.ref 2] (mW w σ) K ↔ K (mW w σ')) := by
  have fr1 : frR 2 3 σ (uI σ 2 2 (Int32.ofNat (g 1))) := frR_I (by omega)
  obtain ⟨σ', f', a', b', c', o', k'⟩ := lp_39 hw ht hn (n - g 1) (g 1) (uI σ 2 2 (Int32.ofNat (g 1))) (by omega) (tBy_R hB fr1) (by rw [uI_1, if_pos ⟨rfl, rfl⟩]) (by rw [uI_1, if_neg (by omega)]; exact h1)
  have ot : ∀ j, j ≠ 2 → j ≠ 3 → j ≠ 4 → σ'.1 2 j = σ.1 2 j := fun j j2 j3 j4 => by rw [o' j j2 j3 j4, uI_1, if_neg (fun q => j2 q.2)]
  refine ⟨σ', frR_tr fr1 f', ⟨tBy_R hB (frR_tr fr1 f'), by rw [ot 1 (by omega) (by omega) (by omega)]; exact h1, a', b', c', by rw [ot 5 (by omega) (by omega) (by omega)]; exact h5, by rw [ot 6 (by omega) (by omega) (by omega)]; exact h6, by rw [ot 9 (by omega) (by omega) (by omega)]; exact h9⟩, fun hD => cV_of (m := 2) (fun d hd Q hQ => ?_) rfl hD⟩
  refine b39_0 ?_
  simp only [↓br_pos, ↓br_neg, ↓rF_I, ↓rF_L, ↓rF_R, ↓rF_N, rO_m, rB_m, ↓rI_m, wI_m, ↓rB2_m, ↓rB3_m, wB2_m, wB3_m, ↓rL_m, wL_m, ↓rQ_m, wQ_m, ↓lI_m, pI_m, pL_m, pR_m, sI_m, sBy_m, sBo_m, sL_m, sQ_m, fst_m, true_and, and_true, tg_some, ln_some, uI_1, uI_2, uL_1, uL_2, uL_3, uQ_1, uQ_2, uQ_3, rv_i, rv_l, rv_n, rv_b0, rv_b1, RMR, ne_eq, reduceCtorEq, not_false_eq_true, Option.getD_some, if_true, if_false, and_self, false_and, and_false, Nat.add_left_cancel_iff, Nat.add_eq_left, Nat.left_eq_add, Nat.one_ne_zero, Nat.reduceAdd, Nat.reduceLT, Nat.reduceLeDiff, Nat.reduceEqDiff, true_implies, false_implies, implies_true, Option.some.injEq, forall_eq', forall_eq, reduceCtorEq, brT, brF, br_s, i_10, i_01, ib_0_2, ib_1_2, tn_0, tn_1, Int32.le_refl, eq_self, rv_bN, rv_iM, RCX 0, RCG 2, RCT 4, RCT 15, RCT 25, RCS 35, RCS 49, RCH 63, RCP 67, RCB 72, RCR 77, RCM 81, RLY, lit_at hw, h3]
  exact k' hd hQ
theorem g_32_15 {w : mT} {σ : mS} {t : Nat → Nat} {n : Nat} {g τ : Rw} {nm : Nat → Int32} (hw : lit w) (ht : ∀ i, t i < 256) (hS : rS σ t n 15 g nm τ) (hV : rV n g τ) (h4 : g 4 ≤ 1) : ∃ σ', frX 15 σ σ' ∧ σ'.1 2 5 = Int32.ofNat (rGap t n g nm τ).1 ∧ σ'.1 15 0 = σ.1 15 0 ∧ ((rGap t n g nm τ).1 = 0 → rS σ' t n 15 (rGap t n g nm τ).2.1 (rGap t n g nm τ).2.2.1 (rGap t n g nm τ).2.2.2 ∧ rV n (rGap t n g nm τ).2.1 (rGap t n g nm τ).2.2.2) ∧ ∀ {D : Nat} {K : Hp → Prop}, 5 ≤ D → (wpV D 32 [.ref 2] (mW w σ) K ↔ K (mW w σ')) := by
  obtain ⟨hG, hN, hT, h7⟩ := hS
  obtain ⟨vg, h03, hv, h5⟩ := hV
  have h50 : σ.1 2 5 = 0 := by rw [hG.2.2.2.2.2.1, h03]; rfl
  have e4 := hG.2.2.2.2.2.2.1
  have vv0 := hv.1
  have vv1 := hv.2.1
  have vv2 := hv.2.2.1
  by_cases a : g 4 = 0
  · have c4 : (Int32.ofNat (g 4) = 0) ↔ True := iff_true_intro ((of_eq0 (by omega)).mpr a)
    obtain ⟨hB, k1, k2, k3, k4, k5, k6, k9⟩ := hG
    have hG2 : tG (uI σ 2 6 1) t n (rSet g 4 1) := by
      refine ⟨⟨hB.1, fun i hi => by rw [uI_1, if_neg (by omega)]; exact hB.2 i hi⟩, ?_, ?_, ?_, ?_, ?_, ?_, ?_⟩
      · rw [uI_1, if_neg (by omega)]; exact k1
      · rw [uI_1, if_neg (by omega), rS_ne (by omega)]; exact k2
      · rw [uI_1, if_neg (by omega), rS_ne (by omega)]; exact k3
      · rw [uI_1, if_neg (by omega), rS_ne (by omega)]; exact k4
      · rw [uI_1, if_neg (by omega), rS_ne (by omega)]; exact k5
      · rw [uI_1, if_pos ⟨rfl, rfl⟩, rS_eq]; rfl
      · rw [uI_1, if_neg (by omega), rS_ne (by omega)]; exact k9
    have vg2 : vG n (rSet g 4 1) := ⟨by rw [rS_ne (by omega), rS_ne (by omega)]; exact vg.1, by rw [rS_ne (by omega)]; exact vg.2.1, vg.2.2.1, by rw [rS_ne (by omega)]; exact vg.2.2.2⟩
    obtain ⟨σ3, f3, F3, -, z3, e3⟩ := g_34 (σ := uI σ 2 6 1) (i := 3) (low := 0) (high := 3) hw ht hG2 vg2 (by rw [rS_ne (by omega)]; exact h03) (by omega)
    have x3 : frX 15 σ σ3 := frX_tr (frX_I (by omega)) (frX_R f3)
    have r3 : ∀ a, 15 ≤ a → a < 25 → σ3.1 a = σ.1 a := fun a h1 h2 => by rw [f3.1 a (by omega)]; exact (uI_ne (by omega)).1
    have s3 : σ3.2.2 2 7 = some 15 := by rw [f3.2]; exact h7
    have T3 : tTold σ3 15 τ := tTold_fr hT (fun a h1 h2 => r3 a (by omega) (by omega))
    by_cases q : toldF t n (rSet g 4 1) 3 0 3 = 0
    · have eR : (rGap t n g nm τ) = (0, gTd t n (rSet g 4 1), nm, rSet τ 3 (nN t (adv t n (rSet g 4 1)))) := by unfold rGap; rw [if_neg (fun z => z a), if_neg (fun z => z q)]
      have w3 := told_v (lo := 0) (hi := 3) rfl rfl (by omega) (by omega) q
      have K3 : tG σ3 t n (gTd t n (rSet g 4 1)) := z3 q
      refine ⟨uI σ3 15 1 (numV t (adv t n (rSet g 4 1))), frX_tr x3 (frX_I (by omega)), by rw [eR, uI_1, if_neg (by omega), F3, q], by rw [uI_1, if_neg (by omega), r3 15 (by omega) (by omega)], fun _ => ?_, fun hD => cV_of (m := 4) (fun d hd Q hQ => ?_) rfl hD⟩
      · rw [eR]
        refine ⟨⟨tG_I K3 (by omega), fun i hi => ?_, ?_, s3⟩, vG_td vg2, ?_, ?_, ?_⟩
        · have hi' : i < g 5 := by
            have hi2 : i < gTd t n (rSet g 4 1) 5 := hi
            rw [gTd_g (by omega), rS_ne (by omega)] at hi2; exact hi2
          rw [uI_1, if_neg (by omega), f3.1 14 (by omega), uI_1, if_neg (by omega)]; exact hN i hi'
        · obtain ⟨h1', h2', h3', h4', h5', h6', h7'⟩ := T3
          show tTold _ 15 (rSet τ 3 (nN t (adv t n (rSet g 4 1))))
          refine ⟨?_, ?_, ?_, ?_, fun l hl => ⟨?_, ?_⟩, fun y hy => ?_, fun s hs => ?_⟩
          · rw [uI_1, if_pos ⟨rfl, rfl⟩, rS_eq]; exact w3.1
          · rw [uI_1, if_neg (by omega), rS_ne (by omega)]; exact h2'
          · rw [uI_1, if_neg (by omega), rS_ne (by omega)]; exact h3'
          · rw [uI_1, if_neg (by omega), rS_ne (by omega)]; exact h4'
          · rw [rS_ne (by omega)] at hl
            rw [uI_1, if_neg (by omega), rS_ne (by omega)]; exact (h5' l hl).1
          · rw [rS_ne (by omega)] at hl
            rw [uI_1, if_neg (by omega), rS_ne (by omega)]; exact (h5' l hl).2
          · rw [rS_ne (by omega)] at hy
            rw [uI_1, if_neg (by omega), rS_ne (by omega)]; exact h6' y hy
          · rw [rS_ne (by omega)] at hs
            rw [uI_1, if_neg (by omega), uI_1, if_neg (by omega), uI_1, if_neg (by omega), uI_1, if_neg (by omega), uI_1, if_neg (by omega), uI_1, if_neg (by omega), rS_ne (by omega), rS_ne (by omega), rS_ne (by omega), rS_ne (by omega), rS_ne (by omega), rS_ne (by omega)]
            exact h7' s hs
        · show gTd t n (rSet g 4 1) 3 = 0
          rw [gTd_g (by omega), rS_ne (by omega)]; exact h03
        · obtain ⟨b1, b2, b3, b4, b5, b6, b7⟩ := hv
          show vTold (rSet τ 3 (nN t (adv t n (rSet g 4 1))))
          refine ⟨by rw [rS_ne (by omega)]; exact b1, by rw [rS_ne (by omega)]; exact b2, by rw [rS_ne (by omega)]; exact b3, by rw [rS_eq]; exact w3.2.2, fun l hl => ?_, fun y hy => ?_, fun s hs => ?_⟩
          · rw [rS_ne (by omega)] at hl
            rw [rS_ne (by omega), rS_ne (by omega)]; exact b5 l hl
          · rw [rS_ne (by omega)] at hy
            rw [rS_ne (by omega)]; exact b6 y hy
          · rw [rS_ne (by omega)] at hs
            rw [rS_ne (by omega), rS_ne (by omega), rS_ne (by omega), rS_ne (by omega), rS_ne (by omega), rS_ne (by omega)]
            exact b7 s hs
        · show gTd t n (rSet g 4 1) 5 = rSet τ 3 (nN t (adv t n (rSet g 4 1))) 0 + rSet τ 3 (nN t (adv t n (rSet g 4 1))) 1 + rSet τ 3 (nN t (adv t n (rSet g 4 1))) 2
          rw [gTd_g (by omega), rS_ne (by omega), rS_ne (by omega), rS_ne (by omega), rS_ne (by omega)]; exact h5
      · have hd1 : 1 ≤ d := by omega
        have hd2 : 2 ≤ d := by omega
        have hd3 : 3 ≤ d := by omega
        have hd4 : 4 ≤ d := by omega
        refine b32_0 ?_
        simp only [↓br_pos, ↓br_neg, ↓rF_I, ↓rF_L, ↓rF_R, ↓rF_N, rO_m, rB_m, ↓rI_m, wI_m, ↓rB2_m, ↓rB3_m, wB2_m, wB3_m, ↓rL_m, wL_m, ↓rQ_m, wQ_m, ↓lI_m, pI_m, pL_m, pR_m, sI_m, sBy_m, sBo_m, sL_m, sQ_m, fst_m, true_and, and_true, tg_some, ln_some, uI_1, uI_2, uL_1, uL_2, uL_3, uQ_1, uQ_2, uQ_3, rv_i, rv_l, rv_n, rv_b0, rv_b1, RMR, ne_eq, reduceCtorEq, not_false_eq_true, Option.getD_some, if_true, if_false, and_self, false_and, and_false, Nat.add_left_cancel_iff, Nat.add_eq_left, Nat.left_eq_add, Nat.one_ne_zero, Nat.reduceAdd, Nat.reduceLT, Nat.reduceLeDiff, Nat.reduceEqDiff, true_implies, false_implies, implies_true, Option.some.injEq, forall_eq', forall_eq, reduceCtorEq, brT, brF, br_s, i_10, i_01, ib_0_2, ib_1_2, tn_0, tn_1, Int32.le_refl, eq_self, rv_bN, rv_iM, RCX 0, RCG 2, RCT 4, RCT 15, RCT 25, RCS 35, RCS 49, RCH 63, RCP 67, RCB 72, RCR 77, RCM 81, RLY, lit_at hw, e4, c4, h7, e3 hd4, q]
        exact hQ
    · have eR : (rGap t n g nm τ) = (toldF t n (rSet g 4 1) 3 0 3, g, nm, τ) := by unfold rGap; rw [if_neg (fun z => z a), if_pos q]
      refine ⟨uI σ3 15 1 (-1), frX_tr x3 (frX_I (by omega)), by rw [eR, uI_1, if_neg (by omega)]; exact F3, by rw [uI_1, if_neg (by omega), r3 15 (by omega) (by omega)], fun z => absurd z (by rw [eR]; exact q), fun hD => cV_of (m := 4) (fun d hd Q hQ => ?_) rfl hD⟩
      have hd1 : 1 ≤ d := by omega
      have hd2 : 2 ≤ d := by omega
      have hd3 : 3 ≤ d := by omega
      have hd4 : 4 ≤ d := by omega
      refine b32_0 ?_
      simp only [↓br_pos, ↓br_neg, ↓rF_I, ↓rF_L, ↓rF_R, ↓rF_N, rO_m, rB_m, ↓rI_m, wI_m, ↓rB2_m, ↓rB3_m, wB2_m, wB3_m, ↓rL_m, wL_m, ↓rQ_m, wQ_m, ↓lI_m, pI_m, pL_m, pR_m, sI_m, sBy_m, sBo_m, sL_m, sQ_m, fst_m, true_and, and_true, tg_some, ln_some, uI_1, uI_2, uL_1, uL_2, uL_3, uQ_1, uQ_2, uQ_3, rv_i, rv_l, rv_n, rv_b0, rv_b1, RMR, ne_eq, reduceCtorEq, not_false_eq_true, Option.getD_some, if_true, if_false, and_self, false_and, and_false, Nat.add_left_cancel_iff, Nat.add_eq_left, Nat.left_eq_add, Nat.one_ne_zero, Nat.reduceAdd, Nat.reduceLT, Nat.reduceLeDiff, Nat.reduceEqDiff, true_implies, false_implies, implies_true, Option.some.injEq, forall_eq', forall_eq, reduceCtorEq, brT, brF, br_s, i_10, i_01, ib_0_2, ib_1_2, tn_0, tn_1, Int32.le_refl, eq_self, rv_bN, rv_iM, RCX 0, RCG 2, RCT 4, RCT 15, RCT 25, RCS 35, RCS 49, RCH 63, RCP 67, RCB 72, RCR 77, RCM 81, RLY, lit_at hw, e4, c4, h7, e3 hd4, q]
      exact hQ
  · have c4 : (Int32.ofNat (g 4) = 0) ↔ False := iff_false_intro (fun q => a ((of_eq0 (by omega)).mp q))
    have eR : (rGap t n g nm τ) = (8 * g 0 + 2, g, nm, τ) := if_pos a
    refine ⟨uI σ 2 5 (8 * Int32.ofNat (g 0) + 2), frX_I (by omega), by rw [eR, uI_1, if_pos ⟨rfl, rfl⟩]; exact f8_of, by rw [uI_1, if_neg (by omega)], fun q => absurd q (by rw [eR]; show ¬ 8 * g 0 + 2 = 0; omega), fun hD => cV_of (m := 4) (fun d hd Q hQ => ?_) rfl hD⟩
    have hd1 : 1 ≤ d := by omega
    have hd2 : 2 ≤ d := by omega
    have hd3 : 3 ≤ d := by omega
    have hd4 : 4 ≤ d := by omega
    refine b32_0 ?_
    simp only [↓br_pos, ↓br_neg, ↓rF_I, ↓rF_L, ↓rF_R, ↓rF_N, rO_m, rB_m, ↓rI_m, wI_m, ↓rB2_m, ↓rB3_m, wB2_m, wB3_m, ↓rL_m, wL_m, ↓rQ_m, wQ_m, ↓lI_m, pI_m, pL_m, pR_m, sI_m, sBy_m, sBo_m, sL_m, sQ_m, fst_m, true_and, and_true, tg_some, ln_some, uI_1, uI_2, uL_1, uL_2, uL_3, uQ_1, uQ_2, uQ_3, rv_i, rv_l, rv_n, rv_b0, rv_b1, RMR, ne_eq, reduceCtorEq, not_false_eq_true, Option.getD_some, if_true, if_false, and_self, false_and, and_false, Nat.add_left_cancel_iff, Nat.add_eq_left, Nat.left_eq_add, Nat.one_ne_zero, Nat.reduceAdd, Nat.reduceLT, Nat.reduceLeDiff, Nat.reduceEqDiff, true_implies, false_implies, implies_true, Option.some.injEq, forall_eq', forall_eq, reduceCtorEq, brT, brF, br_s, i_10, i_01, ib_0_2, ib_1_2, tn_0, tn_1, Int32.le_refl, eq_self, rv_bN, rv_iM, RCX 0, RCG 2, RCT 4, RCT 15, RCT 25, RCS 35, RCS 49, RCH 63, RCP 67, RCB 72, RCR 77, RCM 81, RLY, lit_at hw, e4, c4, g_36 hw hG.2.2.1 h50 hd1]
    exact hQ
theorem rBody_lt {t : Nat → Nat} {n : Nat} {g τ : Rw} {nm : Nat → Int32} (h : vG n g) : (rBody t n g nm τ).1 < 5000 := by
  have h0 := h
  obtain ⟨a, b, c, d⟩ := h
  have va := vG_adv (t := t) h0
  have n1 := nameF_lt (t := t) (nm := nm) va
  unfold rBody
  split
  · unfold rLot
    split
    · show 8 * g 0 + 4 < 5000; omega
    split
    · exact n1
    split
    · exact toldF_lt (vG_nm va)
    split
    · exact toldF_lt (vG_td (vG_nm va))
    show 0 < 5000; omega
  split
  · unfold rPil
    split
    · show 8 * g 0 + 4 < 5000; omega
    split
    · exact n1
    split
    · exact toldF_lt (vG_nm va)
    show 0 < 5000; omega
  split
  · unfold rShp
    split
    · show 8 * g 0 + 4 < 5000; omega
    split
    · exact n1
    split
    · exact toldF_lt (vG_nm va)
    split
    · exact toldF_lt (vG_td (vG_nm va))
    split
    · exact toldF_lt (vG_td (vG_td (vG_nm va)))
    split
    · exact toldF_lt (vG_td (vG_td (vG_td (vG_nm va))))
    split
    · exact toldF_lt (vG_td (vG_td (vG_td (vG_td (vG_nm va)))))
    split
    · show 0 < 5000; omega
    split
    · exact toldF_lt (vG_td (vG_td (vG_td (vG_td (vG_td (vG_nm va))))))
    show 0 < 5000; omega
  split
  · unfold rGap
    split
    · show 8 * g 0 + 2 < 5000; omega
    split
    · exact toldF_lt ⟨by rw [rS_ne (by omega), rS_ne (by omega)]; exact a, by rw [rS_ne (by omega)]; exact b, c, by rw [rS_ne (by omega)]; exact d⟩
    show 0 < 5000; omega
  show 8 * g 0 + 1 < 5000; omega
theorem rBody_4 {t : Nat → Nat} {n : Nat} {g τ : Rw} {nm : Nat → Int32} (h : g 4 ≤ 1) : (rBody t n g nm τ).2.1 4 ≤ 1 := by
  unfold rBody
  split
  · rw [rLot_4]; exact h
  split
  · rw [rPil_4]; exact h
  split
  · rw [rShp_4]; exact h
  split
  · exact rGap_4 h
  exact h
theorem rLin_4 {t : Nat → Nat} {n : Nat} {g τ : Rw} {nm : Nat → Int32} (h : g 4 ≤ 1) : (rLin t n g nm τ).2.1 4 ≤ 1 := by
  unfold rLin
  split
  · exact rBody_4 h
  split
  · show adv t n (rBody t n g nm τ).2.1 4 ≤ 1
    rw [adv_g (by omega)]; exact rBody_4 h
  exact rBody_4 h
theorem rLin_lt {t : Nat → Nat} {n : Nat} {g τ : Rw} {nm : Nat → Int32} (h : vG n g) (h2 : (rBody t n g nm τ).1 = 0 → (rBody t n g nm τ).2.1 0 ≤ 600) : (rLin t n g nm τ).1 < 5000 := by
  have b := rBody_lt (t := t) (τ := τ) (nm := nm) h
  unfold rLin
  split
  · exact b
  rename_i z
  split
  · show 0 < 5000; omega
  have := h2 (Decidable.not_not.mp z)
  show 8 * (rBody t n g nm τ).2.1 0 + 1 < 5000
  omega
theorem g_28_15 {w : mT} {σ : mS} {t : Nat → Nat} {n : Nat} {g τ : Rw} {nm : Nat → Int32} (hw : lit w) (ht : ∀ i, t i < 256) (hS : rS σ t n 15 g nm τ) (hV : rV n g τ) (h4 : g 4 ≤ 1) : ∃ σ', frX 15 σ σ' ∧ σ'.1 2 5 = Int32.ofNat (rLin t n g nm τ).1 ∧ σ'.1 15 0 = σ.1 15 0 ∧ ((rLin t n g nm τ).1 = 0 → rS σ' t n 15 (rLin t n g nm τ).2.1 (rLin t n g nm τ).2.2.1 (rLin t n g nm τ).2.2.2 ∧ rV n (rLin t n g nm τ).2.1 (rLin t n g nm τ).2.2.2) ∧ ∀ {D : Nat} {K : Hp → Prop}, 6 ≤ D → (wpV D 28 [.ref 2] (mW w σ) K ↔ K (mW w σ')) := by
  have hG := hS.1
  have vg := hV.1
  have h03 := hV.2.1
  have h50 : σ.1 2 5 = 0 := by rw [hG.2.2.2.2.2.1, h03]; rfl
  by_cases h0 : sayP t g 0
  · have zz0 : iB (sayP t g 0) = 1 := iB_t h0
    have eB : (rBody t n g nm τ) = rLot t n g nm τ := by unfold rBody; rw [if_pos h0]
    obtain ⟨σ1, x1, F1, L1, z1, e1⟩ := g_29_15 hw ht hS hV
    rw [← eB] at F1 z1
    by_cases z : (rBody t n g nm τ).1 = 0
    · have f0 : σ1.1 2 5 = 0 := by rw [F1, z]; rfl
      obtain ⟨S1, V1⟩ := z1 z
      by_cases y : (rBody t n g nm τ).2.1 2 = 3
      · have c3 : (Int32.ofNat ((rBody t n g nm τ).2.1 2) = (3 : Int32)) ↔ True := iff_true_intro (by rw [y]; rfl)
        have eR : (rLin t n g nm τ) = (0, adv t n (rBody t n g nm τ).2.1, (rBody t n g nm τ).2.2) := by unfold rLin; rw [if_neg (fun q => q z), if_pos y]
        obtain ⟨σ2, f2, t2, e2⟩ := g_39 hw ht S1.1 V1.1
        refine ⟨σ2, frX_tr x1 (frX_R f2), by rw [eR, t2.2.2.2.2.2.1, adv_g (by omega), V1.2.1], by rw [f2.1 15 (by omega)]; exact L1, fun _ => ?_, fun hD => cV_of (m := 5) (fun d hd Q hQ => ?_) rfl hD⟩
        · rw [eR]
          refine ⟨⟨t2, fun i hi => ?_, tTold_R S1.2.2.1 f2 (by omega), by rw [f2.2]; exact S1.2.2.2⟩, vG_adv V1.1, ?_, V1.2.2.1, ?_⟩
          · have hi2 : i < adv t n (rBody t n g nm τ).2.1 5 := hi
            rw [adv_g (by omega)] at hi2
            rw [f2.1 14 (by omega)]; exact S1.2.1 i hi2
          · show adv t n (rBody t n g nm τ).2.1 3 = 0
            rw [adv_g (by omega)]; exact V1.2.1
          · show adv t n (rBody t n g nm τ).2.1 5 = _
            rw [adv_g (by omega)]; exact V1.2.2.2
        · have hd1 : 1 ≤ d := by omega
          have hd2 : 2 ≤ d := by omega
          have hd3 : 3 ≤ d := by omega
          have hd4 : 4 ≤ d := by omega
          have hd5 : 5 ≤ d := by omega
          have k4 := S1.1.2.2.2.2.1
          refine b28_0 ?_
          simp only [↓br_pos, ↓br_neg, ↓rF_I, ↓rF_L, ↓rF_R, ↓rF_N, rO_m, rB_m, ↓rI_m, wI_m, ↓rB2_m, ↓rB3_m, wB2_m, wB3_m, ↓rL_m, wL_m, ↓rQ_m, wQ_m, ↓lI_m, pI_m, pL_m, pR_m, sI_m, sBy_m, sBo_m, sL_m, sQ_m, fst_m, true_and, and_true, tg_some, ln_some, uI_1, uI_2, uL_1, uL_2, uL_3, uQ_1, uQ_2, uQ_3, rv_i, rv_l, rv_n, rv_b0, rv_b1, RMR, ne_eq, reduceCtorEq, not_false_eq_true, Option.getD_some, if_true, if_false, and_self, false_and, and_false, Nat.add_left_cancel_iff, Nat.add_eq_left, Nat.left_eq_add, Nat.one_ne_zero, Nat.reduceAdd, Nat.reduceLT, Nat.reduceLeDiff, Nat.reduceEqDiff, true_implies, false_implies, implies_true, Option.some.injEq, forall_eq', forall_eq, reduceCtorEq, brT, brF, br_s, i_10, i_01, ib_0_2, ib_1_2, tn_0, tn_1, Int32.le_refl, eq_self, rv_bN, rv_iM, RCX 0, RCG 2, RCT 4, RCT 15, RCT 25, RCS 35, RCS 49, RCH 63, RCP 67, RCB 72, RCR 77, RCM 81, RLY, lit_at hw, g_37 (i := 0) hw hG vg (by omega) hd1, zz0, e1 hd5, f0, k4, c3, e2 hd3]
          exact hQ
      · have c3 : (Int32.ofNat ((rBody t n g nm τ).2.1 2) = (3 : Int32)) ↔ False := iff_false_intro (fun q => y ((of_inj (b := 3) (by have := V1.1.2.2.2; omega) (by omega)).mp q))
        have eR : (rLin t n g nm τ) = (8 * (rBody t n g nm τ).2.1 0 + 1, (rBody t n g nm τ).2) := by unfold rLin; rw [if_neg (fun q => q z), if_neg y]
        refine ⟨uI σ1 2 5 (8 * Int32.ofNat ((rBody t n g nm τ).2.1 0) + 1), frX_tr x1 (frX_I (by omega)), by rw [eR, uI_1, if_pos ⟨rfl, rfl⟩]; exact f8_of, by rw [uI_1, if_neg (by omega)]; exact L1, fun q => absurd q (by rw [eR]; show ¬ 8 * (rBody t n g nm τ).2.1 0 + 1 = 0; omega), fun hD => cV_of (m := 5) (fun d hd Q hQ => ?_) rfl hD⟩
        have hd1 : 1 ≤ d := by omega
        have hd2 : 2 ≤ d := by omega
        have hd3 : 3 ≤ d := by omega
        have hd4 : 4 ≤ d := by omega
        have hd5 : 5 ≤ d := by omega
        have k4 := S1.1.2.2.2.2.1
        refine b28_0 ?_
        simp only [↓br_pos, ↓br_neg, ↓rF_I, ↓rF_L, ↓rF_R, ↓rF_N, rO_m, rB_m, ↓rI_m, wI_m, ↓rB2_m, ↓rB3_m, wB2_m, wB3_m, ↓rL_m, wL_m, ↓rQ_m, wQ_m, ↓lI_m, pI_m, pL_m, pR_m, sI_m, sBy_m, sBo_m, sL_m, sQ_m, fst_m, true_and, and_true, tg_some, ln_some, uI_1, uI_2, uL_1, uL_2, uL_3, uQ_1, uQ_2, uQ_3, rv_i, rv_l, rv_n, rv_b0, rv_b1, RMR, ne_eq, reduceCtorEq, not_false_eq_true, Option.getD_some, if_true, if_false, and_self, false_and, and_false, Nat.add_left_cancel_iff, Nat.add_eq_left, Nat.left_eq_add, Nat.one_ne_zero, Nat.reduceAdd, Nat.reduceLT, Nat.reduceLeDiff, Nat.reduceEqDiff, true_implies, false_implies, implies_true, Option.some.injEq, forall_eq', forall_eq, reduceCtorEq, brT, brF, br_s, i_10, i_01, ib_0_2, ib_1_2, tn_0, tn_1, Int32.le_refl, eq_self, rv_bN, rv_iM, RCX 0, RCG 2, RCT 4, RCT 15, RCT 25, RCS 35, RCS 49, RCH 63, RCP 67, RCB 72, RCR 77, RCM 81, RLY, lit_at hw, g_37 (i := 0) hw hG vg (by omega) hd1, zz0, e1 hd5, f0, k4, c3, g_36 hw S1.1.2.2.1 f0 hd1]
        exact hQ
    · have fl : (rBody t n g nm τ).1 < 5000 := rBody_lt vg
      have f0 : σ1.1 2 5 ≠ 0 := f8_ne F1 z (by omega)
      have eR : (rLin t n g nm τ) = (rBody t n g nm τ) := by unfold rLin; rw [if_pos z]
      refine ⟨σ1, x1, by rw [eR]; exact F1, L1, fun q => absurd q (by rw [eR]; exact z), fun hD => cV_of (m := 5) (fun d hd Q hQ => ?_) rfl hD⟩
      have hd1 : 1 ≤ d := by omega
      have hd2 : 2 ≤ d := by omega
      have hd3 : 3 ≤ d := by omega
      have hd4 : 4 ≤ d := by omega
      have hd5 : 5 ≤ d := by omega
      refine b28_0 ?_
      simp only [↓br_pos, ↓br_neg, ↓rF_I, ↓rF_L, ↓rF_R, ↓rF_N, rO_m, rB_m, ↓rI_m, wI_m, ↓rB2_m, ↓rB3_m, wB2_m, wB3_m, ↓rL_m, wL_m, ↓rQ_m, wQ_m, ↓lI_m, pI_m, pL_m, pR_m, sI_m, sBy_m, sBo_m, sL_m, sQ_m, fst_m, true_and, and_true, tg_some, ln_some, uI_1, uI_2, uL_1, uL_2, uL_3, uQ_1, uQ_2, uQ_3, rv_i, rv_l, rv_n, rv_b0, rv_b1, RMR, ne_eq, reduceCtorEq, not_false_eq_true, Option.getD_some, if_true, if_false, and_self, false_and, and_false, Nat.add_left_cancel_iff, Nat.add_eq_left, Nat.left_eq_add, Nat.one_ne_zero, Nat.reduceAdd, Nat.reduceLT, Nat.reduceLeDiff, Nat.reduceEqDiff, true_implies, false_implies, implies_true, Option.some.injEq, forall_eq', forall_eq, reduceCtorEq, brT, brF, br_s, i_10, i_01, ib_0_2, ib_1_2, tn_0, tn_1, Int32.le_refl, eq_self, rv_bN, rv_iM, RCX 0, RCG 2, RCT 4, RCT 15, RCT 25, RCS 35, RCS 49, RCH 63, RCP 67, RCB 72, RCR 77, RCM 81, RLY, lit_at hw, g_37 (i := 0) hw hG vg (by omega) hd1, zz0, e1 hd5, f0, g_36n hw f0 hd1]
      exact hQ
  have zz0 : iB (sayP t g 0) = 0 := iB_f h0
  by_cases h1 : sayP t g 1
  · have zz1 : iB (sayP t g 1) = 1 := iB_t h1
    have eB : (rBody t n g nm τ) = rPil t n g nm τ := by unfold rBody; rw [if_neg h0, if_pos h1]
    obtain ⟨σ1, x1, F1, L1, z1, e1⟩ := g_30_15 hw ht hS hV
    rw [← eB] at F1 z1
    by_cases z : (rBody t n g nm τ).1 = 0
    · have f0 : σ1.1 2 5 = 0 := by rw [F1, z]; rfl
      obtain ⟨S1, V1⟩ := z1 z
      by_cases y : (rBody t n g nm τ).2.1 2 = 3
      · have c3 : (Int32.ofNat ((rBody t n g nm τ).2.1 2) = (3 : Int32)) ↔ True := iff_true_intro (by rw [y]; rfl)
        have eR : (rLin t n g nm τ) = (0, adv t n (rBody t n g nm τ).2.1, (rBody t n g nm τ).2.2) := by unfold rLin; rw [if_neg (fun q => q z), if_pos y]
        obtain ⟨σ2, f2, t2, e2⟩ := g_39 hw ht S1.1 V1.1
        refine ⟨σ2, frX_tr x1 (frX_R f2), by rw [eR, t2.2.2.2.2.2.1, adv_g (by omega), V1.2.1], by rw [f2.1 15 (by omega)]; exact L1, fun _ => ?_, fun hD => cV_of (m := 5) (fun d hd Q hQ => ?_) rfl hD⟩
        · rw [eR]
          refine ⟨⟨t2, fun i hi => ?_, tTold_R S1.2.2.1 f2 (by omega), by rw [f2.2]; exact S1.2.2.2⟩, vG_adv V1.1, ?_, V1.2.2.1, ?_⟩
          · have hi2 : i < adv t n (rBody t n g nm τ).2.1 5 := hi
            rw [adv_g (by omega)] at hi2
            rw [f2.1 14 (by omega)]; exact S1.2.1 i hi2
          · show adv t n (rBody t n g nm τ).2.1 3 = 0
            rw [adv_g (by omega)]; exact V1.2.1
          · show adv t n (rBody t n g nm τ).2.1 5 = _
            rw [adv_g (by omega)]; exact V1.2.2.2
        · have hd1 : 1 ≤ d := by omega
          have hd2 : 2 ≤ d := by omega
          have hd3 : 3 ≤ d := by omega
          have hd4 : 4 ≤ d := by omega
          have hd5 : 5 ≤ d := by omega
          have k4 := S1.1.2.2.2.2.1
          refine b28_0 ?_
          simp only [↓br_pos, ↓br_neg, ↓rF_I, ↓rF_L, ↓rF_R, ↓rF_N, rO_m, rB_m, ↓rI_m, wI_m, ↓rB2_m, ↓rB3_m, wB2_m, wB3_m, ↓rL_m, wL_m, ↓rQ_m, wQ_m, ↓lI_m, pI_m, pL_m, pR_m, sI_m, sBy_m, sBo_m, sL_m, sQ_m, fst_m, true_and, and_true, tg_some, ln_some, uI_1, uI_2, uL_1, uL_2, uL_3, uQ_1, uQ_2, uQ_3, rv_i, rv_l, rv_n, rv_b0, rv_b1, RMR, ne_eq, reduceCtorEq, not_false_eq_true, Option.getD_some, if_true, if_false, and_self, false_and, and_false, Nat.add_left_cancel_iff, Nat.add_eq_left, Nat.left_eq_add, Nat.one_ne_zero, Nat.reduceAdd, Nat.reduceLT, Nat.reduceLeDiff, Nat.reduceEqDiff, true_implies, false_implies, implies_true, Option.some.injEq, forall_eq', forall_eq, reduceCtorEq, brT, brF, br_s, i_10, i_01, ib_0_2, ib_1_2, tn_0, tn_1, Int32.le_refl, eq_self, rv_bN, rv_iM, RCX 0, RCG 2, RCT 4, RCT 15, RCT 25, RCS 35, RCS 49, RCH 63, RCP 67, RCB 72, RCR 77, RCM 81, RLY, lit_at hw, g_37 (i := 0) hw hG vg (by omega) hd1, zz0, g_37 (i := 1) hw hG vg (by omega) hd1, zz1, e1 hd5, f0, k4, c3, e2 hd3]
          exact hQ
      · have c3 : (Int32.ofNat ((rBody t n g nm τ).2.1 2) = (3 : Int32)) ↔ False := iff_false_intro (fun q => y ((of_inj (b := 3) (by have := V1.1.2.2.2; omega) (by omega)).mp q))
        have eR : (rLin t n g nm τ) = (8 * (rBody t n g nm τ).2.1 0 + 1, (rBody t n g nm τ).2) := by unfold rLin; rw [if_neg (fun q => q z), if_neg y]
        refine ⟨uI σ1 2 5 (8 * Int32.ofNat ((rBody t n g nm τ).2.1 0) + 1), frX_tr x1 (frX_I (by omega)), by rw [eR, uI_1, if_pos ⟨rfl, rfl⟩]; exact f8_of, by rw [uI_1, if_neg (by omega)]; exact L1, fun q => absurd q (by rw [eR]; show ¬ 8 * (rBody t n g nm τ).2.1 0 + 1 = 0; omega), fun hD => cV_of (m := 5) (fun d hd Q hQ => ?_) rfl hD⟩
        have hd1 : 1 ≤ d := by omega
        have hd2 : 2 ≤ d := by omega
        have hd3 : 3 ≤ d := by omega
        have hd4 : 4 ≤ d := by omega
        have hd5 : 5 ≤ d := by omega
        have k4 := S1.1.2.2.2.2.1
        refine b28_0 ?_
        simp only [↓br_pos, ↓br_neg, ↓rF_I, ↓rF_L, ↓rF_R, ↓rF_N, rO_m, rB_m, ↓rI_m, wI_m, ↓rB2_m, ↓rB3_m, wB2_m, wB3_m, ↓rL_m, wL_m, ↓rQ_m, wQ_m, ↓lI_m, pI_m, pL_m, pR_m, sI_m, sBy_m, sBo_m, sL_m, sQ_m, fst_m, true_and, and_true, tg_some, ln_some, uI_1, uI_2, uL_1, uL_2, uL_3, uQ_1, uQ_2, uQ_3, rv_i, rv_l, rv_n, rv_b0, rv_b1, RMR, ne_eq, reduceCtorEq, not_false_eq_true, Option.getD_some, if_true, if_false, and_self, false_and, and_false, Nat.add_left_cancel_iff, Nat.add_eq_left, Nat.left_eq_add, Nat.one_ne_zero, Nat.reduceAdd, Nat.reduceLT, Nat.reduceLeDiff, Nat.reduceEqDiff, true_implies, false_implies, implies_true, Option.some.injEq, forall_eq', forall_eq, reduceCtorEq, brT, brF, br_s, i_10, i_01, ib_0_2, ib_1_2, tn_0, tn_1, Int32.le_refl, eq_self, rv_bN, rv_iM, RCX 0, RCG 2, RCT 4, RCT 15, RCT 25, RCS 35, RCS 49, RCH 63, RCP 67, RCB 72, RCR 77, RCM 81, RLY, lit_at hw, g_37 (i := 0) hw hG vg (by omega) hd1, zz0, g_37 (i := 1) hw hG vg (by omega) hd1, zz1, e1 hd5, f0, k4, c3, g_36 hw S1.1.2.2.1 f0 hd1]
        exact hQ
    · have fl : (rBody t n g nm τ).1 < 5000 := rBody_lt vg
      have f0 : σ1.1 2 5 ≠ 0 := f8_ne F1 z (by omega)
      have eR : (rLin t n g nm τ) = (rBody t n g nm τ) := by unfold rLin; rw [if_pos z]
      refine ⟨σ1, x1, by rw [eR]; exact F1, L1, fun q => absurd q (by rw [eR]; exact z), fun hD => cV_of (m := 5) (fun d hd Q hQ => ?_) rfl hD⟩
      have hd1 : 1 ≤ d := by omega
      have hd2 : 2 ≤ d := by omega
      have hd3 : 3 ≤ d := by omega
      have hd4 : 4 ≤ d := by omega
      have hd5 : 5 ≤ d := by omega
      refine b28_0 ?_
      simp only [↓br_pos, ↓br_neg, ↓rF_I, ↓rF_L, ↓rF_R, ↓rF_N, rO_m, rB_m, ↓rI_m, wI_m, ↓rB2_m, ↓rB3_m, wB2_m, wB3_m, ↓rL_m, wL_m, ↓rQ_m, wQ_m, ↓lI_m, pI_m, pL_m, pR_m, sI_m, sBy_m, sBo_m, sL_m, sQ_m, fst_m, true_and, and_true, tg_some, ln_some, uI_1, uI_2, uL_1, uL_2, uL_3, uQ_1, uQ_2, uQ_3, rv_i, rv_l, rv_n, rv_b0, rv_b1, RMR, ne_eq, reduceCtorEq, not_false_eq_true, Option.getD_some, if_true, if_false, and_self, false_and, and_false, Nat.add_left_cancel_iff, Nat.add_eq_left, Nat.left_eq_add, Nat.one_ne_zero, Nat.reduceAdd, Nat.reduceLT, Nat.reduceLeDiff, Nat.reduceEqDiff, true_implies, false_implies, implies_true, Option.some.injEq, forall_eq', forall_eq, reduceCtorEq, brT, brF, br_s, i_10, i_01, ib_0_2, ib_1_2, tn_0, tn_1, Int32.le_refl, eq_self, rv_bN, rv_iM, RCX 0, RCG 2, RCT 4, RCT 15, RCT 25, RCS 35, RCS 49, RCH 63, RCP 67, RCB 72, RCR 77, RCM 81, RLY, lit_at hw, g_37 (i := 0) hw hG vg (by omega) hd1, zz0, g_37 (i := 1) hw hG vg (by omega) hd1, zz1, e1 hd5, f0, g_36n hw f0 hd1]
      exact hQ
  have zz1 : iB (sayP t g 1) = 0 := iB_f h1
  by_cases h2 : sayP t g 2
  · have zz2 : iB (sayP t g 2) = 1 := iB_t h2
    have eB : (rBody t n g nm τ) = rShp t n g nm τ := by unfold rBody; rw [if_neg h0, if_neg h1, if_pos h2]
    obtain ⟨σ1, x1, F1, L1, z1, e1⟩ := g_31_15 hw ht hS hV
    rw [← eB] at F1 z1
    by_cases z : (rBody t n g nm τ).1 = 0
    · have f0 : σ1.1 2 5 = 0 := by rw [F1, z]; rfl
      obtain ⟨S1, V1⟩ := z1 z
      by_cases y : (rBody t n g nm τ).2.1 2 = 3
      · have c3 : (Int32.ofNat ((rBody t n g nm τ).2.1 2) = (3 : Int32)) ↔ True := iff_true_intro (by rw [y]; rfl)
        have eR : (rLin t n g nm τ) = (0, adv t n (rBody t n g nm τ).2.1, (rBody t n g nm τ).2.2) := by unfold rLin; rw [if_neg (fun q => q z), if_pos y]
        obtain ⟨σ2, f2, t2, e2⟩ := g_39 hw ht S1.1 V1.1
        refine ⟨σ2, frX_tr x1 (frX_R f2), by rw [eR, t2.2.2.2.2.2.1, adv_g (by omega), V1.2.1], by rw [f2.1 15 (by omega)]; exact L1, fun _ => ?_, fun hD => cV_of (m := 5) (fun d hd Q hQ => ?_) rfl hD⟩
        · rw [eR]
          refine ⟨⟨t2, fun i hi => ?_, tTold_R S1.2.2.1 f2 (by omega), by rw [f2.2]; exact S1.2.2.2⟩, vG_adv V1.1, ?_, V1.2.2.1, ?_⟩
          · have hi2 : i < adv t n (rBody t n g nm τ).2.1 5 := hi
            rw [adv_g (by omega)] at hi2
            rw [f2.1 14 (by omega)]; exact S1.2.1 i hi2
          · show adv t n (rBody t n g nm τ).2.1 3 = 0
            rw [adv_g (by omega)]; exact V1.2.1
          · show adv t n (rBody t n g nm τ).2.1 5 = _
            rw [adv_g (by omega)]; exact V1.2.2.2
        · have hd1 : 1 ≤ d := by omega
          have hd2 : 2 ≤ d := by omega
          have hd3 : 3 ≤ d := by omega
          have hd4 : 4 ≤ d := by omega
          have hd5 : 5 ≤ d := by omega
          have k4 := S1.1.2.2.2.2.1
          refine b28_0 ?_
          simp only [↓br_pos, ↓br_neg, ↓rF_I, ↓rF_L, ↓rF_R, ↓rF_N, rO_m, rB_m, ↓rI_m, wI_m, ↓rB2_m, ↓rB3_m, wB2_m, wB3_m, ↓rL_m, wL_m, ↓rQ_m, wQ_m, ↓lI_m, pI_m, pL_m, pR_m, sI_m, sBy_m, sBo_m, sL_m, sQ_m, fst_m, true_and, and_true, tg_some, ln_some, uI_1, uI_2, uL_1, uL_2, uL_3, uQ_1, uQ_2, uQ_3, rv_i, rv_l, rv_n, rv_b0, rv_b1, RMR, ne_eq, reduceCtorEq, not_false_eq_true, Option.getD_some, if_true, if_false, and_self, false_and, and_false, Nat.add_left_cancel_iff, Nat.add_eq_left, Nat.left_eq_add, Nat.one_ne_zero, Nat.reduceAdd, Nat.reduceLT, Nat.reduceLeDiff, Nat.reduceEqDiff, true_implies, false_implies, implies_true, Option.some.injEq, forall_eq', forall_eq, reduceCtorEq, brT, brF, br_s, i_10, i_01, ib_0_2, ib_1_2, tn_0, tn_1, Int32.le_refl, eq_self, rv_bN, rv_iM, RCX 0, RCG 2, RCT 4, RCT 15, RCT 25, RCS 35, RCS 49, RCH 63, RCP 67, RCB 72, RCR 77, RCM 81, RLY, lit_at hw, g_37 (i := 0) hw hG vg (by omega) hd1, zz0, g_37 (i := 1) hw hG vg (by omega) hd1, zz1, g_37 (i := 2) hw hG vg (by omega) hd1, zz2, e1 hd5, f0, k4, c3, e2 hd3]
          exact hQ
      · have c3 : (Int32.ofNat ((rBody t n g nm τ).2.1 2) = (3 : Int32)) ↔ False := iff_false_intro (fun q => y ((of_inj (b := 3) (by have := V1.1.2.2.2; omega) (by omega)).mp q))
        have eR : (rLin t n g nm τ) = (8 * (rBody t n g nm τ).2.1 0 + 1, (rBody t n g nm τ).2) := by unfold rLin; rw [if_neg (fun q => q z), if_neg y]
        refine ⟨uI σ1 2 5 (8 * Int32.ofNat ((rBody t n g nm τ).2.1 0) + 1), frX_tr x1 (frX_I (by omega)), by rw [eR, uI_1, if_pos ⟨rfl, rfl⟩]; exact f8_of, by rw [uI_1, if_neg (by omega)]; exact L1, fun q => absurd q (by rw [eR]; show ¬ 8 * (rBody t n g nm τ).2.1 0 + 1 = 0; omega), fun hD => cV_of (m := 5) (fun d hd Q hQ => ?_) rfl hD⟩
        have hd1 : 1 ≤ d := by omega
        have hd2 : 2 ≤ d := by omega
        have hd3 : 3 ≤ d := by omega
        have hd4 : 4 ≤ d := by omega
        have hd5 : 5 ≤ d := by omega
        have k4 := S1.1.2.2.2.2.1
        refine b28_0 ?_
        simp only [↓br_pos, ↓br_neg, ↓rF_I, ↓rF_L, ↓rF_R, ↓rF_N, rO_m, rB_m, ↓rI_m, wI_m, ↓rB2_m, ↓rB3_m, wB2_m, wB3_m, ↓rL_m, wL_m, ↓rQ_m, wQ_m, ↓lI_m, pI_m, pL_m, pR_m, sI_m, sBy_m, sBo_m, sL_m, sQ_m, fst_m, true_and, and_true, tg_some, ln_some, uI_1, uI_2, uL_1, uL_2, uL_3, uQ_1, uQ_2, uQ_3, rv_i, rv_l, rv_n, rv_b0, rv_b1, RMR, ne_eq, reduceCtorEq, not_false_eq_true, Option.getD_some, if_true, if_false, and_self, false_and, and_false, Nat.add_left_cancel_iff, Nat.add_eq_left, Nat.left_eq_add, Nat.one_ne_zero, Nat.reduceAdd, Nat.reduceLT, Nat.reduceLeDiff, Nat.reduceEqDiff, true_implies, false_implies, implies_true, Option.some.injEq, forall_eq', forall_eq, reduceCtorEq, brT, brF, br_s, i_10, i_01, ib_0_2, ib_1_2, tn_0, tn_1, Int32.le_refl, eq_self, rv_bN, rv_iM, RCX 0, RCG 2, RCT 4, RCT 15, RCT 25, RCS 35, RCS 49, RCH 63, RCP 67, RCB 72, RCR 77, RCM 81, RLY, lit_at hw, g_37 (i := 0) hw hG vg (by omega) hd1, zz0, g_37 (i := 1) hw hG vg (by omega) hd1, zz1, g_37 (i := 2) hw hG vg (by omega) hd1, zz2, e1 hd5, f0, k4, c3, g_36 hw S1.1.2.2.1 f0 hd1]
        exact hQ
    · have fl : (rBody t n g nm τ).1 < 5000 := rBody_lt vg
      have f0 : σ1.1 2 5 ≠ 0 := f8_ne F1 z (by omega)
      have eR : (rLin t n g nm τ) = (rBody t n g nm τ) := by unfold rLin; rw [if_pos z]
      refine ⟨σ1, x1, by rw [eR]; exact F1, L1, fun q => absurd q (by rw [eR]; exact z), fun hD => cV_of (m := 5) (fun d hd Q hQ => ?_) rfl hD⟩
      have hd1 : 1 ≤ d := by omega
      have hd2 : 2 ≤ d := by omega
      have hd3 : 3 ≤ d := by omega
      have hd4 : 4 ≤ d := by omega
      have hd5 : 5 ≤ d := by omega
      refine b28_0 ?_
      simp only [↓br_pos, ↓br_neg, ↓rF_I, ↓rF_L, ↓rF_R, ↓rF_N, rO_m, rB_m, ↓rI_m, wI_m, ↓rB2_m, ↓rB3_m, wB2_m, wB3_m, ↓rL_m, wL_m, ↓rQ_m, wQ_m, ↓lI_m, pI_m, pL_m, pR_m, sI_m, sBy_m, sBo_m, sL_m, sQ_m, fst_m, true_and, and_true, tg_some, ln_some, uI_1, uI_2, uL_1, uL_2, uL_3, uQ_1, uQ_2, uQ_3, rv_i, rv_l, rv_n, rv_b0, rv_b1, RMR, ne_eq, reduceCtorEq, not_false_eq_true, Option.getD_some, if_true, if_false, and_self, false_and, and_false, Nat.add_left_cancel_iff, Nat.add_eq_left, Nat.left_eq_add, Nat.one_ne_zero, Nat.reduceAdd, Nat.reduceLT, Nat.reduceLeDiff, Nat.reduceEqDiff, true_implies, false_implies, implies_true, Option.some.injEq, forall_eq', forall_eq, reduceCtorEq, brT, brF, br_s, i_10, i_01, ib_0_2, ib_1_2, tn_0, tn_1, Int32.le_refl, eq_self, rv_bN, rv_iM, RCX 0, RCG 2, RCT 4, RCT 15, RCT 25, RCS 35, RCS 49, RCH 63, RCP 67, RCB 72, RCR 77, RCM 81, RLY, lit_at hw, g_37 (i := 0) hw hG vg (by omega) hd1, zz0, g_37 (i := 1) hw hG vg (by omega) hd1, zz1, g_37 (i := 2) hw hG vg (by omega) hd1, zz2, e1 hd5, f0, g_36n hw f0 hd1]
      exact hQ
  have zz2 : iB (sayP t g 2) = 0 := iB_f h2
  by_cases h3 : sayP t g 3
  · have zz3 : iB (sayP t g 3) = 1 := iB_t h3
    have eB : (rBody t n g nm τ) = rGap t n g nm τ := by unfold rBody; rw [if_neg h0, if_neg h1, if_neg h2, if_pos h3]
    obtain ⟨σ1, x1, F1, L1, z1, e1⟩ := g_32_15 hw ht hS hV h4
    rw [← eB] at F1 z1
    by_cases z : (rBody t n g nm τ).1 = 0
    · have f0 : σ1.1 2 5 = 0 := by rw [F1, z]; rfl
      obtain ⟨S1, V1⟩ := z1 z
      by_cases y : (rBody t n g nm τ).2.1 2 = 3
      · have c3 : (Int32.ofNat ((rBody t n g nm τ).2.1 2) = (3 : Int32)) ↔ True := iff_true_intro (by rw [y]; rfl)
        have eR : (rLin t n g nm τ) = (0, adv t n (rBody t n g nm τ).2.1, (rBody t n g nm τ).2.2) := by unfold rLin; rw [if_neg (fun q => q z), if_pos y]
        obtain ⟨σ2, f2, t2, e2⟩ := g_39 hw ht S1.1 V1.1
        refine ⟨σ2, frX_tr x1 (frX_R f2), by rw [eR, t2.2.2.2.2.2.1, adv_g (by omega), V1.2.1], by rw [f2.1 15 (by omega)]; exact L1, fun _ => ?_, fun hD => cV_of (m := 5) (fun d hd Q hQ => ?_) rfl hD⟩
        · rw [eR]
          refine ⟨⟨t2, fun i hi => ?_, tTold_R S1.2.2.1 f2 (by omega), by rw [f2.2]; exact S1.2.2.2⟩, vG_adv V1.1, ?_, V1.2.2.1, ?_⟩
          · have hi2 : i < adv t n (rBody t n g nm τ).2.1 5 := hi
            rw [adv_g (by omega)] at hi2
            rw [f2.1 14 (by omega)]; exact S1.2.1 i hi2
          · show adv t n (rBody t n g nm τ).2.1 3 = 0
            rw [adv_g (by omega)]; exact V1.2.1
          · show adv t n (rBody t n g nm τ).2.1 5 = _
            rw [adv_g (by omega)]; exact V1.2.2.2
        · have hd1 : 1 ≤ d := by omega
          have hd2 : 2 ≤ d := by omega
          have hd3 : 3 ≤ d := by omega
          have hd4 : 4 ≤ d := by omega
          have hd5 : 5 ≤ d := by omega
          have k4 := S1.1.2.2.2.2.1
          refine b28_0 ?_
          simp only [↓br_pos, ↓br_neg, ↓rF_I, ↓rF_L, ↓rF_R, ↓rF_N, rO_m, rB_m, ↓rI_m, wI_m, ↓rB2_m, ↓rB3_m, wB2_m, wB3_m, ↓rL_m, wL_m, ↓rQ_m, wQ_m, ↓lI_m, pI_m, pL_m, pR_m, sI_m, sBy_m, sBo_m, sL_m, sQ_m, fst_m, true_and, and_true, tg_some, ln_some, uI_1, uI_2, uL_1, uL_2, uL_3, uQ_1, uQ_2, uQ_3, rv_i, rv_l, rv_n, rv_b0, rv_b1, RMR, ne_eq, reduceCtorEq, not_false_eq_true, Option.getD_some, if_true, if_false, and_self, false_and, and_false, Nat.add_left_cancel_iff, Nat.add_eq_left, Nat.left_eq_add, Nat.one_ne_zero, Nat.reduceAdd, Nat.reduceLT, Nat.reduceLeDiff, Nat.reduceEqDiff, true_implies, false_implies, implies_true, Option.some.injEq, forall_eq', forall_eq, reduceCtorEq, brT, brF, br_s, i_10, i_01, ib_0_2, ib_1_2, tn_0, tn_1, Int32.le_refl, eq_self, rv_bN, rv_iM, RCX 0, RCG 2, RCT 4, RCT 15, RCT 25, RCS 35, RCS 49, RCH 63, RCP 67, RCB 72, RCR 77, RCM 81, RLY, lit_at hw, g_37 (i := 0) hw hG vg (by omega) hd1, zz0, g_37 (i := 1) hw hG vg (by omega) hd1, zz1, g_37 (i := 2) hw hG vg (by omega) hd1, zz2, g_37 (i := 3) hw hG vg (by omega) hd1, zz3, e1 hd5, f0, k4, c3, e2 hd3]
          exact hQ
      · have c3 : (Int32.ofNat ((rBody t n g nm τ).2.1 2) = (3 : Int32)) ↔ False := iff_false_intro (fun q => y ((of_inj (b := 3) (by have := V1.1.2.2.2; omega) (by omega)).mp q))
        have eR : (rLin t n g nm τ) = (8 * (rBody t n g nm τ).2.1 0 + 1, (rBody t n g nm τ).2) := by unfold rLin; rw [if_neg (fun q => q z), if_neg y]
        refine ⟨uI σ1 2 5 (8 * Int32.ofNat ((rBody t n g nm τ).2.1 0) + 1), frX_tr x1 (frX_I (by omega)), by rw [eR, uI_1, if_pos ⟨rfl, rfl⟩]; exact f8_of, by rw [uI_1, if_neg (by omega)]; exact L1, fun q => absurd q (by rw [eR]; show ¬ 8 * (rBody t n g nm τ).2.1 0 + 1 = 0; omega), fun hD => cV_of (m := 5) (fun d hd Q hQ => ?_) rfl hD⟩
        have hd1 : 1 ≤ d := by omega
        have hd2 : 2 ≤ d := by omega
        have hd3 : 3 ≤ d := by omega
        have hd4 : 4 ≤ d := by omega
        have hd5 : 5 ≤ d := by omega
        have k4 := S1.1.2.2.2.2.1
        refine b28_0 ?_
        simp only [↓br_pos, ↓br_neg, ↓rF_I, ↓rF_L, ↓rF_R, ↓rF_N, rO_m, rB_m, ↓rI_m, wI_m, ↓rB2_m, ↓rB3_m, wB2_m, wB3_m, ↓rL_m, wL_m, ↓rQ_m, wQ_m, ↓lI_m, pI_m, pL_m, pR_m, sI_m, sBy_m, sBo_m, sL_m, sQ_m, fst_m, true_and, and_true, tg_some, ln_some, uI_1, uI_2, uL_1, uL_2, uL_3, uQ_1, uQ_2, uQ_3, rv_i, rv_l, rv_n, rv_b0, rv_b1, RMR, ne_eq, reduceCtorEq, not_false_eq_true, Option.getD_some, if_true, if_false, and_self, false_and, and_false, Nat.add_left_cancel_iff, Nat.add_eq_left, Nat.left_eq_add, Nat.one_ne_zero, Nat.reduceAdd, Nat.reduceLT, Nat.reduceLeDiff, Nat.reduceEqDiff, true_implies, false_implies, implies_true, Option.some.injEq, forall_eq', forall_eq, reduceCtorEq, brT, brF, br_s, i_10, i_01, ib_0_2, ib_1_2, tn_0, tn_1, Int32.le_refl, eq_self, rv_bN, rv_iM, RCX 0, RCG 2, RCT 4, RCT 15, RCT 25, RCS 35, RCS 49, RCH 63, RCP 67, RCB 72, RCR 77, RCM 81, RLY, lit_at hw, g_37 (i := 0) hw hG vg (by omega) hd1, zz0, g_37 (i := 1) hw hG vg (by omega) hd1, zz1, g_37 (i := 2) hw hG vg (by omega) hd1, zz2, g_37 (i := 3) hw hG vg (by omega) hd1, zz3, e1 hd5, f0, k4, c3, g_36 hw S1.1.2.2.1 f0 hd1]
        exact hQ
    · have fl : (rBody t n g nm τ).1 < 5000 := rBody_lt vg
      have f0 : σ1.1 2 5 ≠ 0 := f8_ne F1 z (by omega)
      have eR : (rLin t n g nm τ) = (rBody t n g nm τ) := by unfold rLin; rw [if_pos z]
      refine ⟨σ1, x1, by rw [eR]; exact F1, L1, fun q => absurd q (by rw [eR]; exact z), fun hD => cV_of (m := 5) (fun d hd Q hQ => ?_) rfl hD⟩
      have hd1 : 1 ≤ d := by omega
      have hd2 : 2 ≤ d := by omega
      have hd3 : 3 ≤ d := by omega
      have hd4 : 4 ≤ d := by omega
      have hd5 : 5 ≤ d := by omega
      refine b28_0 ?_
      simp only [↓br_pos, ↓br_neg, ↓rF_I, ↓rF_L, ↓rF_R, ↓rF_N, rO_m, rB_m, ↓rI_m, wI_m, ↓rB2_m, ↓rB3_m, wB2_m, wB3_m, ↓rL_m, wL_m, ↓rQ_m, wQ_m, ↓lI_m, pI_m, pL_m, pR_m, sI_m, sBy_m, sBo_m, sL_m, sQ_m, fst_m, true_and, and_true, tg_some, ln_some, uI_1, uI_2, uL_1, uL_2, uL_3, uQ_1, uQ_2, uQ_3, rv_i, rv_l, rv_n, rv_b0, rv_b1, RMR, ne_eq, reduceCtorEq, not_false_eq_true, Option.getD_some, if_true, if_false, and_self, false_and, and_false, Nat.add_left_cancel_iff, Nat.add_eq_left, Nat.left_eq_add, Nat.one_ne_zero, Nat.reduceAdd, Nat.reduceLT, Nat.reduceLeDiff, Nat.reduceEqDiff, true_implies, false_implies, implies_true, Option.some.injEq, forall_eq', forall_eq, reduceCtorEq, brT, brF, br_s, i_10, i_01, ib_0_2, ib_1_2, tn_0, tn_1, Int32.le_refl, eq_self, rv_bN, rv_iM, RCX 0, RCG 2, RCT 4, RCT 15, RCT 25, RCS 35, RCS 49, RCH 63, RCP 67, RCB 72, RCR 77, RCM 81, RLY, lit_at hw, g_37 (i := 0) hw hG vg (by omega) hd1, zz0, g_37 (i := 1) hw hG vg (by omega) hd1, zz1, g_37 (i := 2) hw hG vg (by omega) hd1, zz2, g_37 (i := 3) hw hG vg (by omega) hd1, zz3, e1 hd5, f0, g_36n hw f0 hd1]
      exact hQ
  have zz3 : iB (sayP t g 3) = 0 := iB_f h3
  have eB : (rBody t n g nm τ) = (8 * g 0 + 1, g, nm, τ) := by unfold rBody; rw [if_neg h0, if_neg h1, if_neg h2, if_neg h3]
  have nB : (rBody t n g nm τ).1 ≠ 0 := by rw [eB]; show 8 * g 0 + 1 ≠ 0; omega
  have eR : (rLin t n g nm τ) = (rBody t n g nm τ) := by unfold rLin; rw [if_pos nB]
  have n0 : (uI σ 2 5 (8 * Int32.ofNat (g 0) + 1)).1 2 5 ≠ 0 := by
    rw [uI_1, if_pos ⟨rfl, rfl⟩]; exact f8_ne (s := 8 * g 0 + 1) f8_of (by omega) (by have := vg.1; have := vg.2.1; have := vg.2.2.1; omega)
  refine ⟨uI σ 2 5 (8 * Int32.ofNat (g 0) + 1), frX_I (by omega), by rw [eR, eB, uI_1, if_pos ⟨rfl, rfl⟩]; exact f8_of, by rw [uI_1, if_neg (by omega)], fun q => absurd q (by rw [eR]; exact nB), fun hD => cV_of (m := 5) (fun d hd Q hQ => ?_) rfl hD⟩
  have hd1 : 1 ≤ d := by omega
  have hd2 : 2 ≤ d := by omega
  have hd3 : 3 ≤ d := by omega
  have hd4 : 4 ≤ d := by omega
  have hd5 : 5 ≤ d := by omega
  have n8 : ((8 : Int32) * Int32.ofNat (g 0) + 1 = 0) ↔ False := iff_false_intro (fun q => n0 (by rw [uI_1, if_pos ⟨rfl, rfl⟩]; exact q))
  refine b28_0 ?_
  simp only [↓br_pos, ↓br_neg, ↓rF_I, ↓rF_L, ↓rF_R, ↓rF_N, rO_m, rB_m, ↓rI_m, wI_m, ↓rB2_m, ↓rB3_m, wB2_m, wB3_m, ↓rL_m, wL_m, ↓rQ_m, wQ_m, ↓lI_m, pI_m, pL_m, pR_m, sI_m, sBy_m, sBo_m, sL_m, sQ_m, fst_m, true_and, and_true, tg_some, ln_some, uI_1, uI_2, uL_1, uL_2, uL_3, uQ_1, uQ_2, uQ_3, rv_i, rv_l, rv_n, rv_b0, rv_b1, RMR, ne_eq, reduceCtorEq, not_false_eq_true, Option.getD_some, if_true, if_false, and_self, false_and, and_false, Nat.add_left_cancel_iff, Nat.add_eq_left, Nat.left_eq_add, Nat.one_ne_zero, Nat.reduceAdd, Nat.reduceLT, Nat.reduceLeDiff, Nat.reduceEqDiff, true_implies, false_implies, implies_true, Option.some.injEq, forall_eq', forall_eq, reduceCtorEq, brT, brF, br_s, i_10, i_01, ib_0_2, ib_1_2, tn_0, tn_1, Int32.le_refl, eq_self, rv_bN, rv_iM, RCX 0, RCG 2, RCT 4, RCT 15, RCT 25, RCS 35, RCS 49, RCH 63, RCP 67, RCB 72, RCR 77, RCM 81, RLY, lit_at hw, g_37 (i := 0) hw hG vg (by omega) hd1, zz0, g_37 (i := 1) hw hG vg (by omega) hd1, zz1, g_37 (i := 2) hw hG vg (by omega) hd1, zz2, g_37 (i := 3) hw hG vg (by omega) hd1, zz3, g_36 hw hG.2.2.1 h50 hd1, n8, g_36n hw n0 hd1]
  exact hQ
theorem fault_end_15 {w : mT} {σ : mS} {F ln d : Nat} {x : Int32} {Q : Option (Option Value) → Hp → Prop} (hw : lit w) (i : Nat) (hi : i < 600) (h5 : σ.1 2 5 = Int32.ofNat F) (hF : (Int32.ofNat F = 0) ↔ False) (hQ : Q (some (some (.int (Int32.ofNat F)))) (mW w (uI σ 15 0 (Int32.ofNat (ln + 1))))) : Wp 27 51 [.ref 2, .ref 1, .int x, .ref 15, .int (Int32.ofNat (i + 1))] [] (mW w (uI σ 15 0 (Int32.ofNat (ln + 1)))) Q d := by
  refine b27_51 ?_
  by_cases a : (600 : Int32) ≤ Int32.ofNat (i + 1)
  · simp only [↓br_pos, ↓br_neg, ↓rF_I, ↓rF_L, ↓rF_R, ↓rF_N, rO_m, rB_m, ↓rI_m, wI_m, ↓rB2_m, ↓rB3_m, wB2_m, wB3_m, ↓rL_m, wL_m, ↓rQ_m, wQ_m, ↓lI_m, pI_m, pL_m, pR_m, sI_m, sBy_m, sBo_m, sL_m, sQ_m, fst_m, true_and, and_true, tg_some, ln_some, uI_1, uI_2, uL_1, uL_2, uL_3, uQ_1, uQ_2, uQ_3, rv_i, rv_l, rv_n, rv_b0, rv_b1, RMR, ne_eq, reduceCtorEq, not_false_eq_true, Option.getD_some, if_true, if_false, and_self, false_and, and_false, Nat.add_left_cancel_iff, Nat.add_eq_left, Nat.left_eq_add, Nat.one_ne_zero, Nat.reduceAdd, Nat.reduceLT, Nat.reduceLeDiff, Nat.reduceEqDiff, true_implies, false_implies, implies_true, Option.some.injEq, forall_eq', forall_eq, reduceCtorEq, brT, brF, br_s, i_10, i_01, ib_0_2, ib_1_2, tn_0, tn_1, Int32.le_refl, eq_self, rv_bN, rv_iM, RCX 0, RCG 2, RCT 4, RCT 15, RCT 25, RCS 35, RCS 49, RCH 63, RCP 67, RCB 72, RCR 77, RCM 81, RLY, lit_at hw, a, h5]
    exact hQ
  · by_cases b : σ.1 2 4 = 0
    · simp only [↓br_pos, ↓br_neg, ↓rF_I, ↓rF_L, ↓rF_R, ↓rF_N, rO_m, rB_m, ↓rI_m, wI_m, ↓rB2_m, ↓rB3_m, wB2_m, wB3_m, ↓rL_m, wL_m, ↓rQ_m, wQ_m, ↓lI_m, pI_m, pL_m, pR_m, sI_m, sBy_m, sBo_m, sL_m, sQ_m, fst_m, true_and, and_true, tg_some, ln_some, uI_1, uI_2, uL_1, uL_2, uL_3, uQ_1, uQ_2, uQ_3, rv_i, rv_l, rv_n, rv_b0, rv_b1, RMR, ne_eq, reduceCtorEq, not_false_eq_true, Option.getD_some, if_true, if_false, and_self, false_and, and_false, Nat.add_left_cancel_iff, Nat.add_eq_left, Nat.left_eq_add, Nat.one_ne_zero, Nat.reduceAdd, Nat.reduceLT, Nat.reduceLeDiff, Nat.reduceEqDiff, true_implies, false_implies, implies_true, Option.some.injEq, forall_eq', forall_eq, reduceCtorEq, brT, brF, br_s, i_10, i_01, ib_0_2, ib_1_2, tn_0, tn_1, Int32.le_refl, eq_self, rv_bN, rv_iM, RCX 0, RCG 2, RCT 4, RCT 15, RCT 25, RCS 35, RCS 49, RCH 63, RCP 67, RCB 72, RCR 77, RCM 81, RLY, lit_at hw, a, b, h5]
      exact hQ
    · simp only [↓br_pos, ↓br_neg, ↓rF_I, ↓rF_L, ↓rF_R, ↓rF_N, rO_m, rB_m, ↓rI_m, wI_m, ↓rB2_m, ↓rB3_m, wB2_m, wB3_m, ↓rL_m, wL_m, ↓rQ_m, wQ_m, ↓lI_m, pI_m, pL_m, pR_m, sI_m, sBy_m, sBo_m, sL_m, sQ_m, fst_m, true_and, and_true, tg_some, ln_some, uI_1, uI_2, uL_1, uL_2, uL_3, uQ_1, uQ_2, uQ_3, rv_i, rv_l, rv_n, rv_b0, rv_b1, RMR, ne_eq, reduceCtorEq, not_false_eq_true, Option.getD_some, if_true, if_false, and_self, false_and, and_false, Nat.add_left_cancel_iff, Nat.add_eq_left, Nat.left_eq_add, Nat.one_ne_zero, Nat.reduceAdd, Nat.reduceLT, Nat.reduceLeDiff, Nat.reduceEqDiff, true_implies, false_implies, implies_true, Option.some.injEq, forall_eq', forall_eq, reduceCtorEq, brT, brF, br_s, i_10, i_01, ib_0_2, ib_1_2, tn_0, tn_1, Int32.le_refl, eq_self, rv_bN, rv_iM, RCX 0, RCG 2, RCT 4, RCT 15, RCT 25, RCS 35, RCS 49, RCH 63, RCP 67, RCB 72, RCR 77, RCM 81, RLY, lit_at hw, a, b, h5, hF]
      exact hQ
theorem F_lt_15 {w : mT} {σ : mS} {t : Nat → Nat} {n : Nat} {g τ : Rw} {nm : Nat → Int32} (hw : lit w) (ht : ∀ i, t i < 256) (hS : rS σ t n 15 g nm τ) (hV : rV n g τ) (h4 : g 4 ≤ 1) : (rLin t n g nm τ).1 < 5000 := by
  refine rLin_lt hV.1 (fun z => ?_)
  unfold rBody at z ⊢
  split at z
  · rename_i h0
    rw [if_pos h0]
    obtain ⟨σ1, x1, F1, L1, z1, e1⟩ := g_29_15 hw ht hS hV
    have V := (z1 z).2.1
    have a := V.1; have b := V.2.1; have c := V.2.2.1
    omega
  · rename_i h0
    rw [if_neg h0]
    split at z
    · rename_i h1
      rw [if_pos h1]
      obtain ⟨σ1, x1, F1, L1, z1, e1⟩ := g_30_15 hw ht hS hV
      have V := (z1 z).2.1
      have a := V.1; have b := V.2.1; have c := V.2.2.1
      omega
    · rename_i h1
      rw [if_neg h1]
      split at z
      · rename_i h2
        rw [if_pos h2]
        obtain ⟨σ1, x1, F1, L1, z1, e1⟩ := g_31_15 hw ht hS hV
        have V := (z1 z).2.1
        have a := V.1; have b := V.2.1; have c := V.2.2.1
        omega
      · rename_i h2
        rw [if_neg h2]
        split at z
        · rename_i h3
          rw [if_pos h3]
          obtain ⟨σ1, x1, F1, L1, z1, e1⟩ := g_32_15 hw ht hS hV h4
          have V := (z1 z).2.1
          have a := V.1; have b := V.2.1; have c := V.2.2.1
          omega
        · exact absurd z (by show ¬ 8 * g 0 + 1 = 0; omega)
theorem lp_27_15 {w : mT} {t : Nat → Nat} {n : Nat} {x : Int32} (hw : lit w) (ht : ∀ i, t i < 256) : ∀ (k i : Nat) (σ : mS) (g τ : Rw) (nm : Nat → Int32) (ln : Nat), i + k = 600 → rS σ t n 15 g nm τ → rV n g τ → g 4 ≤ 1 → σ.1 15 0 = Int32.ofNat ln → ∃ σ', frX 15 σ σ' ∧ ((rLp t n k g nm τ ln).1 = 0 → tTold σ' 15 (rLp t n k g nm τ ln).2.1 ∧ vTold (rLp t n k g nm τ ln).2.1 ∧ σ'.1 15 0 = Int32.ofNat (rLp t n k g nm τ ln).2.2) ∧ (rLp t n k g nm τ ln).1 < 5000 ∧ ∀ {Q : Option (Option Value) → Hp → Prop} {d : Nat}, 6 ≤ d → Q (some (some (.int (Int32.ofNat (rLp t n k g nm τ ln).1)))) (mW w σ') → Wp 27 51 [.ref 2, .ref 1, .int x, .ref 15, .int (Int32.ofNat i)] [] (mW w σ) Q d := by
  intro k
  induction k with
  | zero =>
    intro i σ g τ nm ln hi hS hV h4 hl
    have hi' : i = 600 := by omega
    subst hi'
    have h5 : σ.1 2 5 = 0 := by rw [hS.1.2.2.2.2.2.1, hV.2.1]; rfl
    refine ⟨σ, frX_rf, fun _ => ⟨hS.2.2.1, hV.2.2.1, hl⟩, (by show 0 < 5000; omega), fun hd hQ => ?_⟩
    have l1 : ((600 : Int32) ≤ Int32.ofNat 600) ↔ True := by decide
    refine b27_51 ?_
    simp only [↓br_pos, ↓br_neg, ↓rF_I, ↓rF_L, ↓rF_R, ↓rF_N, rO_m, rB_m, ↓rI_m, wI_m, ↓rB2_m, ↓rB3_m, wB2_m, wB3_m, ↓rL_m, wL_m, ↓rQ_m, wQ_m, ↓lI_m, pI_m, pL_m, pR_m, sI_m, sBy_m, sBo_m, sL_m, sQ_m, fst_m, true_and, and_true, tg_some, ln_some, uI_1, uI_2, uL_1, uL_2, uL_3, uQ_1, uQ_2, uQ_3, rv_i, rv_l, rv_n, rv_b0, rv_b1, RMR, ne_eq, reduceCtorEq, not_false_eq_true, Option.getD_some, if_true, if_false, and_self, false_and, and_false, Nat.add_left_cancel_iff, Nat.add_eq_left, Nat.left_eq_add, Nat.one_ne_zero, Nat.reduceAdd, Nat.reduceLT, Nat.reduceLeDiff, Nat.reduceEqDiff, true_implies, false_implies, implies_true, Option.some.injEq, forall_eq', forall_eq, reduceCtorEq, brT, brF, br_s, i_10, i_01, ib_0_2, ib_1_2, tn_0, tn_1, Int32.le_refl, eq_self, rv_bN, rv_iM, RCX 0, RCG 2, RCT 4, RCT 15, RCT 25, RCS 35, RCS 49, RCH 63, RCP 67, RCB 72, RCR 77, RCM 81, RLY, lit_at hw, l1, h5]
    exact hQ
  | succ k ih =>
    intro i σ g τ nm ln hi hS hV h4 hl
    have h5 : σ.1 2 5 = 0 := by rw [hS.1.2.2.2.2.2.1, hV.2.1]; rfl
    have k4 := hS.1.2.2.2.2.1
    have l1 : ((600 : Int32) ≤ Int32.ofNat i) ↔ False := iff_false_intro (fun q => absurd ((on_le (i := 600) (by omega) (by omega)).mp q) (by omega))
    by_cases a : g 2 = 0
    · have c0 : (Int32.ofNat (g 2) = 0) ↔ True := iff_true_intro (by rw [a]; rfl)
      have eL : rLp t n (k + 1) g nm τ ln = (0, τ, ln) := if_pos a
      rw [eL]
      refine ⟨σ, frX_rf, fun _ => ⟨hS.2.2.1, hV.2.2.1, hl⟩, (by show 0 < 5000; omega), fun hd hQ => ?_⟩
      refine b27_51 ?_
      simp only [↓br_pos, ↓br_neg, ↓rF_I, ↓rF_L, ↓rF_R, ↓rF_N, rO_m, rB_m, ↓rI_m, wI_m, ↓rB2_m, ↓rB3_m, wB2_m, wB3_m, ↓rL_m, wL_m, ↓rQ_m, wQ_m, ↓lI_m, pI_m, pL_m, pR_m, sI_m, sBy_m, sBo_m, sL_m, sQ_m, fst_m, true_and, and_true, tg_some, ln_some, uI_1, uI_2, uL_1, uL_2, uL_3, uQ_1, uQ_2, uQ_3, rv_i, rv_l, rv_n, rv_b0, rv_b1, RMR, ne_eq, reduceCtorEq, not_false_eq_true, Option.getD_some, if_true, if_false, and_self, false_and, and_false, Nat.add_left_cancel_iff, Nat.add_eq_left, Nat.left_eq_add, Nat.one_ne_zero, Nat.reduceAdd, Nat.reduceLT, Nat.reduceLeDiff, Nat.reduceEqDiff, true_implies, false_implies, implies_true, Option.some.injEq, forall_eq', forall_eq, reduceCtorEq, brT, brF, br_s, i_10, i_01, ib_0_2, ib_1_2, tn_0, tn_1, Int32.le_refl, eq_self, rv_bN, rv_iM, RCX 0, RCG 2, RCT 4, RCT 15, RCT 25, RCS 35, RCS 49, RCH 63, RCP 67, RCB 72, RCR 77, RCM 81, RLY, lit_at hw, l1, k4, c0, h5]
      exact hQ
    · have c0 : (Int32.ofNat (g 2) = 0) ↔ False := iff_false_intro (fun q => a ((of_eq0 (by have := hV.1.2.2.2; omega)).mp q))
      obtain ⟨σ1, x1, F1, L1, z1, e1⟩ := g_28_15 hw ht hS hV h4
      have l0 : σ1.1 15 0 = Int32.ofNat ln := by rw [L1]; exact hl
      have hr4 := rLin_4 (t := t) (n := n) (τ := τ) (nm := nm) h4
      by_cases b : (rLin t n g nm τ).1 = 0
      · obtain ⟨S1, V1⟩ := z1 b
        have eL : rLp t n (k + 1) g nm τ ln = rLp t n k (rLin t n g nm τ).2.1 (rLin t n g nm τ).2.2.1 (rLin t n g nm τ).2.2.2 (ln + 1) := by
          show (if g 2 = 0 then _ else _) = _
          rw [if_neg a, if_neg (fun q => q b)]
        rw [eL]
        have S2 : rS (uI σ1 15 0 (Int32.ofNat (ln + 1))) t n 15 (rLin t n g nm τ).2.1 (rLin t n g nm τ).2.2.1 (rLin t n g nm τ).2.2.2 := by
          refine ⟨tG_I S1.1 (by omega), fun i hi => by rw [uI_1, if_neg (by omega)]; exact S1.2.1 i hi, ?_, S1.2.2.2⟩
          obtain ⟨h1', h2', h3', h4', h5', h6', h7'⟩ := S1.2.2.1
          refine ⟨?_, ?_, ?_, ?_, fun l hl => ⟨?_, ?_⟩, fun y hy => ?_, fun s hs => ?_⟩
          · rw [uI_1, if_neg (by omega)]; exact h1'
          · rw [uI_1, if_neg (by omega)]; exact h2'
          · rw [uI_1, if_neg (by omega)]; exact h3'
          · rw [uI_1, if_neg (by omega)]; exact h4'
          · rw [uI_1, if_neg (by omega)]; exact (h5' l hl).1
          · rw [uI_1, if_neg (by omega)]; exact (h5' l hl).2
          · rw [uI_1, if_neg (by omega)]; exact h6' y hy
          · rw [uI_1, if_neg (by omega), uI_1, if_neg (by omega), uI_1, if_neg (by omega), uI_1, if_neg (by omega), uI_1, if_neg (by omega), uI_1, if_neg (by omega)]
            exact h7' s hs
        obtain ⟨σ2, x2, z2, lt2, e2⟩ := ih (i + 1) (uI σ1 15 0 (Int32.ofNat (ln + 1))) _ _ _ (ln + 1) (by omega) S2 V1 hr4 (by rw [uI_1, if_pos ⟨rfl, rfl⟩])
        refine ⟨σ2, frX_tr x1 (frX_tr (frX_I (by omega)) x2), z2, lt2, fun hd hQ => ?_⟩
        refine b27_51 ?_
        simp only [↓br_pos, ↓br_neg, ↓rF_I, ↓rF_L, ↓rF_R, ↓rF_N, rO_m, rB_m, ↓rI_m, wI_m, ↓rB2_m, ↓rB3_m, wB2_m, wB3_m, ↓rL_m, wL_m, ↓rQ_m, wQ_m, ↓lI_m, pI_m, pL_m, pR_m, sI_m, sBy_m, sBo_m, sL_m, sQ_m, fst_m, true_and, and_true, tg_some, ln_some, uI_1, uI_2, uL_1, uL_2, uL_3, uQ_1, uQ_2, uQ_3, rv_i, rv_l, rv_n, rv_b0, rv_b1, RMR, ne_eq, reduceCtorEq, not_false_eq_true, Option.getD_some, if_true, if_false, and_self, false_and, and_false, Nat.add_left_cancel_iff, Nat.add_eq_left, Nat.left_eq_add, Nat.one_ne_zero, Nat.reduceAdd, Nat.reduceLT, Nat.reduceLeDiff, Nat.reduceEqDiff, true_implies, false_implies, implies_true, Option.some.injEq, forall_eq', forall_eq, reduceCtorEq, brT, brF, br_s, i_10, i_01, ib_0_2, ib_1_2, tn_0, tn_1, Int32.le_refl, eq_self, rv_bN, rv_iM, RCX 0, RCG 2, RCT 4, RCT 15, RCT 25, RCS 35, RCS 49, RCH 63, RCP 67, RCB 72, RCR 77, RCM 81, RLY, lit_at hw, l1, k4, c0, h5, e1 hd, l0, on_succ]
        exact e2 hd hQ
      · have eL : rLp t n (k + 1) g nm τ ln = ((rLin t n g nm τ).1, τ, ln + 1) := by
          show (if g 2 = 0 then _ else _) = _
          rw [if_neg a, if_pos b]
        rw [eL]
        have lt1 : (rLin t n g nm τ).1 < 5000 := F_lt_15 hw ht hS hV h4
        have n5 : σ1.1 2 5 ≠ 0 := f8_ne F1 b (by omega)
        have f5 : (Int32.ofNat (rLin t n g nm τ).1 = 0) ↔ False := iff_false_intro (fun q => b ((of_eq0 (by omega)).mp q))
        refine ⟨uI σ1 15 0 (Int32.ofNat (ln + 1)), frX_tr x1 (frX_I (by omega)), fun q => absurd q b, lt1, fun hd hQ => ?_⟩
        refine b27_51 ?_
        simp only [↓br_pos, ↓br_neg, ↓rF_I, ↓rF_L, ↓rF_R, ↓rF_N, rO_m, rB_m, ↓rI_m, wI_m, ↓rB2_m, ↓rB3_m, wB2_m, wB3_m, ↓rL_m, wL_m, ↓rQ_m, wQ_m, ↓lI_m, pI_m, pL_m, pR_m, sI_m, sBy_m, sBo_m, sL_m, sQ_m, fst_m, true_and, and_true, tg_some, ln_some, uI_1, uI_2, uL_1, uL_2, uL_3, uQ_1, uQ_2, uQ_3, rv_i, rv_l, rv_n, rv_b0, rv_b1, RMR, ne_eq, reduceCtorEq, not_false_eq_true, Option.getD_some, if_true, if_false, and_self, false_and, and_false, Nat.add_left_cancel_iff, Nat.add_eq_left, Nat.left_eq_add, Nat.one_ne_zero, Nat.reduceAdd, Nat.reduceLT, Nat.reduceLeDiff, Nat.reduceEqDiff, true_implies, false_implies, implies_true, Option.some.injEq, forall_eq', forall_eq, reduceCtorEq, brT, brF, br_s, i_10, i_01, ib_0_2, ib_1_2, tn_0, tn_1, Int32.le_refl, eq_self, rv_bN, rv_iM, RCX 0, RCG 2, RCT 4, RCT 15, RCT 25, RCS 35, RCS 49, RCH 63, RCP 67, RCB 72, RCR 77, RCM 81, RLY, lit_at hw, l1, k4, c0, h5, e1 hd, l0, on_succ]
        refine (fault_end_15 (ln := ln) hw i (by omega) F1 f5 ?_)
        exact hQ
theorem g_32_25 {w : mT} {σ : mS} {t : Nat → Nat} {n : Nat} {g τ : Rw} {nm : Nat → Int32} (hw : lit w) (ht : ∀ i, t i < 256) (hS : rS σ t n 25 g nm τ) (hV : rV n g τ) (h4 : g 4 ≤ 1) : ∃ σ', frX 25 σ σ' ∧ σ'.1 2 5 = Int32.ofNat (rGap t n g nm τ).1 ∧ σ'.1 25 0 = σ.1 25 0 ∧ ((rGap t n g nm τ).1 = 0 → rS σ' t n 25 (rGap t n g nm τ).2.1 (rGap t n g nm τ).2.2.1 (rGap t n g nm τ).2.2.2 ∧ rV n (rGap t n g nm τ).2.1 (rGap t n g nm τ).2.2.2) ∧ ∀ {D : Nat} {K : Hp → Prop}, 5 ≤ D → (wpV D 32 [.ref 2] (mW w σ) K ↔ K (mW w σ')) := by
  obtain ⟨hG, hN, hT, h7⟩ := hS
  obtain ⟨vg, h03, hv, h5⟩ := hV
  have h50 : σ.1 2 5 = 0 := by rw [hG.2.2.2.2.2.1, h03]; rfl
  have e4 := hG.2.2.2.2.2.2.1
  have vv0 := hv.1
  have vv1 := hv.2.1
  have vv2 := hv.2.2.1
  by_cases a : g 4 = 0
  · have c4 : (Int32.ofNat (g 4) = 0) ↔ True := iff_true_intro ((of_eq0 (by omega)).mpr a)
    obtain ⟨hB, k1, k2, k3, k4, k5, k6, k9⟩ := hG
    have hG2 : tG (uI σ 2 6 1) t n (rSet g 4 1) := by
      refine ⟨⟨hB.1, fun i hi => by rw [uI_1, if_neg (by omega)]; exact hB.2 i hi⟩, ?_, ?_, ?_, ?_, ?_, ?_, ?_⟩
      · rw [uI_1, if_neg (by omega)]; exact k1
      · rw [uI_1, if_neg (by omega), rS_ne (by omega)]; exact k2
      · rw [uI_1, if_neg (by omega), rS_ne (by omega)]; exact k3
      · rw [uI_1, if_neg (by omega), rS_ne (by omega)]; exact k4
      · rw [uI_1, if_neg (by omega), rS_ne (by omega)]; exact k5
      · rw [uI_1, if_pos ⟨rfl, rfl⟩, rS_eq]; rfl
      · rw [uI_1, if_neg (by omega), rS_ne (by omega)]; exact k9
    have vg2 : vG n (rSet g 4 1) := ⟨by rw [rS_ne (by omega), rS_ne (by omega)]; exact vg.1, by rw [rS_ne (by omega)]; exact vg.2.1, vg.2.2.1, by rw [rS_ne (by omega)]; exact vg.2.2.2⟩
    obtain ⟨σ3, f3, F3, -, z3, e3⟩ := g_34 (σ := uI σ 2 6 1) (i := 3) (low := 0) (high := 3) hw ht hG2 vg2 (by rw [rS_ne (by omega)]; exact h03) (by omega)
    have x3 : frX 25 σ σ3 := frX_tr (frX_I (by omega)) (frX_R f3)
    have r3 : ∀ a, 25 ≤ a → a < 35 → σ3.1 a = σ.1 a := fun a h1 h2 => by rw [f3.1 a (by omega)]; exact (uI_ne (by omega)).1
    have s3 : σ3.2.2 2 7 = some 25 := by rw [f3.2]; exact h7
    have T3 : tTold σ3 25 τ := tTold_fr hT (fun a h1 h2 => r3 a (by omega) (by omega))
    by_cases q : toldF t n (rSet g 4 1) 3 0 3 = 0
    · have eR : (rGap t n g nm τ) = (0, gTd t n (rSet g 4 1), nm, rSet τ 3 (nN t (adv t n (rSet g 4 1)))) := by unfold rGap; rw [if_neg (fun z => z a), if_neg (fun z => z q)]
      have w3 := told_v (lo := 0) (hi := 3) rfl rfl (by omega) (by omega) q
      have K3 : tG σ3 t n (gTd t n (rSet g 4 1)) := z3 q
      refine ⟨uI σ3 25 1 (numV t (adv t n (rSet g 4 1))), frX_tr x3 (frX_I (by omega)), by rw [eR, uI_1, if_neg (by omega), F3, q], by rw [uI_1, if_neg (by omega), r3 25 (by omega) (by omega)], fun _ => ?_, fun hD => cV_of (m := 4) (fun d hd Q hQ => ?_) rfl hD⟩
      · rw [eR]
        refine ⟨⟨tG_I K3 (by omega), fun i hi => ?_, ?_, s3⟩, vG_td vg2, ?_, ?_, ?_⟩
        · have hi' : i < g 5 := by
            have hi2 : i < gTd t n (rSet g 4 1) 5 := hi
            rw [gTd_g (by omega), rS_ne (by omega)] at hi2; exact hi2
          rw [uI_1, if_neg (by omega), f3.1 14 (by omega), uI_1, if_neg (by omega)]; exact hN i hi'
        · obtain ⟨h1', h2', h3', h4', h5', h6', h7'⟩ := T3
          show tTold _ 25 (rSet τ 3 (nN t (adv t n (rSet g 4 1))))
          refine ⟨?_, ?_, ?_, ?_, fun l hl => ⟨?_, ?_⟩, fun y hy => ?_, fun s hs => ?_⟩
          · rw [uI_1, if_pos ⟨rfl, rfl⟩, rS_eq]; exact w3.1
          · rw [uI_1, if_neg (by omega), rS_ne (by omega)]; exact h2'
          · rw [uI_1, if_neg (by omega), rS_ne (by omega)]; exact h3'
          · rw [uI_1, if_neg (by omega), rS_ne (by omega)]; exact h4'
          · rw [rS_ne (by omega)] at hl
            rw [uI_1, if_neg (by omega), rS_ne (by omega)]; exact (h5' l hl).1
          · rw [rS_ne (by omega)] at hl
            rw [uI_1, if_neg (by omega), rS_ne (by omega)]; exact (h5' l hl).2
          · rw [rS_ne (by omega)] at hy
            rw [uI_1, if_neg (by omega), rS_ne (by omega)]; exact h6' y hy
          · rw [rS_ne (by omega)] at hs
            rw [uI_1, if_neg (by omega), uI_1, if_neg (by omega), uI_1, if_neg (by omega), uI_1, if_neg (by omega), uI_1, if_neg (by omega), uI_1, if_neg (by omega), rS_ne (by omega), rS_ne (by omega), rS_ne (by omega), rS_ne (by omega), rS_ne (by omega), rS_ne (by omega)]
            exact h7' s hs
        · show gTd t n (rSet g 4 1) 3 = 0
          rw [gTd_g (by omega), rS_ne (by omega)]; exact h03
        · obtain ⟨b1, b2, b3, b4, b5, b6, b7⟩ := hv
          show vTold (rSet τ 3 (nN t (adv t n (rSet g 4 1))))
          refine ⟨by rw [rS_ne (by omega)]; exact b1, by rw [rS_ne (by omega)]; exact b2, by rw [rS_ne (by omega)]; exact b3, by rw [rS_eq]; exact w3.2.2, fun l hl => ?_, fun y hy => ?_, fun s hs => ?_⟩
          · rw [rS_ne (by omega)] at hl
            rw [rS_ne (by omega), rS_ne (by omega)]; exact b5 l hl
          · rw [rS_ne (by omega)] at hy
            rw [rS_ne (by omega)]; exact b6 y hy
          · rw [rS_ne (by omega)] at hs
            rw [rS_ne (by omega), rS_ne (by omega), rS_ne (by omega), rS_ne (by omega), rS_ne (by omega), rS_ne (by omega)]
            exact b7 s hs
        · show gTd t n (rSet g 4 1) 5 = rSet τ 3 (nN t (adv t n (rSet g 4 1))) 0 + rSet τ 3 (nN t (adv t n (rSet g 4 1))) 1 + rSet τ 3 (nN t (adv t n (rSet g 4 1))) 2
          rw [gTd_g (by omega), rS_ne (by omega), rS_ne (by omega), rS_ne (by omega), rS_ne (by omega)]; exact h5
      · have hd1 : 1 ≤ d := by omega
        have hd2 : 2 ≤ d := by omega
        have hd3 : 3 ≤ d := by omega
        have hd4 : 4 ≤ d := by omega
        refine b32_0 ?_
        simp only [↓br_pos, ↓br_neg, ↓rF_I, ↓rF_L, ↓rF_R, ↓rF_N, rO_m, rB_m, ↓rI_m, wI_m, ↓rB2_m, ↓rB3_m, wB2_m, wB3_m, ↓rL_m, wL_m, ↓rQ_m, wQ_m, ↓lI_m, pI_m, pL_m, pR_m, sI_m, sBy_m, sBo_m, sL_m, sQ_m, fst_m, true_and, and_true, tg_some, ln_some, uI_1, uI_2, uL_1, uL_2, uL_3, uQ_1, uQ_2, uQ_3, rv_i, rv_l, rv_n, rv_b0, rv_b1, RMR, ne_eq, reduceCtorEq, not_false_eq_true, Option.getD_some, if_true, if_false, and_self, false_and, and_false, Nat.add_left_cancel_iff, Nat.add_eq_left, Nat.left_eq_add, Nat.one_ne_zero, Nat.reduceAdd, Nat.reduceLT, Nat.reduceLeDiff, Nat.reduceEqDiff, true_implies, false_implies, implies_true, Option.some.injEq, forall_eq', forall_eq, reduceCtorEq, brT, brF, br_s, i_10, i_01, ib_0_2, ib_1_2, tn_0, tn_1, Int32.le_refl, eq_self, rv_bN, rv_iM, RCX 0, RCG 2, RCT 4, RCT 15, RCT 25, RCS 35, RCS 49, RCH 63, RCP 67, RCB 72, RCR 77, RCM 81, RLY, lit_at hw, e4, c4, h7, e3 hd4, q]
        exact hQ
    · have eR : (rGap t n g nm τ) = (toldF t n (rSet g 4 1) 3 0 3, g, nm, τ) := by unfold rGap; rw [if_neg (fun z => z a), if_pos q]
      refine ⟨uI σ3 25 1 (-1), frX_tr x3 (frX_I (by omega)), by rw [eR, uI_1, if_neg (by omega)]; exact F3, by rw [uI_1, if_neg (by omega), r3 25 (by omega) (by omega)], fun z => absurd z (by rw [eR]; exact q), fun hD => cV_of (m := 4) (fun d hd Q hQ => ?_) rfl hD⟩
      have hd1 : 1 ≤ d := by omega
      have hd2 : 2 ≤ d := by omega
      have hd3 : 3 ≤ d := by omega
      have hd4 : 4 ≤ d := by omega
      refine b32_0 ?_
      simp only [↓br_pos, ↓br_neg, ↓rF_I, ↓rF_L, ↓rF_R, ↓rF_N, rO_m, rB_m, ↓rI_m, wI_m, ↓rB2_m, ↓rB3_m, wB2_m, wB3_m, ↓rL_m, wL_m, ↓rQ_m, wQ_m, ↓lI_m, pI_m, pL_m, pR_m, sI_m, sBy_m, sBo_m, sL_m, sQ_m, fst_m, true_and, and_true, tg_some, ln_some, uI_1, uI_2, uL_1, uL_2, uL_3, uQ_1, uQ_2, uQ_3, rv_i, rv_l, rv_n, rv_b0, rv_b1, RMR, ne_eq, reduceCtorEq, not_false_eq_true, Option.getD_some, if_true, if_false, and_self, false_and, and_false, Nat.add_left_cancel_iff, Nat.add_eq_left, Nat.left_eq_add, Nat.one_ne_zero, Nat.reduceAdd, Nat.reduceLT, Nat.reduceLeDiff, Nat.reduceEqDiff, true_implies, false_implies, implies_true, Option.some.injEq, forall_eq', forall_eq, reduceCtorEq, brT, brF, br_s, i_10, i_01, ib_0_2, ib_1_2, tn_0, tn_1, Int32.le_refl, eq_self, rv_bN, rv_iM, RCX 0, RCG 2, RCT 4, RCT 15, RCT 25, RCS 35, RCS 49, RCH 63, RCP 67, RCB 72, RCR 77, RCM 81, RLY, lit_at hw, e4, c4, h7, e3 hd4, q]
      exact hQ
  · have c4 : (Int32.ofNat (g 4) = 0) ↔ False := iff_false_intro (fun q => a ((of_eq0 (by omega)).mp q))
    have eR : (rGap t n g nm τ) = (8 * g 0 + 2, g, nm, τ) := if_pos a
    refine ⟨uI σ 2 5 (8 * Int32.ofNat (g 0) + 2), frX_I (by omega), by rw [eR, uI_1, if_pos ⟨rfl, rfl⟩]; exact f8_of, by rw [uI_1, if_neg (by omega)], fun q => absurd q (by rw [eR]; show ¬ 8 * g 0 + 2 = 0; omega), fun hD => cV_of (m := 4) (fun d hd Q hQ => ?_) rfl hD⟩
    have hd1 : 1 ≤ d := by omega
    have hd2 : 2 ≤ d := by omega
    have hd3 : 3 ≤ d := by omega
    have hd4 : 4 ≤ d := by omega
    refine b32_0 ?_
    simp only [↓br_pos, ↓br_neg, ↓rF_I, ↓rF_L, ↓rF_R, ↓rF_N, rO_m, rB_m, ↓rI_m, wI_m, ↓rB2_m, ↓rB3_m, wB2_m, wB3_m, ↓rL_m, wL_m, ↓rQ_m, wQ_m, ↓lI_m, pI_m, pL_m, pR_m, sI_m, sBy_m, sBo_m, sL_m, sQ_m, fst_m, true_and, and_true, tg_some, ln_some, uI_1, uI_2, uL_1, uL_2, uL_3, uQ_1, uQ_2, uQ_3, rv_i, rv_l, rv_n, rv_b0, rv_b1, RMR, ne_eq, reduceCtorEq, not_false_eq_true, Option.getD_some, if_true, if_false, and_self, false_and, and_false, Nat.add_left_cancel_iff, Nat.add_eq_left, Nat.left_eq_add, Nat.one_ne_zero, Nat.reduceAdd, Nat.reduceLT, Nat.reduceLeDiff, Nat.reduceEqDiff, true_implies, false_implies, implies_true, Option.some.injEq, forall_eq', forall_eq, reduceCtorEq, brT, brF, br_s, i_10, i_01, ib_0_2, ib_1_2, tn_0, tn_1, Int32.le_refl, eq_self, rv_bN, rv_iM, RCX 0, RCG 2, RCT 4, RCT 15, RCT 25, RCS 35, RCS 49, RCH 63, RCP 67, RCB 72, RCR 77, RCM 81, RLY, lit_at hw, e4, c4, g_36 hw hG.2.2.1 h50 hd1]
    exact hQ
theorem g_28_25 {w : mT} {σ : mS} {t : Nat → Nat} {n : Nat} {g τ : Rw} {nm : Nat → Int32} (hw : lit w) (ht : ∀ i, t i < 256) (hS : rS σ t n 25 g nm τ) (hV : rV n g τ) (h4 : g 4 ≤ 1) : ∃ σ', frX 25 σ σ' ∧ σ'.1 2 5 = Int32.ofNat (rLin t n g nm τ).1 ∧ σ'.1 25 0 = σ.1 25 0 ∧ ((rLin t n g nm τ).1 = 0 → rS σ' t n 25 (rLin t n g nm τ).2.1 (rLin t n g nm τ).2.2.1 (rLin t n g nm τ).2.2.2 ∧ rV n (rLin t n g nm τ).2.1 (rLin t n g nm τ).2.2.2) ∧ ∀ {D : Nat} {K : Hp → Prop}, 6 ≤ D → (wpV D 28 [.ref 2] (mW w σ) K ↔ K (mW w σ')) := by
  have hG := hS.1
  have vg := hV.1
  have h03 := hV.2.1
  have h50 : σ.1 2 5 = 0 := by rw [hG.2.2.2.2.2.1, h03]; rfl
  by_cases h0 : sayP t g 0
  · have zz0 : iB (sayP t g 0) = 1 := iB_t h0
    have eB : (rBody t n g nm τ) = rLot t n g nm τ := by unfold rBody; rw [if_pos h0]
    obtain ⟨σ1, x1, F1, L1, z1, e1⟩ := g_29_25 hw ht hS hV
    rw [← eB] at F1 z1
    by_cases z : (rBody t n g nm τ).1 = 0
    · have f0 : σ1.1 2 5 = 0 := by rw [F1, z]; rfl
      obtain ⟨S1, V1⟩ := z1 z
      by_cases y : (rBody t n g nm τ).2.1 2 = 3
      · have c3 : (Int32.ofNat ((rBody t n g nm τ).2.1 2) = (3 : Int32)) ↔ True := iff_true_intro (by rw [y]; rfl)
        have eR : (rLin t n g nm τ) = (0, adv t n (rBody t n g nm τ).2.1, (rBody t n g nm τ).2.2) := by unfold rLin; rw [if_neg (fun q => q z), if_pos y]
        obtain ⟨σ2, f2, t2, e2⟩ := g_39 hw ht S1.1 V1.1
        refine ⟨σ2, frX_tr x1 (frX_R f2), by rw [eR, t2.2.2.2.2.2.1, adv_g (by omega), V1.2.1], by rw [f2.1 25 (by omega)]; exact L1, fun _ => ?_, fun hD => cV_of (m := 5) (fun d hd Q hQ => ?_) rfl hD⟩
        · rw [eR]
          refine ⟨⟨t2, fun i hi => ?_, tTold_R S1.2.2.1 f2 (by omega), by rw [f2.2]; exact S1.2.2.2⟩, vG_adv V1.1, ?_, V1.2.2.1, ?_⟩
          · have hi2 : i < adv t n (rBody t n g nm τ).2.1 5 := hi
            rw [adv_g (by omega)] at hi2
            rw [f2.1 14 (by omega)]; exact S1.2.1 i hi2
          · show adv t n (rBody t n g nm τ).2.1 3 = 0
            rw [adv_g (by omega)]; exact V1.2.1
          · show adv t n (rBody t n g nm τ).2.1 5 = _
            rw [adv_g (by omega)]; exact V1.2.2.2
        · have hd1 : 1 ≤ d := by omega
          have hd2 : 2 ≤ d := by omega
          have hd3 : 3 ≤ d := by omega
          have hd4 : 4 ≤ d := by omega
          have hd5 : 5 ≤ d := by omega
          have k4 := S1.1.2.2.2.2.1
          refine b28_0 ?_
          simp only [↓br_pos, ↓br_neg, ↓rF_I, ↓rF_L, ↓rF_R, ↓rF_N, rO_m, rB_m, ↓rI_m, wI_m, ↓rB2_m, ↓rB3_m, wB2_m, wB3_m, ↓rL_m, wL_m, ↓rQ_m, wQ_m, ↓lI_m, pI_m, pL_m, pR_m, sI_m, sBy_m, sBo_m, sL_m, sQ_m, fst_m, true_and, and_true, tg_some, ln_some, uI_1, uI_2, uL_1, uL_2, uL_3, uQ_1, uQ_2, uQ_3, rv_i, rv_l, rv_n, rv_b0, rv_b1, RMR, ne_eq, reduceCtorEq, not_false_eq_true, Option.getD_some, if_true, if_false, and_self, false_and, and_false, Nat.add_left_cancel_iff, Nat.add_eq_left, Nat.left_eq_add, Nat.one_ne_zero, Nat.reduceAdd, Nat.reduceLT, Nat.reduceLeDiff, Nat.reduceEqDiff, true_implies, false_implies, implies_true, Option.some.injEq, forall_eq', forall_eq, reduceCtorEq, brT, brF, br_s, i_10, i_01, ib_0_2, ib_1_2, tn_0, tn_1, Int32.le_refl, eq_self, rv_bN, rv_iM, RCX 0, RCG 2, RCT 4, RCT 15, RCT 25, RCS 35, RCS 49, RCH 63, RCP 67, RCB 72, RCR 77, RCM 81, RLY, lit_at hw, g_37 (i := 0) hw hG vg (by omega) hd1, zz0, e1 hd5, f0, k4, c3, e2 hd3]
          exact hQ
      · have c3 : (Int32.ofNat ((rBody t n g nm τ).2.1 2) = (3 : Int32)) ↔ False := iff_false_intro (fun q => y ((of_inj (b := 3) (by have := V1.1.2.2.2; omega) (by omega)).mp q))
        have eR : (rLin t n g nm τ) = (8 * (rBody t n g nm τ).2.1 0 + 1, (rBody t n g nm τ).2) := by unfold rLin; rw [if_neg (fun q => q z), if_neg y]
        refine ⟨uI σ1 2 5 (8 * Int32.ofNat ((rBody t n g nm τ).2.1 0) + 1), frX_tr x1 (frX_I (by omega)), by rw [eR, uI_1, if_pos ⟨rfl, rfl⟩]; exact f8_of, by rw [uI_1, if_neg (by omega)]; exact L1, fun q => absurd q (by rw [eR]; show ¬ 8 * (rBody t n g nm τ).2.1 0 + 1 = 0; omega), fun hD => cV_of (m := 5) (fun d hd Q hQ => ?_) rfl hD⟩
        have hd1 : 1 ≤ d := by omega
        have hd2 : 2 ≤ d := by omega
        have hd3 : 3 ≤ d := by omega
        have hd4 : 4 ≤ d := by omega
        have hd5 : 5 ≤ d := by omega
        have k4 := S1.1.2.2.2.2.1
        refine b28_0 ?_
        simp only [↓br_pos, ↓br_neg, ↓rF_I, ↓rF_L, ↓rF_R, ↓rF_N, rO_m, rB_m, ↓rI_m, wI_m, ↓rB2_m, ↓rB3_m, wB2_m, wB3_m, ↓rL_m, wL_m, ↓rQ_m, wQ_m, ↓lI_m, pI_m, pL_m, pR_m, sI_m, sBy_m, sBo_m, sL_m, sQ_m, fst_m, true_and, and_true, tg_some, ln_some, uI_1, uI_2, uL_1, uL_2, uL_3, uQ_1, uQ_2, uQ_3, rv_i, rv_l, rv_n, rv_b0, rv_b1, RMR, ne_eq, reduceCtorEq, not_false_eq_true, Option.getD_some, if_true, if_false, and_self, false_and, and_false, Nat.add_left_cancel_iff, Nat.add_eq_left, Nat.left_eq_add, Nat.one_ne_zero, Nat.reduceAdd, Nat.reduceLT, Nat.reduceLeDiff, Nat.reduceEqDiff, true_implies, false_implies, implies_true, Option.some.injEq, forall_eq', forall_eq, reduceCtorEq, brT, brF, br_s, i_10, i_01, ib_0_2, ib_1_2, tn_0, tn_1, Int32.le_refl, eq_self, rv_bN, rv_iM, RCX 0, RCG 2, RCT 4, RCT 15, RCT 25, RCS 35, RCS 49, RCH 63, RCP 67, RCB 72, RCR 77, RCM 81, RLY, lit_at hw, g_37 (i := 0) hw hG vg (by omega) hd1, zz0, e1 hd5, f0, k4, c3, g_36 hw S1.1.2.2.1 f0 hd1]
        exact hQ
    · have fl : (rBody t n g nm τ).1 < 5000 := rBody_lt vg
      have f0 : σ1.1 2 5 ≠ 0 := f8_ne F1 z (by omega)
      have eR : (rLin t n g nm τ) = (rBody t n g nm τ) := by unfold rLin; rw [if_pos z]
      refine ⟨σ1, x1, by rw [eR]; exact F1, L1, fun q => absurd q (by rw [eR]; exact z), fun hD => cV_of (m := 5) (fun d hd Q hQ => ?_) rfl hD⟩
      have hd1 : 1 ≤ d := by omega
      have hd2 : 2 ≤ d := by omega
      have hd3 : 3 ≤ d := by omega
      have hd4 : 4 ≤ d := by omega
      have hd5 : 5 ≤ d := by omega
      refine b28_0 ?_
      simp only [↓br_pos, ↓br_neg, ↓rF_I, ↓rF_L, ↓rF_R, ↓rF_N, rO_m, rB_m, ↓rI_m, wI_m, ↓rB2_m, ↓rB3_m, wB2_m, wB3_m, ↓rL_m, wL_m, ↓rQ_m, wQ_m, ↓lI_m, pI_m, pL_m, pR_m, sI_m, sBy_m, sBo_m, sL_m, sQ_m, fst_m, true_and, and_true, tg_some, ln_some, uI_1, uI_2, uL_1, uL_2, uL_3, uQ_1, uQ_2, uQ_3, rv_i, rv_l, rv_n, rv_b0, rv_b1, RMR, ne_eq, reduceCtorEq, not_false_eq_true, Option.getD_some, if_true, if_false, and_self, false_and, and_false, Nat.add_left_cancel_iff, Nat.add_eq_left, Nat.left_eq_add, Nat.one_ne_zero, Nat.reduceAdd, Nat.reduceLT, Nat.reduceLeDiff, Nat.reduceEqDiff, true_implies, false_implies, implies_true, Option.some.injEq, forall_eq', forall_eq, reduceCtorEq, brT, brF, br_s, i_10, i_01, ib_0_2, ib_1_2, tn_0, tn_1, Int32.le_refl, eq_self, rv_bN, rv_iM, RCX 0, RCG 2, RCT 4, RCT 15, RCT 25, RCS 35, RCS 49, RCH 63, RCP 67, RCB 72, RCR 77, RCM 81, RLY, lit_at hw, g_37 (i := 0) hw hG vg (by omega) hd1, zz0, e1 hd5, f0, g_36n hw f0 hd1]
      exact hQ
  have zz0 : iB (sayP t g 0) = 0 := iB_f h0
  by_cases h1 : sayP t g 1
  · have zz1 : iB (sayP t g 1) = 1 := iB_t h1
    have eB : (rBody t n g nm τ) = rPil t n g nm τ := by unfold rBody; rw [if_neg h0, if_pos h1]
    obtain ⟨σ1, x1, F1, L1, z1, e1⟩ := g_30_25 hw ht hS hV
    rw [← eB] at F1 z1
    by_cases z : (rBody t n g nm τ).1 = 0
    · have f0 : σ1.1 2 5 = 0 := by rw [F1, z]; rfl
      obtain ⟨S1, V1⟩ := z1 z
      by_cases y : (rBody t n g nm τ).2.1 2 = 3
      · have c3 : (Int32.ofNat ((rBody t n g nm τ).2.1 2) = (3 : Int32)) ↔ True := iff_true_intro (by rw [y]; rfl)
        have eR : (rLin t n g nm τ) = (0, adv t n (rBody t n g nm τ).2.1, (rBody t n g nm τ).2.2) := by unfold rLin; rw [if_neg (fun q => q z), if_pos y]
        obtain ⟨σ2, f2, t2, e2⟩ := g_39 hw ht S1.1 V1.1
        refine ⟨σ2, frX_tr x1 (frX_R f2), by rw [eR, t2.2.2.2.2.2.1, adv_g (by omega), V1.2.1], by rw [f2.1 25 (by omega)]; exact L1, fun _ => ?_, fun hD => cV_of (m := 5) (fun d hd Q hQ => ?_) rfl hD⟩
        · rw [eR]
          refine ⟨⟨t2, fun i hi => ?_, tTold_R S1.2.2.1 f2 (by omega), by rw [f2.2]; exact S1.2.2.2⟩, vG_adv V1.1, ?_, V1.2.2.1, ?_⟩
          · have hi2 : i < adv t n (rBody t n g nm τ).2.1 5 := hi
            rw [adv_g (by omega)] at hi2
            rw [f2.1 14 (by omega)]; exact S1.2.1 i hi2
          · show adv t n (rBody t n g nm τ).2.1 3 = 0
            rw [adv_g (by omega)]; exact V1.2.1
          · show adv t n (rBody t n g nm τ).2.1 5 = _
            rw [adv_g (by omega)]; exact V1.2.2.2
        · have hd1 : 1 ≤ d := by omega
          have hd2 : 2 ≤ d := by omega
          have hd3 : 3 ≤ d := by omega
          have hd4 : 4 ≤ d := by omega
          have hd5 : 5 ≤ d := by omega
          have k4 := S1.1.2.2.2.2.1
          refine b28_0 ?_
          simp only [↓br_pos, ↓br_neg, ↓rF_I, ↓rF_L, ↓rF_R, ↓rF_N, rO_m, rB_m, ↓rI_m, wI_m, ↓rB2_m, ↓rB3_m, wB2_m, wB3_m, ↓rL_m, wL_m, ↓rQ_m, wQ_m, ↓lI_m, pI_m, pL_m, pR_m, sI_m, sBy_m, sBo_m, sL_m, sQ_m, fst_m, true_and, and_true, tg_some, ln_some, uI_1, uI_2, uL_1, uL_2, uL_3, uQ_1, uQ_2, uQ_3, rv_i, rv_l, rv_n, rv_b0, rv_b1, RMR, ne_eq, reduceCtorEq, not_false_eq_true, Option.getD_some, if_true, if_false, and_self, false_and, and_false, Nat.add_left_cancel_iff, Nat.add_eq_left, Nat.left_eq_add, Nat.one_ne_zero, Nat.reduceAdd, Nat.reduceLT, Nat.reduceLeDiff, Nat.reduceEqDiff, true_implies, false_implies, implies_true, Option.some.injEq, forall_eq', forall_eq, reduceCtorEq, brT, brF, br_s, i_10, i_01, ib_0_2, ib_1_2, tn_0, tn_1, Int32.le_refl, eq_self, rv_bN, rv_iM, RCX 0, RCG 2, RCT 4, RCT 15, RCT 25, RCS 35, RCS 49, RCH 63, RCP 67, RCB 72, RCR 77, RCM 81, RLY, lit_at hw, g_37 (i := 0) hw hG vg (by omega) hd1, zz0, g_37 (i := 1) hw hG vg (by omega) hd1, zz1, e1 hd5, f0, k4, c3, e2 hd3]
          exact hQ
      · have c3 : (Int32.ofNat ((rBody t n g nm τ).2.1 2) = (3 : Int32)) ↔ False := iff_false_intro (fun q => y ((of_inj (b := 3) (by have := V1.1.2.2.2; omega) (by omega)).mp q))
        have eR : (rLin t n g nm τ) = (8 * (rBody t n g nm τ).2.1 0 + 1, (rBody t n g nm τ).2) := by unfold rLin; rw [if_neg (fun q => q z), if_neg y]
        refine ⟨uI σ1 2 5 (8 * Int32.ofNat ((rBody t n g nm τ).2.1 0) + 1), frX_tr x1 (frX_I (by omega)), by rw [eR, uI_1, if_pos ⟨rfl, rfl⟩]; exact f8_of, by rw [uI_1, if_neg (by omega)]; exact L1, fun q => absurd q (by rw [eR]; show ¬ 8 * (rBody t n g nm τ).2.1 0 + 1 = 0; omega), fun hD => cV_of (m := 5) (fun d hd Q hQ => ?_) rfl hD⟩
        have hd1 : 1 ≤ d := by omega
        have hd2 : 2 ≤ d := by omega
        have hd3 : 3 ≤ d := by omega
        have hd4 : 4 ≤ d := by omega
        have hd5 : 5 ≤ d := by omega
        have k4 := S1.1.2.2.2.2.1
        refine b28_0 ?_
        simp only [↓br_pos, ↓br_neg, ↓rF_I, ↓rF_L, ↓rF_R, ↓rF_N, rO_m, rB_m, ↓rI_m, wI_m, ↓rB2_m, ↓rB3_m, wB2_m, wB3_m, ↓rL_m, wL_m, ↓rQ_m, wQ_m, ↓lI_m, pI_m, pL_m, pR_m, sI_m, sBy_m, sBo_m, sL_m, sQ_m, fst_m, true_and, and_true, tg_some, ln_some, uI_1, uI_2, uL_1, uL_2, uL_3, uQ_1, uQ_2, uQ_3, rv_i, rv_l, rv_n, rv_b0, rv_b1, RMR, ne_eq, reduceCtorEq, not_false_eq_true, Option.getD_some, if_true, if_false, and_self, false_and, and_false, Nat.add_left_cancel_iff, Nat.add_eq_left, Nat.left_eq_add, Nat.one_ne_zero, Nat.reduceAdd, Nat.reduceLT, Nat.reduceLeDiff, Nat.reduceEqDiff, true_implies, false_implies, implies_true, Option.some.injEq, forall_eq', forall_eq, reduceCtorEq, brT, brF, br_s, i_10, i_01, ib_0_2, ib_1_2, tn_0, tn_1, Int32.le_refl, eq_self, rv_bN, rv_iM, RCX 0, RCG 2, RCT 4, RCT 15, RCT 25, RCS 35, RCS 49, RCH 63, RCP 67, RCB 72, RCR 77, RCM 81, RLY, lit_at hw, g_37 (i := 0) hw hG vg (by omega) hd1, zz0, g_37 (i := 1) hw hG vg (by omega) hd1, zz1, e1 hd5, f0, k4, c3, g_36 hw S1.1.2.2.1 f0 hd1]
        exact hQ
    · have fl : (rBody t n g nm τ).1 < 5000 := rBody_lt vg
      have f0 : σ1.1 2 5 ≠ 0 := f8_ne F1 z (by omega)
      have eR : (rLin t n g nm τ) = (rBody t n g nm τ) := by unfold rLin; rw [if_pos z]
      refine ⟨σ1, x1, by rw [eR]; exact F1, L1, fun q => absurd q (by rw [eR]; exact z), fun hD => cV_of (m := 5) (fun d hd Q hQ => ?_) rfl hD⟩
      have hd1 : 1 ≤ d := by omega
      have hd2 : 2 ≤ d := by omega
      have hd3 : 3 ≤ d := by omega
      have hd4 : 4 ≤ d := by omega
      have hd5 : 5 ≤ d := by omega
      refine b28_0 ?_
      simp only [↓br_pos, ↓br_neg, ↓rF_I, ↓rF_L, ↓rF_R, ↓rF_N, rO_m, rB_m, ↓rI_m, wI_m, ↓rB2_m, ↓rB3_m, wB2_m, wB3_m, ↓rL_m, wL_m, ↓rQ_m, wQ_m, ↓lI_m, pI_m, pL_m, pR_m, sI_m, sBy_m, sBo_m, sL_m, sQ_m, fst_m, true_and, and_true, tg_some, ln_some, uI_1, uI_2, uL_1, uL_2, uL_3, uQ_1, uQ_2, uQ_3, rv_i, rv_l, rv_n, rv_b0, rv_b1, RMR, ne_eq, reduceCtorEq, not_false_eq_true, Option.getD_some, if_true, if_false, and_self, false_and, and_false, Nat.add_left_cancel_iff, Nat.add_eq_left, Nat.left_eq_add, Nat.one_ne_zero, Nat.reduceAdd, Nat.reduceLT, Nat.reduceLeDiff, Nat.reduceEqDiff, true_implies, false_implies, implies_true, Option.some.injEq, forall_eq', forall_eq, reduceCtorEq, brT, brF, br_s, i_10, i_01, ib_0_2, ib_1_2, tn_0, tn_1, Int32.le_refl, eq_self, rv_bN, rv_iM, RCX 0, RCG 2, RCT 4, RCT 15, RCT 25, RCS 35, RCS 49, RCH 63, RCP 67, RCB 72, RCR 77, RCM 81, RLY, lit_at hw, g_37 (i := 0) hw hG vg (by omega) hd1, zz0, g_37 (i := 1) hw hG vg (by omega) hd1, zz1, e1 hd5, f0, g_36n hw f0 hd1]
      exact hQ
  have zz1 : iB (sayP t g 1) = 0 := iB_f h1
  by_cases h2 : sayP t g 2
  · have zz2 : iB (sayP t g 2) = 1 := iB_t h2
    have eB : (rBody t n g nm τ) = rShp t n g nm τ := by unfold rBody; rw [if_neg h0, if_neg h1, if_pos h2]
    obtain ⟨σ1, x1, F1, L1, z1, e1⟩ := g_31_25 hw ht hS hV
    rw [← eB] at F1 z1
    by_cases z : (rBody t n g nm τ).1 = 0
    · have f0 : σ1.1 2 5 = 0 := by rw [F1, z]; rfl
      obtain ⟨S1, V1⟩ := z1 z
      by_cases y : (rBody t n g nm τ).2.1 2 = 3
      · have c3 : (Int32.ofNat ((rBody t n g nm τ).2.1 2) = (3 : Int32)) ↔ True := iff_true_intro (by rw [y]; rfl)
        have eR : (rLin t n g nm τ) = (0, adv t n (rBody t n g nm τ).2.1, (rBody t n g nm τ).2.2) := by unfold rLin; rw [if_neg (fun q => q z), if_pos y]
        obtain ⟨σ2, f2, t2, e2⟩ := g_39 hw ht S1.1 V1.1
        refine ⟨σ2, frX_tr x1 (frX_R f2), by rw [eR, t2.2.2.2.2.2.1, adv_g (by omega), V1.2.1], by rw [f2.1 25 (by omega)]; exact L1, fun _ => ?_, fun hD => cV_of (m := 5) (fun d hd Q hQ => ?_) rfl hD⟩
        · rw [eR]
          refine ⟨⟨t2, fun i hi => ?_, tTold_R S1.2.2.1 f2 (by omega), by rw [f2.2]; exact S1.2.2.2⟩, vG_adv V1.1, ?_, V1.2.2.1, ?_⟩
          · have hi2 : i < adv t n (rBody t n g nm τ).2.1 5 := hi
            rw [adv_g (by omega)] at hi2
            rw [f2.1 14 (by omega)]; exact S1.2.1 i hi2
          · show adv t n (rBody t n g nm τ).2.1 3 = 0
            rw [adv_g (by omega)]; exact V1.2.1
          · show adv t n (rBody t n g nm τ).2.1 5 = _
            rw [adv_g (by omega)]; exact V1.2.2.2
        · have hd1 : 1 ≤ d := by omega
          have hd2 : 2 ≤ d := by omega
          have hd3 : 3 ≤ d := by omega
          have hd4 : 4 ≤ d := by omega
          have hd5 : 5 ≤ d := by omega
          have k4 := S1.1.2.2.2.2.1
          refine b28_0 ?_
          simp only [↓br_pos, ↓br_neg, ↓rF_I, ↓rF_L, ↓rF_R, ↓rF_N, rO_m, rB_m, ↓rI_m, wI_m, ↓rB2_m, ↓rB3_m, wB2_m, wB3_m, ↓rL_m, wL_m, ↓rQ_m, wQ_m, ↓lI_m, pI_m, pL_m, pR_m, sI_m, sBy_m, sBo_m, sL_m, sQ_m, fst_m, true_and, and_true, tg_some, ln_some, uI_1, uI_2, uL_1, uL_2, uL_3, uQ_1, uQ_2, uQ_3, rv_i, rv_l, rv_n, rv_b0, rv_b1, RMR, ne_eq, reduceCtorEq, not_false_eq_true, Option.getD_some, if_true, if_false, and_self, false_and, and_false, Nat.add_left_cancel_iff, Nat.add_eq_left, Nat.left_eq_add, Nat.one_ne_zero, Nat.reduceAdd, Nat.reduceLT, Nat.reduceLeDiff, Nat.reduceEqDiff, true_implies, false_implies, implies_true, Option.some.injEq, forall_eq', forall_eq, reduceCtorEq, brT, brF, br_s, i_10, i_01, ib_0_2, ib_1_2, tn_0, tn_1, Int32.le_refl, eq_self, rv_bN, rv_iM, RCX 0, RCG 2, RCT 4, RCT 15, RCT 25, RCS 35, RCS 49, RCH 63, RCP 67, RCB 72, RCR 77, RCM 81, RLY, lit_at hw, g_37 (i := 0) hw hG vg (by omega) hd1, zz0, g_37 (i := 1) hw hG vg (by omega) hd1, zz1, g_37 (i := 2) hw hG vg (by omega) hd1, zz2, e1 hd5, f0, k4, c3, e2 hd3]
          exact hQ
      · have c3 : (Int32.ofNat ((rBody t n g nm τ).2.1 2) = (3 : Int32)) ↔ False := iff_false_intro (fun q => y ((of_inj (b := 3) (by have := V1.1.2.2.2; omega) (by omega)).mp q))
        have eR : (rLin t n g nm τ) = (8 * (rBody t n g nm τ).2.1 0 + 1, (rBody t n g nm τ).2) := by unfold rLin; rw [if_neg (fun q => q z), if_neg y]
        refine ⟨uI σ1 2 5 (8 * Int32.ofNat ((rBody t n g nm τ).2.1 0) + 1), frX_tr x1 (frX_I (by omega)), by rw [eR, uI_1, if_pos ⟨rfl, rfl⟩]; exact f8_of, by rw [uI_1, if_neg (by omega)]; exact L1, fun q => absurd q (by rw [eR]; show ¬ 8 * (rBody t n g nm τ).2.1 0 + 1 = 0; omega), fun hD => cV_of (m := 5) (fun d hd Q hQ => ?_) rfl hD⟩
        have hd1 : 1 ≤ d := by omega
        have hd2 : 2 ≤ d := by omega
        have hd3 : 3 ≤ d := by omega
        have hd4 : 4 ≤ d := by omega
        have hd5 : 5 ≤ d := by omega
        have k4 := S1.1.2.2.2.2.1
        refine b28_0 ?_
        simp only [↓br_pos, ↓br_neg, ↓rF_I, ↓rF_L, ↓rF_R, ↓rF_N, rO_m, rB_m, ↓rI_m, wI_m, ↓rB2_m, ↓rB3_m, wB2_m, wB3_m, ↓rL_m, wL_m, ↓rQ_m, wQ_m, ↓lI_m, pI_m, pL_m, pR_m, sI_m, sBy_m, sBo_m, sL_m, sQ_m, fst_m, true_and, and_true, tg_some, ln_some, uI_1, uI_2, uL_1, uL_2, uL_3, uQ_1, uQ_2, uQ_3, rv_i, rv_l, rv_n, rv_b0, rv_b1, RMR, ne_eq, reduceCtorEq, not_false_eq_true, Option.getD_some, if_true, if_false, and_self, false_and, and_false, Nat.add_left_cancel_iff, Nat.add_eq_left, Nat.left_eq_add, Nat.one_ne_zero, Nat.reduceAdd, Nat.reduceLT, Nat.reduceLeDiff, Nat.reduceEqDiff, true_implies, false_implies, implies_true, Option.some.injEq, forall_eq', forall_eq, reduceCtorEq, brT, brF, br_s, i_10, i_01, ib_0_2, ib_1_2, tn_0, tn_1, Int32.le_refl, eq_self, rv_bN, rv_iM, RCX 0, RCG 2, RCT 4, RCT 15, RCT 25, RCS 35, RCS 49, RCH 63, RCP 67, RCB 72, RCR 77, RCM 81, RLY, lit_at hw, g_37 (i := 0) hw hG vg (by omega) hd1, zz0, g_37 (i := 1) hw hG vg (by omega) hd1, zz1, g_37 (i := 2) hw hG vg (by omega) hd1, zz2, e1 hd5, f0, k4, c3, g_36 hw S1.1.2.2.1 f0 hd1]
        exact hQ
    · have fl : (rBody t n g nm τ).1 < 5000 := rBody_lt vg
      have f0 : σ1.1 2 5 ≠ 0 := f8_ne F1 z (by omega)
      have eR : (rLin t n g nm τ) = (rBody t n g nm τ) := by unfold rLin; rw [if_pos z]
      refine ⟨σ1, x1, by rw [eR]; exact F1, L1, fun q => absurd q (by rw [eR]; exact z), fun hD => cV_of (m := 5) (fun d hd Q hQ => ?_) rfl hD⟩
      have hd1 : 1 ≤ d := by omega
      have hd2 : 2 ≤ d := by omega
      have hd3 : 3 ≤ d := by omega
      have hd4 : 4 ≤ d := by omega
      have hd5 : 5 ≤ d := by omega
      refine b28_0 ?_
      simp only [↓br_pos, ↓br_neg, ↓rF_I, ↓rF_L, ↓rF_R, ↓rF_N, rO_m, rB_m, ↓rI_m, wI_m, ↓rB2_m, ↓rB3_m, wB2_m, wB3_m, ↓rL_m, wL_m, ↓rQ_m, wQ_m, ↓lI_m, pI_m, pL_m, pR_m, sI_m, sBy_m, sBo_m, sL_m, sQ_m, fst_m, true_and, and_true, tg_some, ln_some, uI_1, uI_2, uL_1, uL_2, uL_3, uQ_1, uQ_2, uQ_3, rv_i, rv_l, rv_n, rv_b0, rv_b1, RMR, ne_eq, reduceCtorEq, not_false_eq_true, Option.getD_some, if_true, if_false, and_self, false_and, and_false, Nat.add_left_cancel_iff, Nat.add_eq_left, Nat.left_eq_add, Nat.one_ne_zero, Nat.reduceAdd, Nat.reduceLT, Nat.reduceLeDiff, Nat.reduceEqDiff, true_implies, false_implies, implies_true, Option.some.injEq, forall_eq', forall_eq, reduceCtorEq, brT, brF, br_s, i_10, i_01, ib_0_2, ib_1_2, tn_0, tn_1, Int32.le_refl, eq_self, rv_bN, rv_iM, RCX 0, RCG 2, RCT 4, RCT 15, RCT 25, RCS 35, RCS 49, RCH 63, RCP 67, RCB 72, RCR 77, RCM 81, RLY, lit_at hw, g_37 (i := 0) hw hG vg (by omega) hd1, zz0, g_37 (i := 1) hw hG vg (by omega) hd1, zz1, g_37 (i := 2) hw hG vg (by omega) hd1, zz2, e1 hd5, f0, g_36n hw f0 hd1]
      exact hQ
  have zz2 : iB (sayP t g 2) = 0 := iB_f h2
  by_cases h3 : sayP t g 3
  · have zz3 : iB (sayP t g 3) = 1 := iB_t h3
    have eB : (rBody t n g nm τ) = rGap t n g nm τ := by unfold rBody; rw [if_neg h0, if_neg h1, if_neg h2, if_pos h3]
    obtain ⟨σ1, x1, F1, L1, z1, e1⟩ := g_32_25 hw ht hS hV h4
    rw [← eB] at F1 z1
    by_cases z : (rBody t n g nm τ).1 = 0
    · have f0 : σ1.1 2 5 = 0 := by rw [F1, z]; rfl
      obtain ⟨S1, V1⟩ := z1 z
      by_cases y : (rBody t n g nm τ).2.1 2 = 3
      · have c3 : (Int32.ofNat ((rBody t n g nm τ).2.1 2) = (3 : Int32)) ↔ True := iff_true_intro (by rw [y]; rfl)
        have eR : (rLin t n g nm τ) = (0, adv t n (rBody t n g nm τ).2.1, (rBody t n g nm τ).2.2) := by unfold rLin; rw [if_neg (fun q => q z), if_pos y]
        obtain ⟨σ2, f2, t2, e2⟩ := g_39 hw ht S1.1 V1.1
        refine ⟨σ2, frX_tr x1 (frX_R f2), by rw [eR, t2.2.2.2.2.2.1, adv_g (by omega), V1.2.1], by rw [f2.1 25 (by omega)]; exact L1, fun _ => ?_, fun hD => cV_of (m := 5) (fun d hd Q hQ => ?_) rfl hD⟩
        · rw [eR]
          refine ⟨⟨t2, fun i hi => ?_, tTold_R S1.2.2.1 f2 (by omega), by rw [f2.2]; exact S1.2.2.2⟩, vG_adv V1.1, ?_, V1.2.2.1, ?_⟩
          · have hi2 : i < adv t n (rBody t n g nm τ).2.1 5 := hi
            rw [adv_g (by omega)] at hi2
            rw [f2.1 14 (by omega)]; exact S1.2.1 i hi2
          · show adv t n (rBody t n g nm τ).2.1 3 = 0
            rw [adv_g (by omega)]; exact V1.2.1
          · show adv t n (rBody t n g nm τ).2.1 5 = _
            rw [adv_g (by omega)]; exact V1.2.2.2
        · have hd1 : 1 ≤ d := by omega
          have hd2 : 2 ≤ d := by omega
          have hd3 : 3 ≤ d := by omega
          have hd4 : 4 ≤ d := by omega
          have hd5 : 5 ≤ d := by omega
          have k4 := S1.1.2.2.2.2.1
          refine b28_0 ?_
          simp only [↓br_pos, ↓br_neg, ↓rF_I, ↓rF_L, ↓rF_R, ↓rF_N, rO_m, rB_m, ↓rI_m, wI_m, ↓rB2_m, ↓rB3_m, wB2_m, wB3_m, ↓rL_m, wL_m, ↓rQ_m, wQ_m, ↓lI_m, pI_m, pL_m, pR_m, sI_m, sBy_m, sBo_m, sL_m, sQ_m, fst_m, true_and, and_true, tg_some, ln_some, uI_1, uI_2, uL_1, uL_2, uL_3, uQ_1, uQ_2, uQ_3, rv_i, rv_l, rv_n, rv_b0, rv_b1, RMR, ne_eq, reduceCtorEq, not_false_eq_true, Option.getD_some, if_true, if_false, and_self, false_and, and_false, Nat.add_left_cancel_iff, Nat.add_eq_left, Nat.left_eq_add, Nat.one_ne_zero, Nat.reduceAdd, Nat.reduceLT, Nat.reduceLeDiff, Nat.reduceEqDiff, true_implies, false_implies, implies_true, Option.some.injEq, forall_eq', forall_eq, reduceCtorEq, brT, brF, br_s, i_10, i_01, ib_0_2, ib_1_2, tn_0, tn_1, Int32.le_refl, eq_self, rv_bN, rv_iM, RCX 0, RCG 2, RCT 4, RCT 15, RCT 25, RCS 35, RCS 49, RCH 63, RCP 67, RCB 72, RCR 77, RCM 81, RLY, lit_at hw, g_37 (i := 0) hw hG vg (by omega) hd1, zz0, g_37 (i := 1) hw hG vg (by omega) hd1, zz1, g_37 (i := 2) hw hG vg (by omega) hd1, zz2, g_37 (i := 3) hw hG vg (by omega) hd1, zz3, e1 hd5, f0, k4, c3, e2 hd3]
          exact hQ
      · have c3 : (Int32.ofNat ((rBody t n g nm τ).2.1 2) = (3 : Int32)) ↔ False := iff_false_intro (fun q => y ((of_inj (b := 3) (by have := V1.1.2.2.2; omega) (by omega)).mp q))
        have eR : (rLin t n g nm τ) = (8 * (rBody t n g nm τ).2.1 0 + 1, (rBody t n g nm τ).2) := by unfold rLin; rw [if_neg (fun q => q z), if_neg y]
        refine ⟨uI σ1 2 5 (8 * Int32.ofNat ((rBody t n g nm τ).2.1 0) + 1), frX_tr x1 (frX_I (by omega)), by rw [eR, uI_1, if_pos ⟨rfl, rfl⟩]; exact f8_of, by rw [uI_1, if_neg (by omega)]; exact L1, fun q => absurd q (by rw [eR]; show ¬ 8 * (rBody t n g nm τ).2.1 0 + 1 = 0; omega), fun hD => cV_of (m := 5) (fun d hd Q hQ => ?_) rfl hD⟩
        have hd1 : 1 ≤ d := by omega
        have hd2 : 2 ≤ d := by omega
        have hd3 : 3 ≤ d := by omega
        have hd4 : 4 ≤ d := by omega
        have hd5 : 5 ≤ d := by omega
        have k4 := S1.1.2.2.2.2.1
        refine b28_0 ?_
        simp only [↓br_pos, ↓br_neg, ↓rF_I, ↓rF_L, ↓rF_R, ↓rF_N, rO_m, rB_m, ↓rI_m, wI_m, ↓rB2_m, ↓rB3_m, wB2_m, wB3_m, ↓rL_m, wL_m, ↓rQ_m, wQ_m, ↓lI_m, pI_m, pL_m, pR_m, sI_m, sBy_m, sBo_m, sL_m, sQ_m, fst_m, true_and, and_true, tg_some, ln_some, uI_1, uI_2, uL_1, uL_2, uL_3, uQ_1, uQ_2, uQ_3, rv_i, rv_l, rv_n, rv_b0, rv_b1, RMR, ne_eq, reduceCtorEq, not_false_eq_true, Option.getD_some, if_true, if_false, and_self, false_and, and_false, Nat.add_left_cancel_iff, Nat.add_eq_left, Nat.left_eq_add, Nat.one_ne_zero, Nat.reduceAdd, Nat.reduceLT, Nat.reduceLeDiff, Nat.reduceEqDiff, true_implies, false_implies, implies_true, Option.some.injEq, forall_eq', forall_eq, reduceCtorEq, brT, brF, br_s, i_10, i_01, ib_0_2, ib_1_2, tn_0, tn_1, Int32.le_refl, eq_self, rv_bN, rv_iM, RCX 0, RCG 2, RCT 4, RCT 15, RCT 25, RCS 35, RCS 49, RCH 63, RCP 67, RCB 72, RCR 77, RCM 81, RLY, lit_at hw, g_37 (i := 0) hw hG vg (by omega) hd1, zz0, g_37 (i := 1) hw hG vg (by omega) hd1, zz1, g_37 (i := 2) hw hG vg (by omega) hd1, zz2, g_37 (i := 3) hw hG vg (by omega) hd1, zz3, e1 hd5, f0, k4, c3, g_36 hw S1.1.2.2.1 f0 hd1]
        exact hQ
    · have fl : (rBody t n g nm τ).1 < 5000 := rBody_lt vg
      have f0 : σ1.1 2 5 ≠ 0 := f8_ne F1 z (by omega)
      have eR : (rLin t n g nm τ) = (rBody t n g nm τ) := by unfold rLin; rw [if_pos z]
      refine ⟨σ1, x1, by rw [eR]; exact F1, L1, fun q => absurd q (by rw [eR]; exact z), fun hD => cV_of (m := 5) (fun d hd Q hQ => ?_) rfl hD⟩
      have hd1 : 1 ≤ d := by omega
      have hd2 : 2 ≤ d := by omega
      have hd3 : 3 ≤ d := by omega
      have hd4 : 4 ≤ d := by omega
      have hd5 : 5 ≤ d := by omega
      refine b28_0 ?_
      simp only [↓br_pos, ↓br_neg, ↓rF_I, ↓rF_L, ↓rF_R, ↓rF_N, rO_m, rB_m, ↓rI_m, wI_m, ↓rB2_m, ↓rB3_m, wB2_m, wB3_m, ↓rL_m, wL_m, ↓rQ_m, wQ_m, ↓lI_m, pI_m, pL_m, pR_m, sI_m, sBy_m, sBo_m, sL_m, sQ_m, fst_m, true_and, and_true, tg_some, ln_some, uI_1, uI_2, uL_1, uL_2, uL_3, uQ_1, uQ_2, uQ_3, rv_i, rv_l, rv_n, rv_b0, rv_b1, RMR, ne_eq, reduceCtorEq, not_false_eq_true, Option.getD_some, if_true, if_false, and_self, false_and, and_false, Nat.add_left_cancel_iff, Nat.add_eq_left, Nat.left_eq_add, Nat.one_ne_zero, Nat.reduceAdd, Nat.reduceLT, Nat.reduceLeDiff, Nat.reduceEqDiff, true_implies, false_implies, implies_true, Option.some.injEq, forall_eq', forall_eq, reduceCtorEq, brT, brF, br_s, i_10, i_01, ib_0_2, ib_1_2, tn_0, tn_1, Int32.le_refl, eq_self, rv_bN, rv_iM, RCX 0, RCG 2, RCT 4, RCT 15, RCT 25, RCS 35, RCS 49, RCH 63, RCP 67, RCB 72, RCR 77, RCM 81, RLY, lit_at hw, g_37 (i := 0) hw hG vg (by omega) hd1, zz0, g_37 (i := 1) hw hG vg (by omega) hd1, zz1, g_37 (i := 2) hw hG vg (by omega) hd1, zz2, g_37 (i := 3) hw hG vg (by omega) hd1, zz3, e1 hd5, f0, g_36n hw f0 hd1]
      exact hQ
  have zz3 : iB (sayP t g 3) = 0 := iB_f h3
  have eB : (rBody t n g nm τ) = (8 * g 0 + 1, g, nm, τ) := by unfold rBody; rw [if_neg h0, if_neg h1, if_neg h2, if_neg h3]
  have nB : (rBody t n g nm τ).1 ≠ 0 := by rw [eB]; show 8 * g 0 + 1 ≠ 0; omega
  have eR : (rLin t n g nm τ) = (rBody t n g nm τ) := by unfold rLin; rw [if_pos nB]
  have n0 : (uI σ 2 5 (8 * Int32.ofNat (g 0) + 1)).1 2 5 ≠ 0 := by
    rw [uI_1, if_pos ⟨rfl, rfl⟩]; exact f8_ne (s := 8 * g 0 + 1) f8_of (by omega) (by have := vg.1; have := vg.2.1; have := vg.2.2.1; omega)
  refine ⟨uI σ 2 5 (8 * Int32.ofNat (g 0) + 1), frX_I (by omega), by rw [eR, eB, uI_1, if_pos ⟨rfl, rfl⟩]; exact f8_of, by rw [uI_1, if_neg (by omega)], fun q => absurd q (by rw [eR]; exact nB), fun hD => cV_of (m := 5) (fun d hd Q hQ => ?_) rfl hD⟩
  have hd1 : 1 ≤ d := by omega
  have hd2 : 2 ≤ d := by omega
  have hd3 : 3 ≤ d := by omega
  have hd4 : 4 ≤ d := by omega
  have hd5 : 5 ≤ d := by omega
  have n8 : ((8 : Int32) * Int32.ofNat (g 0) + 1 = 0) ↔ False := iff_false_intro (fun q => n0 (by rw [uI_1, if_pos ⟨rfl, rfl⟩]; exact q))
  refine b28_0 ?_
  simp only [↓br_pos, ↓br_neg, ↓rF_I, ↓rF_L, ↓rF_R, ↓rF_N, rO_m, rB_m, ↓rI_m, wI_m, ↓rB2_m, ↓rB3_m, wB2_m, wB3_m, ↓rL_m, wL_m, ↓rQ_m, wQ_m, ↓lI_m, pI_m, pL_m, pR_m, sI_m, sBy_m, sBo_m, sL_m, sQ_m, fst_m, true_and, and_true, tg_some, ln_some, uI_1, uI_2, uL_1, uL_2, uL_3, uQ_1, uQ_2, uQ_3, rv_i, rv_l, rv_n, rv_b0, rv_b1, RMR, ne_eq, reduceCtorEq, not_false_eq_true, Option.getD_some, if_true, if_false, and_self, false_and, and_false, Nat.add_left_cancel_iff, Nat.add_eq_left, Nat.left_eq_add, Nat.one_ne_zero, Nat.reduceAdd, Nat.reduceLT, Nat.reduceLeDiff, Nat.reduceEqDiff, true_implies, false_implies, implies_true, Option.some.injEq, forall_eq', forall_eq, reduceCtorEq, brT, brF, br_s, i_10, i_01, ib_0_2, ib_1_2, tn_0, tn_1, Int32.le_refl, eq_self, rv_bN, rv_iM, RCX 0, RCG 2, RCT 4, RCT 15, RCT 25, RCS 35, RCS 49, RCH 63, RCP 67, RCB 72, RCR 77, RCM 81, RLY, lit_at hw, g_37 (i := 0) hw hG vg (by omega) hd1, zz0, g_37 (i := 1) hw hG vg (by omega) hd1, zz1, g_37 (i := 2) hw hG vg (by omega) hd1, zz2, g_37 (i := 3) hw hG vg (by omega) hd1, zz3, g_36 hw hG.2.2.1 h50 hd1, n8, g_36n hw n0 hd1]
  exact hQ
theorem fault_end_25 {w : mT} {σ : mS} {F ln d : Nat} {x : Int32} {Q : Option (Option Value) → Hp → Prop} (hw : lit w) (i : Nat) (hi : i < 600) (h5 : σ.1 2 5 = Int32.ofNat F) (hF : (Int32.ofNat F = 0) ↔ False) (hQ : Q (some (some (.int (Int32.ofNat F)))) (mW w (uI σ 25 0 (Int32.ofNat (ln + 1))))) : Wp 27 51 [.ref 2, .ref 1, .int x, .ref 25, .int (Int32.ofNat (i + 1))] [] (mW w (uI σ 25 0 (Int32.ofNat (ln + 1)))) Q d := by
  refine b27_51 ?_
  by_cases a : (600 : Int32) ≤ Int32.ofNat (i + 1)
  · simp only [↓br_pos, ↓br_neg, ↓rF_I, ↓rF_L, ↓rF_R, ↓rF_N, rO_m, rB_m, ↓rI_m, wI_m, ↓rB2_m, ↓rB3_m, wB2_m, wB3_m, ↓rL_m, wL_m, ↓rQ_m, wQ_m, ↓lI_m, pI_m, pL_m, pR_m, sI_m, sBy_m, sBo_m, sL_m, sQ_m, fst_m, true_and, and_true, tg_some, ln_some, uI_1, uI_2, uL_1, uL_2, uL_3, uQ_1, uQ_2, uQ_3, rv_i, rv_l, rv_n, rv_b0, rv_b1, RMR, ne_eq, reduceCtorEq, not_false_eq_true, Option.getD_some, if_true, if_false, and_self, false_and, and_false, Nat.add_left_cancel_iff, Nat.add_eq_left, Nat.left_eq_add, Nat.one_ne_zero, Nat.reduceAdd, Nat.reduceLT, Nat.reduceLeDiff, Nat.reduceEqDiff, true_implies, false_implies, implies_true, Option.some.injEq, forall_eq', forall_eq, reduceCtorEq, brT, brF, br_s, i_10, i_01, ib_0_2, ib_1_2, tn_0, tn_1, Int32.le_refl, eq_self, rv_bN, rv_iM, RCX 0, RCG 2, RCT 4, RCT 15, RCT 25, RCS 35, RCS 49, RCH 63, RCP 67, RCB 72, RCR 77, RCM 81, RLY, lit_at hw, a, h5]
    exact hQ
  · by_cases b : σ.1 2 4 = 0
    · simp only [↓br_pos, ↓br_neg, ↓rF_I, ↓rF_L, ↓rF_R, ↓rF_N, rO_m, rB_m, ↓rI_m, wI_m, ↓rB2_m, ↓rB3_m, wB2_m, wB3_m, ↓rL_m, wL_m, ↓rQ_m, wQ_m, ↓lI_m, pI_m, pL_m, pR_m, sI_m, sBy_m, sBo_m, sL_m, sQ_m, fst_m, true_and, and_true, tg_some, ln_some, uI_1, uI_2, uL_1, uL_2, uL_3, uQ_1, uQ_2, uQ_3, rv_i, rv_l, rv_n, rv_b0, rv_b1, RMR, ne_eq, reduceCtorEq, not_false_eq_true, Option.getD_some, if_true, if_false, and_self, false_and, and_false, Nat.add_left_cancel_iff, Nat.add_eq_left, Nat.left_eq_add, Nat.one_ne_zero, Nat.reduceAdd, Nat.reduceLT, Nat.reduceLeDiff, Nat.reduceEqDiff, true_implies, false_implies, implies_true, Option.some.injEq, forall_eq', forall_eq, reduceCtorEq, brT, brF, br_s, i_10, i_01, ib_0_2, ib_1_2, tn_0, tn_1, Int32.le_refl, eq_self, rv_bN, rv_iM, RCX 0, RCG 2, RCT 4, RCT 15, RCT 25, RCS 35, RCS 49, RCH 63, RCP 67, RCB 72, RCR 77, RCM 81, RLY, lit_at hw, a, b, h5]
      exact hQ
    · simp only [↓br_pos, ↓br_neg, ↓rF_I, ↓rF_L, ↓rF_R, ↓rF_N, rO_m, rB_m, ↓rI_m, wI_m, ↓rB2_m, ↓rB3_m, wB2_m, wB3_m, ↓rL_m, wL_m, ↓rQ_m, wQ_m, ↓lI_m, pI_m, pL_m, pR_m, sI_m, sBy_m, sBo_m, sL_m, sQ_m, fst_m, true_and, and_true, tg_some, ln_some, uI_1, uI_2, uL_1, uL_2, uL_3, uQ_1, uQ_2, uQ_3, rv_i, rv_l, rv_n, rv_b0, rv_b1, RMR, ne_eq, reduceCtorEq, not_false_eq_true, Option.getD_some, if_true, if_false, and_self, false_and, and_false, Nat.add_left_cancel_iff, Nat.add_eq_left, Nat.left_eq_add, Nat.one_ne_zero, Nat.reduceAdd, Nat.reduceLT, Nat.reduceLeDiff, Nat.reduceEqDiff, true_implies, false_implies, implies_true, Option.some.injEq, forall_eq', forall_eq, reduceCtorEq, brT, brF, br_s, i_10, i_01, ib_0_2, ib_1_2, tn_0, tn_1, Int32.le_refl, eq_self, rv_bN, rv_iM, RCX 0, RCG 2, RCT 4, RCT 15, RCT 25, RCS 35, RCS 49, RCH 63, RCP 67, RCB 72, RCR 77, RCM 81, RLY, lit_at hw, a, b, h5, hF]
      exact hQ
theorem F_lt_25 {w : mT} {σ : mS} {t : Nat → Nat} {n : Nat} {g τ : Rw} {nm : Nat → Int32} (hw : lit w) (ht : ∀ i, t i < 256) (hS : rS σ t n 25 g nm τ) (hV : rV n g τ) (h4 : g 4 ≤ 1) : (rLin t n g nm τ).1 < 5000 := by
  refine rLin_lt hV.1 (fun z => ?_)
  unfold rBody at z ⊢
  split at z
  · rename_i h0
    rw [if_pos h0]
    obtain ⟨σ1, x1, F1, L1, z1, e1⟩ := g_29_25 hw ht hS hV
    have V := (z1 z).2.1
    have a := V.1; have b := V.2.1; have c := V.2.2.1
    omega
  · rename_i h0
    rw [if_neg h0]
    split at z
    · rename_i h1
      rw [if_pos h1]
      obtain ⟨σ1, x1, F1, L1, z1, e1⟩ := g_30_25 hw ht hS hV
      have V := (z1 z).2.1
      have a := V.1; have b := V.2.1; have c := V.2.2.1
      omega
    · rename_i h1
      rw [if_neg h1]
      split at z
      · rename_i h2
        rw [if_pos h2]
        obtain ⟨σ1, x1, F1, L1, z1, e1⟩ := g_31_25 hw ht hS hV
        have V := (z1 z).2.1
        have a := V.1; have b := V.2.1; have c := V.2.2.1
        omega
      · rename_i h2
        rw [if_neg h2]
        split at z
        · rename_i h3
          rw [if_pos h3]
          obtain ⟨σ1, x1, F1, L1, z1, e1⟩ := g_32_25 hw ht hS hV h4
          have V := (z1 z).2.1
          have a := V.1; have b := V.2.1; have c := V.2.2.1
          omega
        · exact absurd z (by show ¬ 8 * g 0 + 1 = 0; omega)
theorem lp_27_25 {w : mT} {t : Nat → Nat} {n : Nat} {x : Int32} (hw : lit w) (ht : ∀ i, t i < 256) : ∀ (k i : Nat) (σ : mS) (g τ : Rw) (nm : Nat → Int32) (ln : Nat), i + k = 600 → rS σ t n 25 g nm τ → rV n g τ → g 4 ≤ 1 → σ.1 25 0 = Int32.ofNat ln → ∃ σ', frX 25 σ σ' ∧ ((rLp t n k g nm τ ln).1 = 0 → tTold σ' 25 (rLp t n k g nm τ ln).2.1 ∧ vTold (rLp t n k g nm τ ln).2.1 ∧ σ'.1 25 0 = Int32.ofNat (rLp t n k g nm τ ln).2.2) ∧ (rLp t n k g nm τ ln).1 < 5000 ∧ ∀ {Q : Option (Option Value) → Hp → Prop} {d : Nat}, 6 ≤ d → Q (some (some (.int (Int32.ofNat (rLp t n k g nm τ ln).1)))) (mW w σ') → Wp 27 51 [.ref 2, .ref 1, .int x, .ref 25, .int (Int32.ofNat i)] [] (mW w σ) Q d := by
  intro k
  induction k with
  | zero =>
    intro i σ g τ nm ln hi hS hV h4 hl
    have hi' : i = 600 := by omega
    subst hi'
    have h5 : σ.1 2 5 = 0 := by rw [hS.1.2.2.2.2.2.1, hV.2.1]; rfl
    refine ⟨σ, frX_rf, fun _ => ⟨hS.2.2.1, hV.2.2.1, hl⟩, (by show 0 < 5000; omega), fun hd hQ => ?_⟩
    have l1 : ((600 : Int32) ≤ Int32.ofNat 600) ↔ True := by decide
    refine b27_51 ?_
    simp only [↓br_pos, ↓br_neg, ↓rF_I, ↓rF_L, ↓rF_R, ↓rF_N, rO_m, rB_m, ↓rI_m, wI_m, ↓rB2_m, ↓rB3_m, wB2_m, wB3_m, ↓rL_m, wL_m, ↓rQ_m, wQ_m, ↓lI_m, pI_m, pL_m, pR_m, sI_m, sBy_m, sBo_m, sL_m, sQ_m, fst_m, true_and, and_true, tg_some, ln_some, uI_1, uI_2, uL_1, uL_2, uL_3, uQ_1, uQ_2, uQ_3, rv_i, rv_l, rv_n, rv_b0, rv_b1, RMR, ne_eq, reduceCtorEq, not_false_eq_true, Option.getD_some, if_true, if_false, and_self, false_and, and_false, Nat.add_left_cancel_iff, Nat.add_eq_left, Nat.left_eq_add, Nat.one_ne_zero, Nat.reduceAdd, Nat.reduceLT, Nat.reduceLeDiff, Nat.reduceEqDiff, true_implies, false_implies, implies_true, Option.some.injEq, forall_eq', forall_eq, reduceCtorEq, brT, brF, br_s, i_10, i_01, ib_0_2, ib_1_2, tn_0, tn_1, Int32.le_refl, eq_self, rv_bN, rv_iM, RCX 0, RCG 2, RCT 4, RCT 15, RCT 25, RCS 35, RCS 49, RCH 63, RCP 67, RCB 72, RCR 77, RCM 81, RLY, lit_at hw, l1, h5]
    exact hQ
  | succ k ih =>
    intro i σ g τ nm ln hi hS hV h4 hl
    have h5 : σ.1 2 5 = 0 := by rw [hS.1.2.2.2.2.2.1, hV.2.1]; rfl
    have k4 := hS.1.2.2.2.2.1
    have l1 : ((600 : Int32) ≤ Int32.ofNat i) ↔ False := iff_false_intro (fun q => absurd ((on_le (i := 600) (by omega) (by omega)).mp q) (by omega))
    by_cases a : g 2 = 0
    · have c0 : (Int32.ofNat (g 2) = 0) ↔ True := iff_true_intro (by rw [a]; rfl)
      have eL : rLp t n (k + 1) g nm τ ln = (0, τ, ln) := if_pos a
      rw [eL]
      refine ⟨σ, frX_rf, fun _ => ⟨hS.2.2.1, hV.2.2.1, hl⟩, (by show 0 < 5000; omega), fun hd hQ => ?_⟩
      refine b27_51 ?_
      simp only [↓br_pos, ↓br_neg, ↓rF_I, ↓rF_L, ↓rF_R, ↓rF_N, rO_m, rB_m, ↓rI_m, wI_m, ↓rB2_m, ↓rB3_m, wB2_m, wB3_m, ↓rL_m, wL_m, ↓rQ_m, wQ_m, ↓lI_m, pI_m, pL_m, pR_m, sI_m, sBy_m, sBo_m, sL_m, sQ_m, fst_m, true_and, and_true, tg_some, ln_some, uI_1, uI_2, uL_1, uL_2, uL_3, uQ_1, uQ_2, uQ_3, rv_i, rv_l, rv_n, rv_b0, rv_b1, RMR, ne_eq, reduceCtorEq, not_false_eq_true, Option.getD_some, if_true, if_false, and_self, false_and, and_false, Nat.add_left_cancel_iff, Nat.add_eq_left, Nat.left_eq_add, Nat.one_ne_zero, Nat.reduceAdd, Nat.reduceLT, Nat.reduceLeDiff, Nat.reduceEqDiff, true_implies, false_implies, implies_true, Option.some.injEq, forall_eq', forall_eq, reduceCtorEq, brT, brF, br_s, i_10, i_01, ib_0_2, ib_1_2, tn_0, tn_1, Int32.le_refl, eq_self, rv_bN, rv_iM, RCX 0, RCG 2, RCT 4, RCT 15, RCT 25, RCS 35, RCS 49, RCH 63, RCP 67, RCB 72, RCR 77, RCM 81, RLY, lit_at hw, l1, k4, c0, h5]
      exact hQ
    · have c0 : (Int32.ofNat (g 2) = 0) ↔ False := iff_false_intro (fun q => a ((of_eq0 (by have := hV.1.2.2.2; omega)).mp q))
      obtain ⟨σ1, x1, F1, L1, z1, e1⟩ := g_28_25 hw ht hS hV h4
      have l0 : σ1.1 25 0 = Int32.ofNat ln := by rw [L1]; exact hl
      have hr4 := rLin_4 (t := t) (n := n) (τ := τ) (nm := nm) h4
      by_cases b : (rLin t n g nm τ).1 = 0
      · obtain ⟨S1, V1⟩ := z1 b
        have eL : rLp t n (k + 1) g nm τ ln = rLp t n k (rLin t n g nm τ).2.1 (rLin t n g nm τ).2.2.1 (rLin t n g nm τ).2.2.2 (ln + 1) := by
          show (if g 2 = 0 then _ else _) = _
          rw [if_neg a, if_neg (fun q => q b)]
        rw [eL]
        have S2 : rS (uI σ1 25 0 (Int32.ofNat (ln + 1))) t n 25 (rLin t n g nm τ).2.1 (rLin t n g nm τ).2.2.1 (rLin t n g nm τ).2.2.2 := by
          refine ⟨tG_I S1.1 (by omega), fun i hi => by rw [uI_1, if_neg (by omega)]; exact S1.2.1 i hi, ?_, S1.2.2.2⟩
          obtain ⟨h1', h2', h3', h4', h5', h6', h7'⟩ := S1.2.2.1
          refine ⟨?_, ?_, ?_, ?_, fun l hl => ⟨?_, ?_⟩, fun y hy => ?_, fun s hs => ?_⟩
          · rw [uI_1, if_neg (by omega)]; exact h1'
          · rw [uI_1, if_neg (by omega)]; exact h2'
          · rw [uI_1, if_neg (by omega)]; exact h3'
          · rw [uI_1, if_neg (by omega)]; exact h4'
          · rw [uI_1, if_neg (by omega)]; exact (h5' l hl).1
          · rw [uI_1, if_neg (by omega)]; exact (h5' l hl).2
          · rw [uI_1, if_neg (by omega)]; exact h6' y hy
          · rw [uI_1, if_neg (by omega), uI_1, if_neg (by omega), uI_1, if_neg (by omega), uI_1, if_neg (by omega), uI_1, if_neg (by omega), uI_1, if_neg (by omega)]
            exact h7' s hs
        obtain ⟨σ2, x2, z2, lt2, e2⟩ := ih (i + 1) (uI σ1 25 0 (Int32.ofNat (ln + 1))) _ _ _ (ln + 1) (by omega) S2 V1 hr4 (by rw [uI_1, if_pos ⟨rfl, rfl⟩])
        refine ⟨σ2, frX_tr x1 (frX_tr (frX_I (by omega)) x2), z2, lt2, fun hd hQ => ?_⟩
        refine b27_51 ?_
        simp only [↓br_pos, ↓br_neg, ↓rF_I, ↓rF_L, ↓rF_R, ↓rF_N, rO_m, rB_m, ↓rI_m, wI_m, ↓rB2_m, ↓rB3_m, wB2_m, wB3_m, ↓rL_m, wL_m, ↓rQ_m, wQ_m, ↓lI_m, pI_m, pL_m, pR_m, sI_m, sBy_m, sBo_m, sL_m, sQ_m, fst_m, true_and, and_true, tg_some, ln_some, uI_1, uI_2, uL_1, uL_2, uL_3, uQ_1, uQ_2, uQ_3, rv_i, rv_l, rv_n, rv_b0, rv_b1, RMR, ne_eq, reduceCtorEq, not_false_eq_true, Option.getD_some, if_true, if_false, and_self, false_and, and_false, Nat.add_left_cancel_iff, Nat.add_eq_left, Nat.left_eq_add, Nat.one_ne_zero, Nat.reduceAdd, Nat.reduceLT, Nat.reduceLeDiff, Nat.reduceEqDiff, true_implies, false_implies, implies_true, Option.some.injEq, forall_eq', forall_eq, reduceCtorEq, brT, brF, br_s, i_10, i_01, ib_0_2, ib_1_2, tn_0, tn_1, Int32.le_refl, eq_self, rv_bN, rv_iM, RCX 0, RCG 2, RCT 4, RCT 15, RCT 25, RCS 35, RCS 49, RCH 63, RCP 67, RCB 72, RCR 77, RCM 81, RLY, lit_at hw, l1, k4, c0, h5, e1 hd, l0, on_succ]
        exact e2 hd hQ
      · have eL : rLp t n (k + 1) g nm τ ln = ((rLin t n g nm τ).1, τ, ln + 1) := by
          show (if g 2 = 0 then _ else _) = _
          rw [if_neg a, if_pos b]
        rw [eL]
        have lt1 : (rLin t n g nm τ).1 < 5000 := F_lt_25 hw ht hS hV h4
        have n5 : σ1.1 2 5 ≠ 0 := f8_ne F1 b (by omega)
        have f5 : (Int32.ofNat (rLin t n g nm τ).1 = 0) ↔ False := iff_false_intro (fun q => b ((of_eq0 (by omega)).mp q))
        refine ⟨uI σ1 25 0 (Int32.ofNat (ln + 1)), frX_tr x1 (frX_I (by omega)), fun q => absurd q b, lt1, fun hd hQ => ?_⟩
        refine b27_51 ?_
        simp only [↓br_pos, ↓br_neg, ↓rF_I, ↓rF_L, ↓rF_R, ↓rF_N, rO_m, rB_m, ↓rI_m, wI_m, ↓rB2_m, ↓rB3_m, wB2_m, wB3_m, ↓rL_m, wL_m, ↓rQ_m, wQ_m, ↓lI_m, pI_m, pL_m, pR_m, sI_m, sBy_m, sBo_m, sL_m, sQ_m, fst_m, true_and, and_true, tg_some, ln_some, uI_1, uI_2, uL_1, uL_2, uL_3, uQ_1, uQ_2, uQ_3, rv_i, rv_l, rv_n, rv_b0, rv_b1, RMR, ne_eq, reduceCtorEq, not_false_eq_true, Option.getD_some, if_true, if_false, and_self, false_and, and_false, Nat.add_left_cancel_iff, Nat.add_eq_left, Nat.left_eq_add, Nat.one_ne_zero, Nat.reduceAdd, Nat.reduceLT, Nat.reduceLeDiff, Nat.reduceEqDiff, true_implies, false_implies, implies_true, Option.some.injEq, forall_eq', forall_eq, reduceCtorEq, brT, brF, br_s, i_10, i_01, ib_0_2, ib_1_2, tn_0, tn_1, Int32.le_refl, eq_self, rv_bN, rv_iM, RCX 0, RCG 2, RCT 4, RCT 15, RCT 25, RCS 35, RCS 49, RCH 63, RCP 67, RCB 72, RCR 77, RCM 81, RLY, lit_at hw, l1, k4, c0, h5, e1 hd, l0, on_succ]
        refine (fault_end_25 (ln := ln) hw i (by omega) F1 f5 ?_)
        exact hQ
