theorem g_21 {w : mT} {σ : mS} {r t m : Nat} {τ ρ : Rw} (hR : isS w r) (hT : isT w t) (hd : t + 10 ≤ r ∨ r + 14 ≤ t) (hρ : tSt σ r τ ρ) (hτ : tTold σ t τ) (hv : vTold τ) (h : vRow τ ρ) (hm : m < 2) (hn : 0 < ρ (10 + m)) : ∃ σ', frR r (r + 14) σ σ' ∧ tSt σ' r τ (kSt τ ρ m) ∧ ∀ {D : Nat} {K : Int32 → Hp → Prop}, 5 ≤ D → (wpI D 21 [.ref t, .ref r, .int (Int32.ofNat m)] (mW w σ) K ↔ K (iB (kW τ ρ m = true)) (mW w σ')) := by
  have hR' := hR
  simp only [isS] at hR'
  obtain ⟨p1, p2⟩ := pg_lt h hm hn
  have v1 := hv.2.1
  have v2 := (hv.2.2.2.2.2.1 _ p1).2
  have hs1 := onP_lt hv (vR_on h hm)
  have c0 : σ.1 (r + 13) (m * 48) = Int32.ofNat (pO ρ m) ∧ σ.1 (r + 13) (m * 48 + 2) = Int32.ofNat (gO ρ m) := by
    have : m = 0 ∨ m = 1 := by omega
    rcases this with rfl | rfl
    · exact ⟨(tS_o0 hρ hn).1, (tS_o0 hρ hn).2.2.1⟩
    · exact ⟨(tS_o1 hρ hn).1, (tS_o1 hρ hn).2.2⟩
  obtain ⟨o0, o2⟩ := c0
  have e48 : Int32.ofNat m * 8 * 6 = Int32.ofNat (m * 48) := by
    rw [show (8 : Int32) = Int32.ofNat 8 from rfl, show (6 : Int32) = Int32.ofNat 6 from rfl, of_mul, of_mul]
    congr 1; omega
  have i0 : Int32.ofNat (m * 48) + 0 = Int32.ofNat (m * 48) := Int32.add_zero _
  have i2 : Int32.ofNat (m * 48) + 2 = Int32.ofNat (m * 48 + 2) := of_add
  have eb0 : inB (Int32.ofNat (m * 48)) 96 = true := on_inB (by omega) (by omega)
  have eb2 : inB (Int32.ofNat (m * 48 + 2)) 96 = true := on_inB (by omega) (by omega)
  have en0 := on_nat (i := m * 48) (by omega)
  have en2 := on_nat (i := m * 48 + 2) (by omega)
  by_cases a : onAtD ρ m (pO ρ m) = true
  · have x1 := (sP_on hs1 (by omega)).mpr a
    have x2 := sCe_on a
    have oc := (on_cell hv h hm a).2
    by_cases b : cellAt ρ m = gO ρ m
    · have ew : kW τ ρ m = false := by unfold kW; rw [if_pos a, if_pos b]
      have ez : iB (kW τ ρ m = true) = 0 := iB_f (by rw [ew]; decide)
      have cb : (Int32.ofNat (cellAt ρ m) = Int32.ofNat (gO ρ m)) ↔ True := iff_true_intro (by rw [b])
      by_cases e : m = 1
      · have em : (Int32.ofNat m = 1) ↔ True := iff_true_intro (by rw [e]; decide)
        obtain ⟨σ1, f1, t1, e1⟩ := g_24 hR hT hρ hτ hv h (by subst e; exact hn) p1 p2
        refine ⟨σ1, f1, by unfold kSt; rw [if_pos a, if_pos b, if_pos e]; exact t1, fun hD => cI_of (m := 4) (fun d hd Q hQ => ?_) rfl hD⟩
        rw [ez] at hQ
        have hd1 : 1 ≤ d := by omega
        have hd2 : 2 ≤ d := by omega
        have hd3 : 3 ≤ d := by omega
        have hd4 : 4 ≤ d := by omega
        refine b21_0 ?_
        simp only [↓br_pos, ↓br_neg, ↓rF_I, ↓rF_L, ↓rF_R, ↓rF_N, rO_m, rB_m, ↓rI_m, wI_m, ↓rB2_m, ↓rB3_m, wB2_m, wB3_m, ↓rL_m, wL_m, ↓rQ_m, wQ_m, ↓lI_m, pI_m, pL_m, pR_m, sI_m, sBy_m, sBo_m, sL_m, sQ_m, fst_m, true_and, and_true, tg_some, ln_some, uI_1, uI_2, uL_1, uL_2, uL_3, uQ_1, uQ_2, uQ_3, rv_i, rv_l, rv_n, rv_b0, rv_b1, RMR, ne_eq, reduceCtorEq, not_false_eq_true, Option.getD_some, if_true, if_false, and_self, false_and, and_false, Nat.add_left_cancel_iff, Nat.add_eq_left, Nat.left_eq_add, Nat.one_ne_zero, Nat.reduceAdd, Nat.reduceLT, Nat.reduceLeDiff, Nat.reduceEqDiff, true_implies, false_implies, implies_true, Option.some.injEq, forall_eq', forall_eq, reduceCtorEq, brT, brF, br_s, i_10, i_01, ib_0_2, ib_1_2, tn_0, tn_1, Int32.le_refl, eq_self, rv_bN, rv_iM, RCS r, hR', g_65 hd1, e48, i0, i2, eb0, eb2, en0, en2, o0, o2]
        refine b21_25 ?_
        simp only [↓br_pos, ↓br_neg, ↓rF_I, ↓rF_L, ↓rF_R, ↓rF_N, rO_m, rB_m, ↓rI_m, wI_m, ↓rB2_m, ↓rB3_m, wB2_m, wB3_m, ↓rL_m, wL_m, ↓rQ_m, wQ_m, ↓lI_m, pI_m, pL_m, pR_m, sI_m, sBy_m, sBo_m, sL_m, sQ_m, fst_m, true_and, and_true, tg_some, ln_some, uI_1, uI_2, uL_1, uL_2, uL_3, uQ_1, uQ_2, uQ_3, rv_i, rv_l, rv_n, rv_b0, rv_b1, RMR, ne_eq, reduceCtorEq, not_false_eq_true, Option.getD_some, if_true, if_false, and_self, false_and, and_false, Nat.add_left_cancel_iff, Nat.add_eq_left, Nat.left_eq_add, Nat.one_ne_zero, Nat.reduceAdd, Nat.reduceLT, Nat.reduceLeDiff, Nat.reduceEqDiff, true_implies, false_implies, implies_true, Option.some.injEq, forall_eq', forall_eq, reduceCtorEq, brT, brF, br_s, i_10, i_01, ib_0_2, ib_1_2, tn_0, tn_1, Int32.le_refl, eq_self, rv_bN, rv_iM, RCS r, hR', g_52 hR hρ hm hs1 hd1, g_53 hR hρ hm hs1 hd1, x1, x2, cb, em, e1 hd4]
        exact hQ
      · have em : (Int32.ofNat m = 1) ↔ False := by
          have : m = 0 := by omega
          rw [this]; decide
        have e0 : m = 0 := by omega
        obtain ⟨σ1, f1, t1, e1⟩ := g_25 (p := pO ρ m) (g := gO ρ m) hR hT hd hρ hτ hv h (by subst e0; exact hn) (by subst e0; rfl) p2
        refine ⟨σ1, f1, by unfold kSt; rw [if_pos a, if_pos b, if_neg e]; exact t1, fun hD => cI_of (m := 4) (fun d hd Q hQ => ?_) rfl hD⟩
        rw [ez] at hQ
        have hd1 : 1 ≤ d := by omega
        have hd2 : 2 ≤ d := by omega
        have hd3 : 3 ≤ d := by omega
        have hd4 : 4 ≤ d := by omega
        refine b21_0 ?_
        simp only [↓br_pos, ↓br_neg, ↓rF_I, ↓rF_L, ↓rF_R, ↓rF_N, rO_m, rB_m, ↓rI_m, wI_m, ↓rB2_m, ↓rB3_m, wB2_m, wB3_m, ↓rL_m, wL_m, ↓rQ_m, wQ_m, ↓lI_m, pI_m, pL_m, pR_m, sI_m, sBy_m, sBo_m, sL_m, sQ_m, fst_m, true_and, and_true, tg_some, ln_some, uI_1, uI_2, uL_1, uL_2, uL_3, uQ_1, uQ_2, uQ_3, rv_i, rv_l, rv_n, rv_b0, rv_b1, RMR, ne_eq, reduceCtorEq, not_false_eq_true, Option.getD_some, if_true, if_false, and_self, false_and, and_false, Nat.add_left_cancel_iff, Nat.add_eq_left, Nat.left_eq_add, Nat.one_ne_zero, Nat.reduceAdd, Nat.reduceLT, Nat.reduceLeDiff, Nat.reduceEqDiff, true_implies, false_implies, implies_true, Option.some.injEq, forall_eq', forall_eq, reduceCtorEq, brT, brF, br_s, i_10, i_01, ib_0_2, ib_1_2, tn_0, tn_1, Int32.le_refl, eq_self, rv_bN, rv_iM, RCS r, hR', g_65 hd1, e48, i0, i2, eb0, eb2, en0, en2, o0, o2]
        refine b21_25 ?_
        simp only [↓br_pos, ↓br_neg, ↓rF_I, ↓rF_L, ↓rF_R, ↓rF_N, rO_m, rB_m, ↓rI_m, wI_m, ↓rB2_m, ↓rB3_m, wB2_m, wB3_m, ↓rL_m, wL_m, ↓rQ_m, wQ_m, ↓lI_m, pI_m, pL_m, pR_m, sI_m, sBy_m, sBo_m, sL_m, sQ_m, fst_m, true_and, and_true, tg_some, ln_some, uI_1, uI_2, uL_1, uL_2, uL_3, uQ_1, uQ_2, uQ_3, rv_i, rv_l, rv_n, rv_b0, rv_b1, RMR, ne_eq, reduceCtorEq, not_false_eq_true, Option.getD_some, if_true, if_false, and_self, false_and, and_false, Nat.add_left_cancel_iff, Nat.add_eq_left, Nat.left_eq_add, Nat.one_ne_zero, Nat.reduceAdd, Nat.reduceLT, Nat.reduceLeDiff, Nat.reduceEqDiff, true_implies, false_implies, implies_true, Option.some.injEq, forall_eq', forall_eq, reduceCtorEq, brT, brF, br_s, i_10, i_01, ib_0_2, ib_1_2, tn_0, tn_1, Int32.le_refl, eq_self, rv_bN, rv_iM, RCS r, hR', g_52 hR hρ hm hs1 hd1, g_53 hR hρ hm hs1 hd1, x1, x2, cb, em, e1 hd4]
        exact hQ
    · have cb : (Int32.ofNat (cellAt ρ m) = Int32.ofNat (gO ρ m)) ↔ False := iff_false_intro (fun q => b ((of_inj (Nat.lt_trans cAt_lt (by omega)) (by omega)).mp q))
      have nl := nx_lt oc p2
      obtain ⟨σ1, f1, t1, e1⟩ := g_23 (p := pO ρ m) (c := nx (cellAt ρ m) (gO ρ m)) hR hT hρ hτ hv h hm (by omega) (by omega)
      have ew : kW τ ρ m = decide (¬ frP τ ρ m (pO ρ m) (nx (cellAt ρ m) (gO ρ m))) := by unfold kW; rw [if_pos a, if_neg b]
      have cc := cAt_lt (ρ := ρ) (m := m)
      refine ⟨σ1, f1, by unfold kSt; rw [if_pos a, if_neg b]; exact t1, fun hD => cI_of (m := 4) (fun d hd Q hQ => ?_) rfl hD⟩
      rw [ew] at hQ
      have hd1 : 1 ≤ d := by omega
      have hd2 : 2 ≤ d := by omega
      have hd3 : 3 ≤ d := by omega
      have hd4 : 4 ≤ d := by omega
      refine b21_0 ?_
      simp only [↓br_pos, ↓br_neg, ↓rF_I, ↓rF_L, ↓rF_R, ↓rF_N, rO_m, rB_m, ↓rI_m, wI_m, ↓rB2_m, ↓rB3_m, wB2_m, wB3_m, ↓rL_m, wL_m, ↓rQ_m, wQ_m, ↓lI_m, pI_m, pL_m, pR_m, sI_m, sBy_m, sBo_m, sL_m, sQ_m, fst_m, true_and, and_true, tg_some, ln_some, uI_1, uI_2, uL_1, uL_2, uL_3, uQ_1, uQ_2, uQ_3, rv_i, rv_l, rv_n, rv_b0, rv_b1, RMR, ne_eq, reduceCtorEq, not_false_eq_true, Option.getD_some, if_true, if_false, and_self, false_and, and_false, Nat.add_left_cancel_iff, Nat.add_eq_left, Nat.left_eq_add, Nat.one_ne_zero, Nat.reduceAdd, Nat.reduceLT, Nat.reduceLeDiff, Nat.reduceEqDiff, true_implies, false_implies, implies_true, Option.some.injEq, forall_eq', forall_eq, reduceCtorEq, brT, brF, br_s, i_10, i_01, ib_0_2, ib_1_2, tn_0, tn_1, Int32.le_refl, eq_self, rv_bN, rv_iM, RCS r, hR', g_65 hd1, e48, i0, i2, eb0, eb2, en0, en2, o0, o2]
      refine b21_25 ?_
      by_cases z : frP τ ρ m (pO ρ m) (nx (cellAt ρ m) (gO ρ m))
      · have ez : iB (frP τ ρ m (pO ρ m) (nx (cellAt ρ m) (gO ρ m))) = 1 := iB_t z
        rw [iB_f (by rw [decide_eq_true_eq]; exact fun q => q z)] at hQ
        by_cases l : cellAt ρ m < gO ρ m
        · have cl : (Int32.ofNat (gO ρ m) ≤ Int32.ofNat (cellAt ρ m)) ↔ False := iff_false_intro (fun q => absurd ((on_le (by omega) (by omega)).mp q) (by omega))
          have en : nx (cellAt ρ m) (gO ρ m) = cellAt ρ m + 1 := if_pos l
          rw [en] at e1 ez
          simp only [↓br_pos, ↓br_neg, ↓rF_I, ↓rF_L, ↓rF_R, ↓rF_N, rO_m, rB_m, ↓rI_m, wI_m, ↓rB2_m, ↓rB3_m, wB2_m, wB3_m, ↓rL_m, wL_m, ↓rQ_m, wQ_m, ↓lI_m, pI_m, pL_m, pR_m, sI_m, sBy_m, sBo_m, sL_m, sQ_m, fst_m, true_and, and_true, tg_some, ln_some, uI_1, uI_2, uL_1, uL_2, uL_3, uQ_1, uQ_2, uQ_3, rv_i, rv_l, rv_n, rv_b0, rv_b1, RMR, ne_eq, reduceCtorEq, not_false_eq_true, Option.getD_some, if_true, if_false, and_self, false_and, and_false, Nat.add_left_cancel_iff, Nat.add_eq_left, Nat.left_eq_add, Nat.one_ne_zero, Nat.reduceAdd, Nat.reduceLT, Nat.reduceLeDiff, Nat.reduceEqDiff, true_implies, false_implies, implies_true, Option.some.injEq, forall_eq', forall_eq, reduceCtorEq, brT, brF, br_s, i_10, i_01, ib_0_2, ib_1_2, tn_0, tn_1, Int32.le_refl, eq_self, rv_bN, rv_iM, RCS r, hR', g_52 hR hρ hm hs1 hd1, g_53 hR hρ hm hs1 hd1, x1, x2, cb, cl, on_succ, e1 hd3, ez]
          exact hQ
        · have cl : (Int32.ofNat (gO ρ m) ≤ Int32.ofNat (cellAt ρ m)) ↔ True := iff_true_intro ((on_le (by omega) (by omega)).mpr (by omega))
          have en : nx (cellAt ρ m) (gO ρ m) = cellAt ρ m - 1 := if_neg l
          have em : Int32.ofNat (cellAt ρ m) - 1 = Int32.ofNat (cellAt ρ m - 1) := st_m1 (by omega)
          rw [en] at e1 ez
          simp only [↓br_pos, ↓br_neg, ↓rF_I, ↓rF_L, ↓rF_R, ↓rF_N, rO_m, rB_m, ↓rI_m, wI_m, ↓rB2_m, ↓rB3_m, wB2_m, wB3_m, ↓rL_m, wL_m, ↓rQ_m, wQ_m, ↓lI_m, pI_m, pL_m, pR_m, sI_m, sBy_m, sBo_m, sL_m, sQ_m, fst_m, true_and, and_true, tg_some, ln_some, uI_1, uI_2, uL_1, uL_2, uL_3, uQ_1, uQ_2, uQ_3, rv_i, rv_l, rv_n, rv_b0, rv_b1, RMR, ne_eq, reduceCtorEq, not_false_eq_true, Option.getD_some, if_true, if_false, and_self, false_and, and_false, Nat.add_left_cancel_iff, Nat.add_eq_left, Nat.left_eq_add, Nat.one_ne_zero, Nat.reduceAdd, Nat.reduceLT, Nat.reduceLeDiff, Nat.reduceEqDiff, true_implies, false_implies, implies_true, Option.some.injEq, forall_eq', forall_eq, reduceCtorEq, brT, brF, br_s, i_10, i_01, ib_0_2, ib_1_2, tn_0, tn_1, Int32.le_refl, eq_self, rv_bN, rv_iM, RCS r, hR', g_52 hR hρ hm hs1 hd1, g_53 hR hρ hm hs1 hd1, x1, x2, cb, cl, em, e1 hd3, ez]
          exact hQ
      · have ez : iB (frP τ ρ m (pO ρ m) (nx (cellAt ρ m) (gO ρ m))) = 0 := iB_f z
        rw [iB_t (by rw [decide_eq_true_eq]; exact z)] at hQ
        by_cases l : cellAt ρ m < gO ρ m
        · have cl : (Int32.ofNat (gO ρ m) ≤ Int32.ofNat (cellAt ρ m)) ↔ False := iff_false_intro (fun q => absurd ((on_le (by omega) (by omega)).mp q) (by omega))
          have en : nx (cellAt ρ m) (gO ρ m) = cellAt ρ m + 1 := if_pos l
          rw [en] at e1 ez
          simp only [↓br_pos, ↓br_neg, ↓rF_I, ↓rF_L, ↓rF_R, ↓rF_N, rO_m, rB_m, ↓rI_m, wI_m, ↓rB2_m, ↓rB3_m, wB2_m, wB3_m, ↓rL_m, wL_m, ↓rQ_m, wQ_m, ↓lI_m, pI_m, pL_m, pR_m, sI_m, sBy_m, sBo_m, sL_m, sQ_m, fst_m, true_and, and_true, tg_some, ln_some, uI_1, uI_2, uL_1, uL_2, uL_3, uQ_1, uQ_2, uQ_3, rv_i, rv_l, rv_n, rv_b0, rv_b1, RMR, ne_eq, reduceCtorEq, not_false_eq_true, Option.getD_some, if_true, if_false, and_self, false_and, and_false, Nat.add_left_cancel_iff, Nat.add_eq_left, Nat.left_eq_add, Nat.one_ne_zero, Nat.reduceAdd, Nat.reduceLT, Nat.reduceLeDiff, Nat.reduceEqDiff, true_implies, false_implies, implies_true, Option.some.injEq, forall_eq', forall_eq, reduceCtorEq, brT, brF, br_s, i_10, i_01, ib_0_2, ib_1_2, tn_0, tn_1, Int32.le_refl, eq_self, rv_bN, rv_iM, RCS r, hR', g_52 hR hρ hm hs1 hd1, g_53 hR hρ hm hs1 hd1, x1, x2, cb, cl, on_succ, e1 hd3, ez]
          exact hQ
        · have cl : (Int32.ofNat (gO ρ m) ≤ Int32.ofNat (cellAt ρ m)) ↔ True := iff_true_intro ((on_le (by omega) (by omega)).mpr (by omega))
          have en : nx (cellAt ρ m) (gO ρ m) = cellAt ρ m - 1 := if_neg l
          have em : Int32.ofNat (cellAt ρ m) - 1 = Int32.ofNat (cellAt ρ m - 1) := st_m1 (by omega)
          rw [en] at e1 ez
          simp only [↓br_pos, ↓br_neg, ↓rF_I, ↓rF_L, ↓rF_R, ↓rF_N, rO_m, rB_m, ↓rI_m, wI_m, ↓rB2_m, ↓rB3_m, wB2_m, wB3_m, ↓rL_m, wL_m, ↓rQ_m, wQ_m, ↓lI_m, pI_m, pL_m, pR_m, sI_m, sBy_m, sBo_m, sL_m, sQ_m, fst_m, true_and, and_true, tg_some, ln_some, uI_1, uI_2, uL_1, uL_2, uL_3, uQ_1, uQ_2, uQ_3, rv_i, rv_l, rv_n, rv_b0, rv_b1, RMR, ne_eq, reduceCtorEq, not_false_eq_true, Option.getD_some, if_true, if_false, and_self, false_and, and_false, Nat.add_left_cancel_iff, Nat.add_eq_left, Nat.left_eq_add, Nat.one_ne_zero, Nat.reduceAdd, Nat.reduceLT, Nat.reduceLeDiff, Nat.reduceEqDiff, true_implies, false_implies, implies_true, Option.some.injEq, forall_eq', forall_eq, reduceCtorEq, brT, brF, br_s, i_10, i_01, ib_0_2, ib_1_2, tn_0, tn_1, Int32.le_refl, eq_self, rv_bN, rv_iM, RCS r, hR', g_52 hR hρ hm hs1 hd1, g_53 hR hρ hm hs1 hd1, x1, x2, cb, cl, em, e1 hd3, ez]
          exact hQ
  · have x1 : (sP ρ m = Int32.ofNat (pO ρ m)) ↔ False := iff_false_intro (fun q => a ((sP_on hs1 (by omega)).mp q))
    obtain ⟨σ1, f1, t1, e1⟩ := g_22 hR hT hd hρ hτ hv h hm p1 p2
    have ew : kW τ ρ m = decide (¬ ρ (6 + m) < 10 ∧ ¬ frP τ ρ m (pO ρ m) (gO ρ m)) := by unfold kW; rw [if_neg a]
    refine ⟨σ1, f1, by unfold kSt; rw [if_neg a]; exact t1, fun hD => cI_of (m := 4) (fun d hd Q hQ => ?_) rfl hD⟩
    rw [ew] at hQ
    have hd1 : 1 ≤ d := by omega
    have hd2 : 2 ≤ d := by omega
    have hd3 : 3 ≤ d := by omega
    have hd4 : 4 ≤ d := by omega
    refine b21_0 ?_
    simp only [↓br_pos, ↓br_neg, ↓rF_I, ↓rF_L, ↓rF_R, ↓rF_N, rO_m, rB_m, ↓rI_m, wI_m, ↓rB2_m, ↓rB3_m, wB2_m, wB3_m, ↓rL_m, wL_m, ↓rQ_m, wQ_m, ↓lI_m, pI_m, pL_m, pR_m, sI_m, sBy_m, sBo_m, sL_m, sQ_m, fst_m, true_and, and_true, tg_some, ln_some, uI_1, uI_2, uL_1, uL_2, uL_3, uQ_1, uQ_2, uQ_3, rv_i, rv_l, rv_n, rv_b0, rv_b1, RMR, ne_eq, reduceCtorEq, not_false_eq_true, Option.getD_some, if_true, if_false, and_self, false_and, and_false, Nat.add_left_cancel_iff, Nat.add_eq_left, Nat.left_eq_add, Nat.one_ne_zero, Nat.reduceAdd, Nat.reduceLT, Nat.reduceLeDiff, Nat.reduceEqDiff, true_implies, false_implies, implies_true, Option.some.injEq, forall_eq', forall_eq, reduceCtorEq, brT, brF, br_s, i_10, i_01, ib_0_2, ib_1_2, tn_0, tn_1, Int32.le_refl, eq_self, rv_bN, rv_iM, RCS r, hR', g_65 hd1, e48, i0, i2, eb0, eb2, en0, en2, o0, o2]
    refine b21_25 ?_
    by_cases z : ¬ ρ (6 + m) < 10 ∧ ¬ frP τ ρ m (pO ρ m) (gO ρ m)
    · have ez : iB (¬ (¬ ρ (6 + m) < 10 ∧ ¬ frP τ ρ m (pO ρ m) (gO ρ m))) = 0 := iB_f (fun q => q z)
      rw [iB_t (by rw [decide_eq_true_eq]; exact z)] at hQ
      simp only [↓br_pos, ↓br_neg, ↓rF_I, ↓rF_L, ↓rF_R, ↓rF_N, rO_m, rB_m, ↓rI_m, wI_m, ↓rB2_m, ↓rB3_m, wB2_m, wB3_m, ↓rL_m, wL_m, ↓rQ_m, wQ_m, ↓lI_m, pI_m, pL_m, pR_m, sI_m, sBy_m, sBo_m, sL_m, sQ_m, fst_m, true_and, and_true, tg_some, ln_some, uI_1, uI_2, uL_1, uL_2, uL_3, uQ_1, uQ_2, uQ_3, rv_i, rv_l, rv_n, rv_b0, rv_b1, RMR, ne_eq, reduceCtorEq, not_false_eq_true, Option.getD_some, if_true, if_false, and_self, false_and, and_false, Nat.add_left_cancel_iff, Nat.add_eq_left, Nat.left_eq_add, Nat.one_ne_zero, Nat.reduceAdd, Nat.reduceLT, Nat.reduceLeDiff, Nat.reduceEqDiff, true_implies, false_implies, implies_true, Option.some.injEq, forall_eq', forall_eq, reduceCtorEq, brT, brF, br_s, i_10, i_01, ib_0_2, ib_1_2, tn_0, tn_1, Int32.le_refl, eq_self, rv_bN, rv_iM, RCS r, hR', g_52 hR hρ hm hs1 hd1, x1, e1 hd4, ez]
      exact hQ
    · have ez : iB (¬ (¬ ρ (6 + m) < 10 ∧ ¬ frP τ ρ m (pO ρ m) (gO ρ m))) = 1 := iB_t z
      rw [iB_f (by rw [decide_eq_true_eq]; exact z)] at hQ
      simp only [↓br_pos, ↓br_neg, ↓rF_I, ↓rF_L, ↓rF_R, ↓rF_N, rO_m, rB_m, ↓rI_m, wI_m, ↓rB2_m, ↓rB3_m, wB2_m, wB3_m, ↓rL_m, wL_m, ↓rQ_m, wQ_m, ↓lI_m, pI_m, pL_m, pR_m, sI_m, sBy_m, sBo_m, sL_m, sQ_m, fst_m, true_and, and_true, tg_some, ln_some, uI_1, uI_2, uL_1, uL_2, uL_3, uQ_1, uQ_2, uQ_3, rv_i, rv_l, rv_n, rv_b0, rv_b1, RMR, ne_eq, reduceCtorEq, not_false_eq_true, Option.getD_some, if_true, if_false, and_self, false_and, and_false, Nat.add_left_cancel_iff, Nat.add_eq_left, Nat.left_eq_add, Nat.one_ne_zero, Nat.reduceAdd, Nat.reduceLT, Nat.reduceLeDiff, Nat.reduceEqDiff, true_implies, false_implies, implies_true, Option.some.injEq, forall_eq', forall_eq, reduceCtorEq, brT, brF, br_s, i_10, i_01, ib_0_2, ib_1_2, tn_0, tn_1, Int32.le_refl, eq_self, rv_bN, rv_iM, RCS r, hR', g_52 hR hρ hm hs1 hd1, x1, e1 hd4, ez]
      exact hQ
/-! passes -/
theorem lp_150' {t r d : Nat} {hp : Hp} {a2 a3 a4 a5 a6 a7 : Int32} {A4 A5 A6 A7 : Prop} [Decidable A4] [Decidable A5] [Decidable A6] [Decidable A7] {Q : Option (Option Value) → Hp → Prop} (e4 : (a4 = 0) ↔ ¬ A4) (e5 : (a5 = 0) ↔ ¬ A5) (e6 : (a6 = 0) ↔ ¬ A6) (e7 : (a7 = 0) ↔ ¬ A7) (hQ : Q (some (some (.int (iB ((A6 ∧ A7) ∧ (A4 ∨ A5)))))) hp) : Wp 20 150 [.ref t, .ref r, .int a2, .int a3, .int a4, .int a5, .int a6, .int a7] [] hp Q d := by
  refine b20_150 ?_
  by_cases h6 : A6
  · have c6 : (a6 = 0) ↔ False := iff_false_intro (fun q => e6.mp q h6)
    by_cases h7 : A7
    · have c7 : (a7 = 0) ↔ False := iff_false_intro (fun q => e7.mp q h7)
      by_cases h4 : A4
      · have c4 : (a4 = 0) ↔ False := iff_false_intro (fun q => e4.mp q h4)
        rw [iB_t ⟨⟨h6, h7⟩, Or.inl h4⟩] at hQ
        simp only [↓br_pos, ↓br_neg, ↓rF_I, ↓rF_L, ↓rF_R, ↓rF_N, rO_m, rB_m, ↓rI_m, wI_m, ↓rB2_m, ↓rB3_m, wB2_m, wB3_m, ↓rL_m, wL_m, ↓rQ_m, wQ_m, ↓lI_m, pI_m, pL_m, pR_m, sI_m, sBy_m, sBo_m, sL_m, sQ_m, fst_m, true_and, and_true, tg_some, ln_some, uI_1, uI_2, uL_1, uL_2, uL_3, uQ_1, uQ_2, uQ_3, rv_i, rv_l, rv_n, rv_b0, rv_b1, RMR, ne_eq, reduceCtorEq, not_false_eq_true, Option.getD_some, if_true, if_false, and_self, false_and, and_false, Nat.add_left_cancel_iff, Nat.add_eq_left, Nat.left_eq_add, Nat.one_ne_zero, Nat.reduceAdd, Nat.reduceLT, Nat.reduceLeDiff, Nat.reduceEqDiff, true_implies, false_implies, implies_true, Option.some.injEq, forall_eq', forall_eq, reduceCtorEq, brT, brF, br_s, i_10, i_01, ib_0_2, ib_1_2, tn_0, tn_1, Int32.le_refl, eq_self, rv_bN, rv_iM, c6, c7, c4]
        exact hQ
      · have c4 : (a4 = 0) ↔ True := iff_true_intro (e4.mpr h4)
        by_cases h5 : A5
        · have c5 : (a5 = 0) ↔ False := iff_false_intro (fun q => e5.mp q h5)
          rw [iB_t ⟨⟨h6, h7⟩, Or.inr h5⟩] at hQ
          simp only [↓br_pos, ↓br_neg, ↓rF_I, ↓rF_L, ↓rF_R, ↓rF_N, rO_m, rB_m, ↓rI_m, wI_m, ↓rB2_m, ↓rB3_m, wB2_m, wB3_m, ↓rL_m, wL_m, ↓rQ_m, wQ_m, ↓lI_m, pI_m, pL_m, pR_m, sI_m, sBy_m, sBo_m, sL_m, sQ_m, fst_m, true_and, and_true, tg_some, ln_some, uI_1, uI_2, uL_1, uL_2, uL_3, uQ_1, uQ_2, uQ_3, rv_i, rv_l, rv_n, rv_b0, rv_b1, RMR, ne_eq, reduceCtorEq, not_false_eq_true, Option.getD_some, if_true, if_false, and_self, false_and, and_false, Nat.add_left_cancel_iff, Nat.add_eq_left, Nat.left_eq_add, Nat.one_ne_zero, Nat.reduceAdd, Nat.reduceLT, Nat.reduceLeDiff, Nat.reduceEqDiff, true_implies, false_implies, implies_true, Option.some.injEq, forall_eq', forall_eq, reduceCtorEq, brT, brF, br_s, i_10, i_01, ib_0_2, ib_1_2, tn_0, tn_1, Int32.le_refl, eq_self, rv_bN, rv_iM, c6, c7, c4, c5]
          exact hQ
        · have c5 : (a5 = 0) ↔ True := iff_true_intro (e5.mpr h5)
          rw [iB_f (fun q => q.2.elim h4 h5)] at hQ
          simp only [↓br_pos, ↓br_neg, ↓rF_I, ↓rF_L, ↓rF_R, ↓rF_N, rO_m, rB_m, ↓rI_m, wI_m, ↓rB2_m, ↓rB3_m, wB2_m, wB3_m, ↓rL_m, wL_m, ↓rQ_m, wQ_m, ↓lI_m, pI_m, pL_m, pR_m, sI_m, sBy_m, sBo_m, sL_m, sQ_m, fst_m, true_and, and_true, tg_some, ln_some, uI_1, uI_2, uL_1, uL_2, uL_3, uQ_1, uQ_2, uQ_3, rv_i, rv_l, rv_n, rv_b0, rv_b1, RMR, ne_eq, reduceCtorEq, not_false_eq_true, Option.getD_some, if_true, if_false, and_self, false_and, and_false, Nat.add_left_cancel_iff, Nat.add_eq_left, Nat.left_eq_add, Nat.one_ne_zero, Nat.reduceAdd, Nat.reduceLT, Nat.reduceLeDiff, Nat.reduceEqDiff, true_implies, false_implies, implies_true, Option.some.injEq, forall_eq', forall_eq, reduceCtorEq, brT, brF, br_s, i_10, i_01, ib_0_2, ib_1_2, tn_0, tn_1, Int32.le_refl, eq_self, rv_bN, rv_iM, c6, c7, c4, c5]
          exact hQ
    · have c7 : (a7 = 0) ↔ True := iff_true_intro (e7.mpr h7)
      rw [iB_f (fun q => h7 q.1.2)] at hQ
      simp only [↓br_pos, ↓br_neg, ↓rF_I, ↓rF_L, ↓rF_R, ↓rF_N, rO_m, rB_m, ↓rI_m, wI_m, ↓rB2_m, ↓rB3_m, wB2_m, wB3_m, ↓rL_m, wL_m, ↓rQ_m, wQ_m, ↓lI_m, pI_m, pL_m, pR_m, sI_m, sBy_m, sBo_m, sL_m, sQ_m, fst_m, true_and, and_true, tg_some, ln_some, uI_1, uI_2, uL_1, uL_2, uL_3, uQ_1, uQ_2, uQ_3, rv_i, rv_l, rv_n, rv_b0, rv_b1, RMR, ne_eq, reduceCtorEq, not_false_eq_true, Option.getD_some, if_true, if_false, and_self, false_and, and_false, Nat.add_left_cancel_iff, Nat.add_eq_left, Nat.left_eq_add, Nat.one_ne_zero, Nat.reduceAdd, Nat.reduceLT, Nat.reduceLeDiff, Nat.reduceEqDiff, true_implies, false_implies, implies_true, Option.some.injEq, forall_eq', forall_eq, reduceCtorEq, brT, brF, br_s, i_10, i_01, ib_0_2, ib_1_2, tn_0, tn_1, Int32.le_refl, eq_self, rv_bN, rv_iM, c6, c7]
      exact hQ
  · have c6 : (a6 = 0) ↔ True := iff_true_intro (e6.mpr h6)
    rw [iB_f (fun q => h6 q.1.1)] at hQ
    simp only [↓br_pos, ↓br_neg, ↓rF_I, ↓rF_L, ↓rF_R, ↓rF_N, rO_m, rB_m, ↓rI_m, wI_m, ↓rB2_m, ↓rB3_m, wB2_m, wB3_m, ↓rL_m, wL_m, ↓rQ_m, wQ_m, ↓lI_m, pI_m, pL_m, pR_m, sI_m, sBy_m, sBo_m, sL_m, sQ_m, fst_m, true_and, and_true, tg_some, ln_some, uI_1, uI_2, uL_1, uL_2, uL_3, uQ_1, uQ_2, uQ_3, rv_i, rv_l, rv_n, rv_b0, rv_b1, RMR, ne_eq, reduceCtorEq, not_false_eq_true, Option.getD_some, if_true, if_false, and_self, false_and, and_false, Nat.add_left_cancel_iff, Nat.add_eq_left, Nat.left_eq_add, Nat.one_ne_zero, Nat.reduceAdd, Nat.reduceLT, Nat.reduceLeDiff, Nat.reduceEqDiff, true_implies, false_implies, implies_true, Option.some.injEq, forall_eq', forall_eq, reduceCtorEq, brT, brF, br_s, i_10, i_01, ib_0_2, ib_1_2, tn_0, tn_1, Int32.le_refl, eq_self, rv_bN, rv_iM, c6]
    exact hQ
theorem lp_132' {t r d : Nat} {hp : Hp} {a2 a3 a4 a5 s0 : Int32} {A2 A4 A5 A6 : Prop} [Decidable A2] [Decidable A4] [Decidable A5] [Decidable A6] {Q : Option (Option Value) → Hp → Prop} (e2 : (a2 = 0) ↔ ¬ A2) (e4 : (a4 = 0) ↔ ¬ A4) (e5 : (a5 = 0) ↔ ¬ A5) (e6 : (s0 = 0) ↔ ¬ A6) (hQ : Q (some (some (.int (iB ((A6 ∧ (A5 ∨ ¬ A2)) ∧ (A4 ∨ A5)))))) hp) : Wp 20 132 [.ref t, .ref r, .int a2, .int a3, .int a4, .int a5, jk, jk] [.int s0] hp Q d := by
  refine b20_132 ?_
  by_cases h5 : A5
  · have c5 : (a5 = 0) ↔ False := iff_false_intro (fun q => e5.mp q h5)
    simp only [↓br_pos, ↓br_neg, ↓rF_I, ↓rF_L, ↓rF_R, ↓rF_N, rO_m, rB_m, ↓rI_m, wI_m, ↓rB2_m, ↓rB3_m, wB2_m, wB3_m, ↓rL_m, wL_m, ↓rQ_m, wQ_m, ↓lI_m, pI_m, pL_m, pR_m, sI_m, sBy_m, sBo_m, sL_m, sQ_m, fst_m, true_and, and_true, tg_some, ln_some, uI_1, uI_2, uL_1, uL_2, uL_3, uQ_1, uQ_2, uQ_3, rv_i, rv_l, rv_n, rv_b0, rv_b1, RMR, ne_eq, reduceCtorEq, not_false_eq_true, Option.getD_some, if_true, if_false, and_self, false_and, and_false, Nat.add_left_cancel_iff, Nat.add_eq_left, Nat.left_eq_add, Nat.one_ne_zero, Nat.reduceAdd, Nat.reduceLT, Nat.reduceLeDiff, Nat.reduceEqDiff, true_implies, false_implies, implies_true, Option.some.injEq, forall_eq', forall_eq, reduceCtorEq, brT, brF, br_s, i_10, i_01, ib_0_2, ib_1_2, tn_0, tn_1, Int32.le_refl, eq_self, rv_bN, rv_iM, c5]
    exact b20_143 (b20_148 (lp_150' (A7 := A5 ∨ ¬ A2) e4 e5 e6 ⟨fun q => absurd q (by decide), fun q => absurd (Or.inl h5) q⟩ hQ))
  · have c5 : (a5 = 0) ↔ True := iff_true_intro (e5.mpr h5)
    by_cases h2 : A2
    · have c2 : (a2 = 0) ↔ False := iff_false_intro (fun q => e2.mp q h2)
      simp only [↓br_pos, ↓br_neg, ↓rF_I, ↓rF_L, ↓rF_R, ↓rF_N, rO_m, rB_m, ↓rI_m, wI_m, ↓rB2_m, ↓rB3_m, wB2_m, wB3_m, ↓rL_m, wL_m, ↓rQ_m, wQ_m, ↓lI_m, pI_m, pL_m, pR_m, sI_m, sBy_m, sBo_m, sL_m, sQ_m, fst_m, true_and, and_true, tg_some, ln_some, uI_1, uI_2, uL_1, uL_2, uL_3, uQ_1, uQ_2, uQ_3, rv_i, rv_l, rv_n, rv_b0, rv_b1, RMR, ne_eq, reduceCtorEq, not_false_eq_true, Option.getD_some, if_true, if_false, and_self, false_and, and_false, Nat.add_left_cancel_iff, Nat.add_eq_left, Nat.left_eq_add, Nat.one_ne_zero, Nat.reduceAdd, Nat.reduceLT, Nat.reduceLeDiff, Nat.reduceEqDiff, true_implies, false_implies, implies_true, Option.some.injEq, forall_eq', forall_eq, reduceCtorEq, brT, brF, br_s, i_10, i_01, ib_0_2, ib_1_2, tn_0, tn_1, Int32.le_refl, eq_self, rv_bN, rv_iM, c5, c2]
      exact b20_148 (lp_150' (A7 := A5 ∨ ¬ A2) e4 e5 e6 ⟨fun _ => fun q => q.elim h5 (fun z => z h2), fun _ => rfl⟩ hQ)
    · have c2 : (a2 = 0) ↔ True := iff_true_intro (e2.mpr h2)
      simp only [↓br_pos, ↓br_neg, ↓rF_I, ↓rF_L, ↓rF_R, ↓rF_N, rO_m, rB_m, ↓rI_m, wI_m, ↓rB2_m, ↓rB3_m, wB2_m, wB3_m, ↓rL_m, wL_m, ↓rQ_m, wQ_m, ↓lI_m, pI_m, pL_m, pR_m, sI_m, sBy_m, sBo_m, sL_m, sQ_m, fst_m, true_and, and_true, tg_some, ln_some, uI_1, uI_2, uL_1, uL_2, uL_3, uQ_1, uQ_2, uQ_3, rv_i, rv_l, rv_n, rv_b0, rv_b1, RMR, ne_eq, reduceCtorEq, not_false_eq_true, Option.getD_some, if_true, if_false, and_self, false_and, and_false, Nat.add_left_cancel_iff, Nat.add_eq_left, Nat.left_eq_add, Nat.one_ne_zero, Nat.reduceAdd, Nat.reduceLT, Nat.reduceLeDiff, Nat.reduceEqDiff, true_implies, false_implies, implies_true, Option.some.injEq, forall_eq', forall_eq, reduceCtorEq, brT, brF, br_s, i_10, i_01, ib_0_2, ib_1_2, tn_0, tn_1, Int32.le_refl, eq_self, rv_bN, rv_iM, c5, c2]
      exact b20_143 (b20_148 (lp_150' (A7 := A5 ∨ ¬ A2) e4 e5 e6 ⟨fun q => absurd q (by decide), fun q => absurd (Or.inr h2) q⟩ hQ))
theorem lp_106' {w : mT} {σ : mS} {t r d : Nat} {a2 a3 a4 a5 s0 s1 v0 v1 : Int32} {A2 A3 A4 A5 : Prop} [Decidable A2] [Decidable A3] [Decidable A4] [Decidable A5] {Q : Option (Option Value) → Hp → Prop} (hR : isS w r) (e2 : (a2 = 0) ↔ ¬ A2) (e3 : (a3 = 0) ↔ ¬ A3) (e4 : (a4 = 0) ↔ ¬ A4) (e5 : (a5 = 0) ↔ ¬ A5) (hv0 : s1 + s0 = v0) (hv1 : σ.1 r 1 + 1 = v1) (hQ : Q (some (some (.int (iB (((A4 ∨ ¬ A3) ∧ (A5 ∨ ¬ A2)) ∧ (A4 ∨ A5)))))) (mW w (uI (uI σ (r + 11) 0 v0) r 1 v1))) : Wp 20 106 [.ref t, .ref r, .int a2, .int a3, .int a4, .int a5, jk, jk] [.int s0, .int s1, .int (0 : Int32), .ref (r + 11)] (mW w σ) Q d := by
  simp only [isS] at hR
  subst hv0
  subst hv1
  refine b20_106 ?_
  have nr : (r = r + 11) ↔ False := iff_false_intro (by omega)
  by_cases h4 : A4
  · have c4 : (a4 = 0) ↔ False := iff_false_intro (fun q => e4.mp q h4)
    simp only [↓br_pos, ↓br_neg, ↓rF_I, ↓rF_L, ↓rF_R, ↓rF_N, rO_m, rB_m, ↓rI_m, wI_m, ↓rB2_m, ↓rB3_m, wB2_m, wB3_m, ↓rL_m, wL_m, ↓rQ_m, wQ_m, ↓lI_m, pI_m, pL_m, pR_m, sI_m, sBy_m, sBo_m, sL_m, sQ_m, fst_m, true_and, and_true, tg_some, ln_some, uI_1, uI_2, uL_1, uL_2, uL_3, uQ_1, uQ_2, uQ_3, rv_i, rv_l, rv_n, rv_b0, rv_b1, RMR, ne_eq, reduceCtorEq, not_false_eq_true, Option.getD_some, if_true, if_false, and_self, false_and, and_false, Nat.add_left_cancel_iff, Nat.add_eq_left, Nat.left_eq_add, Nat.one_ne_zero, Nat.reduceAdd, Nat.reduceLT, Nat.reduceLeDiff, Nat.reduceEqDiff, true_implies, false_implies, implies_true, Option.some.injEq, forall_eq', forall_eq, reduceCtorEq, brT, brF, br_s, i_10, i_01, ib_0_2, ib_1_2, tn_0, tn_1, Int32.le_refl, eq_self, rv_bN, rv_iM, RCS r, hR, c4, nr]
    exact b20_127 (lp_132' (A6 := A4 ∨ ¬ A3) e2 e4 e5 ⟨fun q => absurd q (by decide), fun q => absurd (Or.inl h4) q⟩ hQ)
  · have c4 : (a4 = 0) ↔ True := iff_true_intro (e4.mpr h4)
    by_cases h3 : A3
    · have c3 : (a3 = 0) ↔ False := iff_false_intro (fun q => e3.mp q h3)
      simp only [↓br_pos, ↓br_neg, ↓rF_I, ↓rF_L, ↓rF_R, ↓rF_N, rO_m, rB_m, ↓rI_m, wI_m, ↓rB2_m, ↓rB3_m, wB2_m, wB3_m, ↓rL_m, wL_m, ↓rQ_m, wQ_m, ↓lI_m, pI_m, pL_m, pR_m, sI_m, sBy_m, sBo_m, sL_m, sQ_m, fst_m, true_and, and_true, tg_some, ln_some, uI_1, uI_2, uL_1, uL_2, uL_3, uQ_1, uQ_2, uQ_3, rv_i, rv_l, rv_n, rv_b0, rv_b1, RMR, ne_eq, reduceCtorEq, not_false_eq_true, Option.getD_some, if_true, if_false, and_self, false_and, and_false, Nat.add_left_cancel_iff, Nat.add_eq_left, Nat.left_eq_add, Nat.one_ne_zero, Nat.reduceAdd, Nat.reduceLT, Nat.reduceLeDiff, Nat.reduceEqDiff, true_implies, false_implies, implies_true, Option.some.injEq, forall_eq', forall_eq, reduceCtorEq, brT, brF, br_s, i_10, i_01, ib_0_2, ib_1_2, tn_0, tn_1, Int32.le_refl, eq_self, rv_bN, rv_iM, RCS r, hR, c4, c3, nr]
      exact lp_132' (A6 := A4 ∨ ¬ A3) e2 e4 e5 ⟨fun _ => fun q => q.elim h4 (fun z => z h3), fun _ => rfl⟩ hQ
    · have c3 : (a3 = 0) ↔ True := iff_true_intro (e3.mpr h3)
      simp only [↓br_pos, ↓br_neg, ↓rF_I, ↓rF_L, ↓rF_R, ↓rF_N, rO_m, rB_m, ↓rI_m, wI_m, ↓rB2_m, ↓rB3_m, wB2_m, wB3_m, ↓rL_m, wL_m, ↓rQ_m, wQ_m, ↓lI_m, pI_m, pL_m, pR_m, sI_m, sBy_m, sBo_m, sL_m, sQ_m, fst_m, true_and, and_true, tg_some, ln_some, uI_1, uI_2, uL_1, uL_2, uL_3, uQ_1, uQ_2, uQ_3, rv_i, rv_l, rv_n, rv_b0, rv_b1, RMR, ne_eq, reduceCtorEq, not_false_eq_true, Option.getD_some, if_true, if_false, and_self, false_and, and_false, Nat.add_left_cancel_iff, Nat.add_eq_left, Nat.left_eq_add, Nat.one_ne_zero, Nat.reduceAdd, Nat.reduceLT, Nat.reduceLeDiff, Nat.reduceEqDiff, true_implies, false_implies, implies_true, Option.some.injEq, forall_eq', forall_eq, reduceCtorEq, brT, brF, br_s, i_10, i_01, ib_0_2, ib_1_2, tn_0, tn_1, Int32.le_refl, eq_self, rv_bN, rv_iM, RCS r, hR, c4, c3, nr]
      exact b20_127 (lp_132' (A6 := A4 ∨ ¬ A3) e2 e4 e5 ⟨fun q => absurd q (by decide), fun q => absurd (Or.inr h3) q⟩ hQ)
theorem fin_st {σ : mS} {r x y : Nat} {τ ρ : Rw} (hρ : tSt σ r τ ρ) (hb : bRow τ ρ) : tSt (uI (uI (uI σ (r + 11) 1 (Int32.ofNat (ρ 9 + x))) (r + 11) 0 (Int32.ofNat (ρ 8 + y))) r 1 (Int32.ofNat (ρ 1 + 1))) r τ (rSet (rSet (rSet ρ 9 (ρ 9 + x)) 8 (ρ 8 + y)) 1 (ρ 1 + 1)) :=
  tSt_w0 (tSt_w (tSt_w hρ hb (by unfold in0; omega) (by decide) (tv_0 (by decide)).symm (by omega)) (bRow_c hb (cnt_set (by omega))) (by unfold in0; omega) (by decide) (tv_0 (by decide)).symm (by omega)) (bRow_c (bRow_c hb (cnt_set (by omega))) (cnt_set (by omega))) (by unfold in0; omega) (by decide) (tv_0 (by decide)).symm (by omega)
theorem l_50 {w : mT} {σ : mS} {r t : Nat} {τ ρ : Rw} (hR : isS w r) (hT : isT w t) (hd : t + 10 ≤ r ∨ r + 14 ≤ t) (hρ : tSt σ r τ (mR1 τ ρ)) (hτ : tTold σ t τ) (hv : vTold τ) (h : vRow τ ρ) : ∃ σ', frR r (r + 14) σ σ' ∧ tSt σ' r τ (sMin τ ρ) ∧ ∀ {d : Nat} {a2 a3 a4 : Int32} {Q : Option (Option Value) → Hp → Prop}, 5 ≤ d → ((a2 = 0) ↔ ¬ 0 < ρ 10) → ((a3 = 0) ↔ ¬ 0 < ρ 11) → ((a4 = 0) ↔ ¬ mW1 τ ρ = true) → Q (some (some (.int (iB (mPs τ ρ))))) (mW w σ') → Wp 20 50 [.ref t, .ref r, .int a2, .int a3, .int a4, jk, jk, jk] [] (mW w σ) Q d := by
  have hR' := hR
  simp only [isS] at hR'
  have h1 := vRow_m1 hv h
  have nr : (r = r + 11) ↔ False := iff_false_intro (by omega)
  by_cases b0 : 0 < ρ 10
  · have b0' : 0 < mR1 τ ρ 10 := by rw [m1_10 hv h]; exact b0
    obtain ⟨σ2, f2, t2, k2⟩ := g_21 (m := 0) hR hT hd hρ hτ hv h1 (by omega) b0'
    have k2' : ∀ {D : Nat} {K : Int32 → Hp → Prop}, 5 ≤ D → (wpI D 21 [.ref t, .ref r, .int (0 : Int32)] (mW w σ) K ↔ K (iB (kW τ (mR1 τ ρ) 0 = true)) (mW w σ2)) := fun hD => k2 hD
    have hm0 : mR0 τ ρ = kSt τ (mR1 τ ρ) 0 := by unfold mR0; rw [if_pos b0]
    have hw0 : mW0 τ ρ = kW τ (mR1 τ ρ) 0 := by unfold mW0; rw [if_pos b0]
    rw [← hm0] at t2
    have hb2 := vRow_b hv (vRow_m0 hv h)
    have r9 : σ2.1 (r + 11) 1 = Int32.ofNat (mR0 τ ρ 9) := tS_wt t2 (by omega : 1 < 2)
    have r8 : σ2.1 (r + 11) 0 = Int32.ofNat (mR0 τ ρ 8) := tS_wt t2 (by omega : 0 < 2)
    have r1 := tS_mi t2
    refine ⟨_, frR_tr f2 (frR_tr (frR_tr (frR_I (by omega)) (frR_I (by omega))) (frR_I (by omega))), fin_st t2 hb2, fun hdd e2 e3 e4 hQ => ?_⟩
    have c2 : (_ = (0 : Int32)) ↔ False := iff_false_intro (fun q => e2.mp q b0)
    refine b20_50 ?_
    by_cases w0 : kW τ (mR1 τ ρ) 0 = true
    · have z0 : iB (kW τ (mR1 τ ρ) 0 = true) = 1 := iB_t w0
      have y0 : mW0 τ ρ = true := by rw [hw0]; exact w0
      by_cases w1 : mW1 τ ρ = true
      · have c4 : (_ = (0 : Int32)) ↔ False := iff_false_intro (fun q => e4.mp q w1)
        rw [if_pos w1, if_pos y0] at hQ
        simp only [↓br_pos, ↓br_neg, ↓rF_I, ↓rF_L, ↓rF_R, ↓rF_N, rO_m, rB_m, ↓rI_m, wI_m, ↓rB2_m, ↓rB3_m, wB2_m, wB3_m, ↓rL_m, wL_m, ↓rQ_m, wQ_m, ↓lI_m, pI_m, pL_m, pR_m, sI_m, sBy_m, sBo_m, sL_m, sQ_m, fst_m, true_and, and_true, tg_some, ln_some, uI_1, uI_2, uL_1, uL_2, uL_3, uQ_1, uQ_2, uQ_3, rv_i, rv_l, rv_n, rv_b0, rv_b1, RMR, ne_eq, reduceCtorEq, not_false_eq_true, Option.getD_some, if_true, if_false, and_self, false_and, and_false, Nat.add_left_cancel_iff, Nat.add_eq_left, Nat.left_eq_add, Nat.one_ne_zero, Nat.reduceAdd, Nat.reduceLT, Nat.reduceLeDiff, Nat.reduceEqDiff, true_implies, false_implies, implies_true, Option.some.injEq, forall_eq', forall_eq, reduceCtorEq, brT, brF, br_s, i_10, i_01, ib_0_2, ib_1_2, tn_0, tn_1, Int32.le_refl, eq_self, rv_bN, rv_iM, RCS r, hR', c2, c4, k2' hdd, z0, r9, r8, on_succ]
        exact lp_106' (A2 := 0 < ρ 10) (A3 := 0 < ρ 11) (A4 := mW1 τ ρ = true) (A5 := mW0 τ ρ = true) hR e2 e3 e4 ⟨fun q => absurd q (by decide), fun q => absurd y0 q⟩ on_succ (by rw [uI_1, if_neg (fun q => nr.mp q.1), r1, on_succ]) hQ
      · have c4 : (_ = (0 : Int32)) ↔ True := iff_true_intro (e4.mpr w1)
        rw [if_neg w1, if_pos y0] at hQ
        have a0 : Int32.ofNat (mR0 τ ρ 9) + 0 = Int32.ofNat (mR0 τ ρ 9 + 0) := of_add
        simp only [↓br_pos, ↓br_neg, ↓rF_I, ↓rF_L, ↓rF_R, ↓rF_N, rO_m, rB_m, ↓rI_m, wI_m, ↓rB2_m, ↓rB3_m, wB2_m, wB3_m, ↓rL_m, wL_m, ↓rQ_m, wQ_m, ↓lI_m, pI_m, pL_m, pR_m, sI_m, sBy_m, sBo_m, sL_m, sQ_m, fst_m, true_and, and_true, tg_some, ln_some, uI_1, uI_2, uL_1, uL_2, uL_3, uQ_1, uQ_2, uQ_3, rv_i, rv_l, rv_n, rv_b0, rv_b1, RMR, ne_eq, reduceCtorEq, not_false_eq_true, Option.getD_some, if_true, if_false, and_self, false_and, and_false, Nat.add_left_cancel_iff, Nat.add_eq_left, Nat.left_eq_add, Nat.one_ne_zero, Nat.reduceAdd, Nat.reduceLT, Nat.reduceLeDiff, Nat.reduceEqDiff, true_implies, false_implies, implies_true, Option.some.injEq, forall_eq', forall_eq, reduceCtorEq, brT, brF, br_s, i_10, i_01, ib_0_2, ib_1_2, tn_0, tn_1, Int32.le_refl, eq_self, rv_bN, rv_iM, RCS r, hR', c2, c4, k2' hdd, z0, r9, r8, a0]
        exact lp_106' (A2 := 0 < ρ 10) (A3 := 0 < ρ 11) (A4 := mW1 τ ρ = true) (A5 := mW0 τ ρ = true) hR e2 e3 e4 ⟨fun q => absurd q (by decide), fun q => absurd y0 q⟩ on_succ (by rw [uI_1, if_neg (fun q => nr.mp q.1), r1, on_succ]) hQ
    · have z0 : iB (kW τ (mR1 τ ρ) 0 = true) = 0 := iB_f w0
      have y0 : ¬ mW0 τ ρ = true := by rw [hw0]; exact w0
      by_cases w1 : mW1 τ ρ = true
      · have c4 : (_ = (0 : Int32)) ↔ False := iff_false_intro (fun q => e4.mp q w1)
        rw [if_pos w1, if_neg y0] at hQ
        simp only [↓br_pos, ↓br_neg, ↓rF_I, ↓rF_L, ↓rF_R, ↓rF_N, rO_m, rB_m, ↓rI_m, wI_m, ↓rB2_m, ↓rB3_m, wB2_m, wB3_m, ↓rL_m, wL_m, ↓rQ_m, wQ_m, ↓lI_m, pI_m, pL_m, pR_m, sI_m, sBy_m, sBo_m, sL_m, sQ_m, fst_m, true_and, and_true, tg_some, ln_some, uI_1, uI_2, uL_1, uL_2, uL_3, uQ_1, uQ_2, uQ_3, rv_i, rv_l, rv_n, rv_b0, rv_b1, RMR, ne_eq, reduceCtorEq, not_false_eq_true, Option.getD_some, if_true, if_false, and_self, false_and, and_false, Nat.add_left_cancel_iff, Nat.add_eq_left, Nat.left_eq_add, Nat.one_ne_zero, Nat.reduceAdd, Nat.reduceLT, Nat.reduceLeDiff, Nat.reduceEqDiff, true_implies, false_implies, implies_true, Option.some.injEq, forall_eq', forall_eq, reduceCtorEq, brT, brF, br_s, i_10, i_01, ib_0_2, ib_1_2, tn_0, tn_1, Int32.le_refl, eq_self, rv_bN, rv_iM, RCS r, hR', c2, c4, k2' hdd, z0, r9, r8, on_succ]
        exact lp_106' (A2 := 0 < ρ 10) (A3 := 0 < ρ 11) (A4 := mW1 τ ρ = true) (A5 := mW0 τ ρ = true) hR e2 e3 e4 ⟨fun _ => y0, fun _ => rfl⟩ of_add (by rw [uI_1, if_neg (fun q => nr.mp q.1), r1, on_succ]) hQ
      · have c4 : (_ = (0 : Int32)) ↔ True := iff_true_intro (e4.mpr w1)
        rw [if_neg w1, if_neg y0] at hQ
        have a0 : Int32.ofNat (mR0 τ ρ 9) + 0 = Int32.ofNat (mR0 τ ρ 9 + 0) := of_add
        simp only [↓br_pos, ↓br_neg, ↓rF_I, ↓rF_L, ↓rF_R, ↓rF_N, rO_m, rB_m, ↓rI_m, wI_m, ↓rB2_m, ↓rB3_m, wB2_m, wB3_m, ↓rL_m, wL_m, ↓rQ_m, wQ_m, ↓lI_m, pI_m, pL_m, pR_m, sI_m, sBy_m, sBo_m, sL_m, sQ_m, fst_m, true_and, and_true, tg_some, ln_some, uI_1, uI_2, uL_1, uL_2, uL_3, uQ_1, uQ_2, uQ_3, rv_i, rv_l, rv_n, rv_b0, rv_b1, RMR, ne_eq, reduceCtorEq, not_false_eq_true, Option.getD_some, if_true, if_false, and_self, false_and, and_false, Nat.add_left_cancel_iff, Nat.add_eq_left, Nat.left_eq_add, Nat.one_ne_zero, Nat.reduceAdd, Nat.reduceLT, Nat.reduceLeDiff, Nat.reduceEqDiff, true_implies, false_implies, implies_true, Option.some.injEq, forall_eq', forall_eq, reduceCtorEq, brT, brF, br_s, i_10, i_01, ib_0_2, ib_1_2, tn_0, tn_1, Int32.le_refl, eq_self, rv_bN, rv_iM, RCS r, hR', c2, c4, k2' hdd, z0, r9, r8, a0]
        exact lp_106' (A2 := 0 < ρ 10) (A3 := 0 < ρ 11) (A4 := mW1 τ ρ = true) (A5 := mW0 τ ρ = true) hR e2 e3 e4 ⟨fun _ => y0, fun _ => rfl⟩ of_add (by rw [uI_1, if_neg (fun q => nr.mp q.1), r1, on_succ]) hQ
  · have hm0 : mR0 τ ρ = mR1 τ ρ := by unfold mR0; rw [if_neg b0]
    have hw0 : mW0 τ ρ = false := by unfold mW0; rw [if_neg b0]
    have t2 := hρ
    rw [← hm0] at t2
    have hb2 := vRow_b hv (vRow_m0 hv h)
    have r9 : σ.1 (r + 11) 1 = Int32.ofNat (mR0 τ ρ 9) := tS_wt t2 (by omega : 1 < 2)
    have r8 : σ.1 (r + 11) 0 = Int32.ofNat (mR0 τ ρ 8) := tS_wt t2 (by omega : 0 < 2)
    have r1 := tS_mi t2
    refine ⟨_, (frR_tr (frR_tr (frR_I (by omega)) (frR_I (by omega))) (frR_I (by omega))), fin_st t2 hb2, fun hdd e2 e3 e4 hQ => ?_⟩
    have c2 : (_ = (0 : Int32)) ↔ True := iff_true_intro (e2.mpr b0)
    have y0 : ¬ mW0 τ ρ = true := by rw [hw0]; decide
    refine b20_50 ?_
    by_cases w1 : mW1 τ ρ = true
    · have c4 : (_ = (0 : Int32)) ↔ False := iff_false_intro (fun q => e4.mp q w1)
      rw [if_pos w1, if_neg y0] at hQ
      simp only [↓br_pos, ↓br_neg, ↓rF_I, ↓rF_L, ↓rF_R, ↓rF_N, rO_m, rB_m, ↓rI_m, wI_m, ↓rB2_m, ↓rB3_m, wB2_m, wB3_m, ↓rL_m, wL_m, ↓rQ_m, wQ_m, ↓lI_m, pI_m, pL_m, pR_m, sI_m, sBy_m, sBo_m, sL_m, sQ_m, fst_m, true_and, and_true, tg_some, ln_some, uI_1, uI_2, uL_1, uL_2, uL_3, uQ_1, uQ_2, uQ_3, rv_i, rv_l, rv_n, rv_b0, rv_b1, RMR, ne_eq, reduceCtorEq, not_false_eq_true, Option.getD_some, if_true, if_false, and_self, false_and, and_false, Nat.add_left_cancel_iff, Nat.add_eq_left, Nat.left_eq_add, Nat.one_ne_zero, Nat.reduceAdd, Nat.reduceLT, Nat.reduceLeDiff, Nat.reduceEqDiff, true_implies, false_implies, implies_true, Option.some.injEq, forall_eq', forall_eq, reduceCtorEq, brT, brF, br_s, i_10, i_01, ib_0_2, ib_1_2, tn_0, tn_1, Int32.le_refl, eq_self, rv_bN, rv_iM, RCS r, hR', c2, c4, r9, r8, on_succ]
      exact lp_106' (A2 := 0 < ρ 10) (A3 := 0 < ρ 11) (A4 := mW1 τ ρ = true) (A5 := mW0 τ ρ = true) hR e2 e3 e4 ⟨fun _ => y0, fun _ => rfl⟩ of_add (by rw [uI_1, if_neg (fun q => nr.mp q.1), r1, on_succ]) hQ
    · have c4 : (_ = (0 : Int32)) ↔ True := iff_true_intro (e4.mpr w1)
      rw [if_neg w1, if_neg y0] at hQ
      have a0 : Int32.ofNat (mR0 τ ρ 9) + 0 = Int32.ofNat (mR0 τ ρ 9 + 0) := of_add
      simp only [↓br_pos, ↓br_neg, ↓rF_I, ↓rF_L, ↓rF_R, ↓rF_N, rO_m, rB_m, ↓rI_m, wI_m, ↓rB2_m, ↓rB3_m, wB2_m, wB3_m, ↓rL_m, wL_m, ↓rQ_m, wQ_m, ↓lI_m, pI_m, pL_m, pR_m, sI_m, sBy_m, sBo_m, sL_m, sQ_m, fst_m, true_and, and_true, tg_some, ln_some, uI_1, uI_2, uL_1, uL_2, uL_3, uQ_1, uQ_2, uQ_3, rv_i, rv_l, rv_n, rv_b0, rv_b1, RMR, ne_eq, reduceCtorEq, not_false_eq_true, Option.getD_some, if_true, if_false, and_self, false_and, and_false, Nat.add_left_cancel_iff, Nat.add_eq_left, Nat.left_eq_add, Nat.one_ne_zero, Nat.reduceAdd, Nat.reduceLT, Nat.reduceLeDiff, Nat.reduceEqDiff, true_implies, false_implies, implies_true, Option.some.injEq, forall_eq', forall_eq, reduceCtorEq, brT, brF, br_s, i_10, i_01, ib_0_2, ib_1_2, tn_0, tn_1, Int32.le_refl, eq_self, rv_bN, rv_iM, RCS r, hR', c2, c4, r9, r8, a0]
      exact lp_106' (A2 := 0 < ρ 10) (A3 := 0 < ρ 11) (A4 := mW1 τ ρ = true) (A5 := mW0 τ ρ = true) hR e2 e3 e4 ⟨fun _ => y0, fun _ => rfl⟩ of_add (by rw [uI_1, if_neg (fun q => nr.mp q.1), r1, on_succ]) hQ
theorem g_20 {w : mT} {σ : mS} {r t : Nat} {τ ρ : Rw} (hR : isS w r) (hT : isT w t) (hd : t + 10 ≤ r ∨ r + 14 ≤ t) (hρ : tSt σ r τ ρ) (hτ : tTold σ t τ) (hv : vTold τ) (h : vRow τ ρ) : ∃ σ', frR r (r + 14) σ σ' ∧ tSt σ' r τ (sMin τ ρ) ∧ ∀ {D : Nat} {K : Int32 → Hp → Prop}, 6 ≤ D → (wpI D 20 [.ref t, .ref r] (mW w σ) K ↔ K (iB (mPs τ ρ)) (mW w σ')) := by
  have hR' := hR
  simp only [isS] at hR'
  have e0 : σ.1 (r + 12) 0 = Int32.ofNat (ρ 10) := tS_or hρ (by omega : 0 < 2)
  have e1 : σ.1 (r + 12) 1 = Int32.ofNat (ρ 11) := tS_or hρ (by omega : 1 < 2)
  have v0 := vR_c0 h
  have v1 := vR_c1 h
  have le0 := of_le0 (a := ρ 10) (by omega)
  have le1 := of_le0 (a := ρ 11) (by omega)
  have y1 : ((1 : Int32) = 0) ↔ ¬ True := by decide
  by_cases b1 : 0 < ρ 11
  · obtain ⟨σ1, f1, t1, k1⟩ := g_21 (m := 1) hR hT hd hρ hτ hv h (by omega) b1
    have hm1 : mR1 τ ρ = kSt τ ρ 1 := by unfold mR1; rw [if_pos b1]
    have hw1 : mW1 τ ρ = kW τ ρ 1 := by unfold mW1; rw [if_pos b1]
    rw [← hm1] at t1
    have k1' : ∀ {D : Nat} {K : Int32 → Hp → Prop}, 5 ≤ D → (wpI D 21 [.ref t, .ref r, .int (1 : Int32)] (mW w σ) K ↔ K (iB (kW τ ρ 1 = true)) (mW w σ1)) := fun hD => k1 hD
    obtain ⟨σ2, f2, t2, k2⟩ := l_50 hR hT hd t1 (tTold_R hτ f1 (by omega)) hv h
    refine ⟨σ2, frR_tr f1 f2, t2, fun hD => cI_of (m := 5) (fun d hd Q hQ => ?_) rfl hD⟩
    have c1 : (Int32.ofNat (ρ 11) ≤ 0) ↔ False := iff_false_intro (fun q => by have := le1.mp q; omega)
    refine b20_0 ?_
    by_cases b0 : 0 < ρ 10
    · have c0 : (Int32.ofNat (ρ 10) ≤ 0) ↔ False := iff_false_intro (fun q => by have := le0.mp q; omega)
      by_cases w1 : kW τ ρ 1 = true
      · have z1 : iB (kW τ ρ 1 = true) = 1 := iB_t w1
        simp only [↓br_pos, ↓br_neg, ↓rF_I, ↓rF_L, ↓rF_R, ↓rF_N, rO_m, rB_m, ↓rI_m, wI_m, ↓rB2_m, ↓rB3_m, wB2_m, wB3_m, ↓rL_m, wL_m, ↓rQ_m, wQ_m, ↓lI_m, pI_m, pL_m, pR_m, sI_m, sBy_m, sBo_m, sL_m, sQ_m, fst_m, true_and, and_true, tg_some, ln_some, uI_1, uI_2, uL_1, uL_2, uL_3, uQ_1, uQ_2, uQ_3, rv_i, rv_l, rv_n, rv_b0, rv_b1, RMR, ne_eq, reduceCtorEq, not_false_eq_true, Option.getD_some, if_true, if_false, and_self, false_and, and_false, Nat.add_left_cancel_iff, Nat.add_eq_left, Nat.left_eq_add, Nat.one_ne_zero, Nat.reduceAdd, Nat.reduceLT, Nat.reduceLeDiff, Nat.reduceEqDiff, true_implies, false_implies, implies_true, Option.some.injEq, forall_eq', forall_eq, reduceCtorEq, brT, brF, br_s, i_10, i_01, ib_0_2, ib_1_2, tn_0, tn_1, Int32.le_refl, eq_self, rv_bN, rv_iM, RCS r, hR', e0, e1, c0, c1, k1' hd, z1]
        exact k2 hd ⟨fun q => absurd q (by decide), fun q => absurd b0 q⟩ ⟨fun q => absurd q (by decide), fun q => absurd b1 q⟩ ⟨fun q => absurd q (by decide), fun q => absurd (by rw [hw1]; exact w1) q⟩ hQ
      · have z1 : iB (kW τ ρ 1 = true) = 0 := iB_f w1
        simp only [↓br_pos, ↓br_neg, ↓rF_I, ↓rF_L, ↓rF_R, ↓rF_N, rO_m, rB_m, ↓rI_m, wI_m, ↓rB2_m, ↓rB3_m, wB2_m, wB3_m, ↓rL_m, wL_m, ↓rQ_m, wQ_m, ↓lI_m, pI_m, pL_m, pR_m, sI_m, sBy_m, sBo_m, sL_m, sQ_m, fst_m, true_and, and_true, tg_some, ln_some, uI_1, uI_2, uL_1, uL_2, uL_3, uQ_1, uQ_2, uQ_3, rv_i, rv_l, rv_n, rv_b0, rv_b1, RMR, ne_eq, reduceCtorEq, not_false_eq_true, Option.getD_some, if_true, if_false, and_self, false_and, and_false, Nat.add_left_cancel_iff, Nat.add_eq_left, Nat.left_eq_add, Nat.one_ne_zero, Nat.reduceAdd, Nat.reduceLT, Nat.reduceLeDiff, Nat.reduceEqDiff, true_implies, false_implies, implies_true, Option.some.injEq, forall_eq', forall_eq, reduceCtorEq, brT, brF, br_s, i_10, i_01, ib_0_2, ib_1_2, tn_0, tn_1, Int32.le_refl, eq_self, rv_bN, rv_iM, RCS r, hR', e0, e1, c0, c1, k1' hd, z1]
        exact k2 hd ⟨fun q => absurd q (by decide), fun q => absurd b0 q⟩ ⟨fun q => absurd q (by decide), fun q => absurd b1 q⟩ ⟨fun _ => by rw [hw1]; exact w1, fun _ => rfl⟩ hQ
    · have c0 : (Int32.ofNat (ρ 10) ≤ 0) ↔ True := iff_true_intro (le0.mpr (by omega))
      by_cases w1 : kW τ ρ 1 = true
      · have z1 : iB (kW τ ρ 1 = true) = 1 := iB_t w1
        simp only [↓br_pos, ↓br_neg, ↓rF_I, ↓rF_L, ↓rF_R, ↓rF_N, rO_m, rB_m, ↓rI_m, wI_m, ↓rB2_m, ↓rB3_m, wB2_m, wB3_m, ↓rL_m, wL_m, ↓rQ_m, wQ_m, ↓lI_m, pI_m, pL_m, pR_m, sI_m, sBy_m, sBo_m, sL_m, sQ_m, fst_m, true_and, and_true, tg_some, ln_some, uI_1, uI_2, uL_1, uL_2, uL_3, uQ_1, uQ_2, uQ_3, rv_i, rv_l, rv_n, rv_b0, rv_b1, RMR, ne_eq, reduceCtorEq, not_false_eq_true, Option.getD_some, if_true, if_false, and_self, false_and, and_false, Nat.add_left_cancel_iff, Nat.add_eq_left, Nat.left_eq_add, Nat.one_ne_zero, Nat.reduceAdd, Nat.reduceLT, Nat.reduceLeDiff, Nat.reduceEqDiff, true_implies, false_implies, implies_true, Option.some.injEq, forall_eq', forall_eq, reduceCtorEq, brT, brF, br_s, i_10, i_01, ib_0_2, ib_1_2, tn_0, tn_1, Int32.le_refl, eq_self, rv_bN, rv_iM, RCS r, hR', e0, e1, c0, c1, k1' hd, z1]
        exact k2 hd ⟨fun _ => b0, fun _ => rfl⟩ ⟨fun q => absurd q (by decide), fun q => absurd b1 q⟩ ⟨fun q => absurd q (by decide), fun q => absurd (by rw [hw1]; exact w1) q⟩ hQ
      · have z1 : iB (kW τ ρ 1 = true) = 0 := iB_f w1
        simp only [↓br_pos, ↓br_neg, ↓rF_I, ↓rF_L, ↓rF_R, ↓rF_N, rO_m, rB_m, ↓rI_m, wI_m, ↓rB2_m, ↓rB3_m, wB2_m, wB3_m, ↓rL_m, wL_m, ↓rQ_m, wQ_m, ↓lI_m, pI_m, pL_m, pR_m, sI_m, sBy_m, sBo_m, sL_m, sQ_m, fst_m, true_and, and_true, tg_some, ln_some, uI_1, uI_2, uL_1, uL_2, uL_3, uQ_1, uQ_2, uQ_3, rv_i, rv_l, rv_n, rv_b0, rv_b1, RMR, ne_eq, reduceCtorEq, not_false_eq_true, Option.getD_some, if_true, if_false, and_self, false_and, and_false, Nat.add_left_cancel_iff, Nat.add_eq_left, Nat.left_eq_add, Nat.one_ne_zero, Nat.reduceAdd, Nat.reduceLT, Nat.reduceLeDiff, Nat.reduceEqDiff, true_implies, false_implies, implies_true, Option.some.injEq, forall_eq', forall_eq, reduceCtorEq, brT, brF, br_s, i_10, i_01, ib_0_2, ib_1_2, tn_0, tn_1, Int32.le_refl, eq_self, rv_bN, rv_iM, RCS r, hR', e0, e1, c0, c1, k1' hd, z1]
        exact k2 hd ⟨fun _ => b0, fun _ => rfl⟩ ⟨fun q => absurd q (by decide), fun q => absurd b1 q⟩ ⟨fun _ => by rw [hw1]; exact w1, fun _ => rfl⟩ hQ
  · have hm1 : mR1 τ ρ = ρ := by unfold mR1; rw [if_neg b1]
    have hw1 : ¬ mW1 τ ρ = true := by unfold mW1; rw [if_neg b1]; decide
    obtain ⟨σ2, f2, t2, k2⟩ := l_50 hR hT hd (by rw [hm1]; exact hρ) hτ hv h
    refine ⟨σ2, f2, t2, fun hD => cI_of (m := 5) (fun d hd Q hQ => ?_) rfl hD⟩
    have c1 : (Int32.ofNat (ρ 11) ≤ 0) ↔ True := iff_true_intro (le1.mpr (by omega))
    refine b20_0 ?_
    by_cases b0 : 0 < ρ 10
    · have c0 : (Int32.ofNat (ρ 10) ≤ 0) ↔ False := iff_false_intro (fun q => by have := le0.mp q; omega)
      simp only [↓br_pos, ↓br_neg, ↓rF_I, ↓rF_L, ↓rF_R, ↓rF_N, rO_m, rB_m, ↓rI_m, wI_m, ↓rB2_m, ↓rB3_m, wB2_m, wB3_m, ↓rL_m, wL_m, ↓rQ_m, wQ_m, ↓lI_m, pI_m, pL_m, pR_m, sI_m, sBy_m, sBo_m, sL_m, sQ_m, fst_m, true_and, and_true, tg_some, ln_some, uI_1, uI_2, uL_1, uL_2, uL_3, uQ_1, uQ_2, uQ_3, rv_i, rv_l, rv_n, rv_b0, rv_b1, RMR, ne_eq, reduceCtorEq, not_false_eq_true, Option.getD_some, if_true, if_false, and_self, false_and, and_false, Nat.add_left_cancel_iff, Nat.add_eq_left, Nat.left_eq_add, Nat.one_ne_zero, Nat.reduceAdd, Nat.reduceLT, Nat.reduceLeDiff, Nat.reduceEqDiff, true_implies, false_implies, implies_true, Option.some.injEq, forall_eq', forall_eq, reduceCtorEq, brT, brF, br_s, i_10, i_01, ib_0_2, ib_1_2, tn_0, tn_1, Int32.le_refl, eq_self, rv_bN, rv_iM, RCS r, hR', e0, e1, c0, c1]
      exact k2 hd ⟨fun q => absurd q (by decide), fun q => absurd b0 q⟩ ⟨fun _ => b1, fun _ => rfl⟩ ⟨fun _ => hw1, fun _ => rfl⟩ hQ
    · have c0 : (Int32.ofNat (ρ 10) ≤ 0) ↔ True := iff_true_intro (le0.mpr (by omega))
      simp only [↓br_pos, ↓br_neg, ↓rF_I, ↓rF_L, ↓rF_R, ↓rF_N, rO_m, rB_m, ↓rI_m, wI_m, ↓rB2_m, ↓rB3_m, wB2_m, wB3_m, ↓rL_m, wL_m, ↓rQ_m, wQ_m, ↓lI_m, pI_m, pL_m, pR_m, sI_m, sBy_m, sBo_m, sL_m, sQ_m, fst_m, true_and, and_true, tg_some, ln_some, uI_1, uI_2, uL_1, uL_2, uL_3, uQ_1, uQ_2, uQ_3, rv_i, rv_l, rv_n, rv_b0, rv_b1, RMR, ne_eq, reduceCtorEq, not_false_eq_true, Option.getD_some, if_true, if_false, and_self, false_and, and_false, Nat.add_left_cancel_iff, Nat.add_eq_left, Nat.left_eq_add, Nat.one_ne_zero, Nat.reduceAdd, Nat.reduceLT, Nat.reduceLeDiff, Nat.reduceEqDiff, true_implies, false_implies, implies_true, Option.some.injEq, forall_eq', forall_eq, reduceCtorEq, brT, brF, br_s, i_10, i_01, ib_0_2, ib_1_2, tn_0, tn_1, Int32.le_refl, eq_self, rv_bN, rv_iM, RCS r, hR', e0, e1, c0, c1]
      exact k2 hd ⟨fun _ => b0, fun _ => rfl⟩ ⟨fun _ => b1, fun _ => rfl⟩ ⟨fun _ => hw1, fun _ => rfl⟩ hQ
