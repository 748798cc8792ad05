theorem g_25 {w : mT} {σ : mS} {r t p g : Nat} {τ ρ : Rw} (hR : isS w r) (hT : isT w t) (hd : t + 10 ≤ r ∨ r + 14 ≤ t) (hρ : tSt σ r τ ρ) (hτ : tTold σ t τ) (hv : vTold τ) (h : vRow τ ρ) (hn : 0 < ρ 10) (hp : p = ρ 51) (hg : g < τ (28 + p)) : ∃ σ', frR r (r + 14) σ σ' ∧ tSt σ' r τ (sLay τ ρ p g) ∧ ∀ {D : Nat} {K : Hp → Prop}, 4 ≤ D → (wpV D 25 [.ref t, .ref r, .int (Int32.ofNat p), .int (Int32.ofNat g)] (mW w σ) K ↔ K (mW w σ')) := by
  have hR' := hR
  simp only [isS] at hR'
  have o := vR_o0 h 0 hn
  have o0 : ρ 51 < τ 1 := o.1
  have oL : ρ 52 < τ 0 := o.2.1
  have oE : ρ 54 < τ (28 + ρ 51) := o.2.2.1
  have oT : 1 ≤ ρ 55 ∧ ρ 55 ≤ 99 := o.2.2.2.2.1
  have v0 := hv.1
  have v1 := hv.2.1
  have v2 := (hv.2.2.2.2.2.1 p (by omega)).2
  have hp3 : p < 3 := by omega
  rw [← hp] at oE
  obtain ⟨oo0, o1, oo2, o3, o4, o5⟩ := tS_o0 hρ hn
  have i1 : (0 : Int32) * 8 * 6 + 1 = Int32.ofNat 1 := by decide
  have i3 : (0 : Int32) * 8 * 6 + 3 = Int32.ofNat 3 := by decide
  have i4 : (0 : Int32) * 8 * 6 + 4 = Int32.ofNat 4 := by decide
  have i5 : (0 : Int32) * 8 * 6 + 5 = Int32.ofNat 5 := by decide
  have eb1 : inB (Int32.ofNat 1) 96 = true := by decide
  have eb3 : inB (Int32.ofNat 3) 96 = true := by decide
  have eb4 : inB (Int32.ofNat 4) 96 = true := by decide
  have eb5 : inB (Int32.ofNat 5) 96 = true := by decide
  have en1 := on_nat (i := 1) (by omega)
  have en3 := on_nat (i := 3) (by omega)
  have en4 := on_nat (i := 4) (by omega)
  have en5 := on_nat (i := 5) (by omega)
  have ebl : inB (Int32.ofNat (ρ 52)) 12 = true := on_inB (by omega) (by omega)
  have enl := on_nat (i := ρ 52) (by omega)
  have elf := tS_lf hρ oL
  have hlf := left_lt h oL
  have emn := min_of (a := ρ (12 + ρ 52)) (b := ρ 55) (by omega) (by omega)
  have ebp : inB (Int32.ofNat p) 3 = true := on_inB hp3 (by omega)
  have enp := on_nat (i := p) (by omega)
  have ela := tS_la hρ hp3
  have hla := vR_la h p hp3
  have hvO := o.2.2.2.2.2
  have hvO' : ρ 57 = 0 ∨ (ρ 57 ≤ ρ (24 + ρ 51) ∧ ρ (lo (ρ 51) (ρ 57 - 1)) = ρ 52) := hvO
  by_cases a : ρ (12 + ρ 52) = 0
  · obtain ⟨σ2, f2, t2, e2⟩ := eo_0 hR hρ (vRow_b hv h) hn
    refine ⟨σ2, f2, by unfold sLay; rw [if_pos (Or.inl a)]; exact t2, fun hD => cV_of (m := 3) (fun d hd Q hQ => ?_) rfl hD⟩
    have hd1 : 1 ≤ d := by omega
    have hd2 : 2 ≤ d := by omega
    have hd3 : 3 ≤ d := by omega
    have z : (Int32.ofNat (min (ρ 55) (ρ (12 + ρ 52))) = 0) ↔ True := iff_true_intro ((of_eq0 (by omega)).mpr (by omega))
    refine b25_0 ?_
    simp only [↓br_pos, ↓br_neg, ↓rF_I, ↓rF_L, ↓rF_R, ↓rF_N, rO_m, rB_m, ↓rI_m, wI_m, ↓rB2_m, ↓rB3_m, wB2_m, wB3_m, ↓rL_m, wL_m, ↓rQ_m, wQ_m, ↓lI_m, pI_m, pL_m, pR_m, sI_m, sBy_m, sBo_m, sL_m, sQ_m, fst_m, true_and, and_true, tg_some, ln_some, uI_1, uI_2, uL_1, uL_2, uL_3, uQ_1, uQ_2, uQ_3, rv_i, rv_l, rv_n, rv_b0, rv_b1, RMR, ne_eq, reduceCtorEq, not_false_eq_true, Option.getD_some, if_true, if_false, and_self, false_and, and_false, Nat.add_left_cancel_iff, Nat.add_eq_left, Nat.left_eq_add, Nat.one_ne_zero, Nat.reduceAdd, Nat.reduceLT, Nat.reduceLeDiff, Nat.reduceEqDiff, true_implies, false_implies, implies_true, Option.some.injEq, forall_eq', forall_eq, reduceCtorEq, brT, brF, br_s, i_10, i_01, ib_0_2, ib_1_2, tn_0, tn_1, Int32.le_refl, eq_self, rv_bN, rv_iM, RCS r, hR', g_65 hd1, i1, i3, i4, i5, eb1, eb3, eb4, eb5, en1, en3, en4, en5, o1, o3, o4, o5, ebl, enl, elf, emn, ebp, enp, ela]
    refine b25_28 ?_
    simp only [↓br_pos, ↓br_neg, ↓rF_I, ↓rF_L, ↓rF_R, ↓rF_N, rO_m, rB_m, ↓rI_m, wI_m, ↓rB2_m, ↓rB3_m, wB2_m, wB3_m, ↓rL_m, wL_m, ↓rQ_m, wQ_m, ↓lI_m, pI_m, pL_m, pR_m, sI_m, sBy_m, sBo_m, sL_m, sQ_m, fst_m, true_and, and_true, tg_some, ln_some, uI_1, uI_2, uL_1, uL_2, uL_3, uQ_1, uQ_2, uQ_3, rv_i, rv_l, rv_n, rv_b0, rv_b1, RMR, ne_eq, reduceCtorEq, not_false_eq_true, Option.getD_some, if_true, if_false, and_self, false_and, and_false, Nat.add_left_cancel_iff, Nat.add_eq_left, Nat.left_eq_add, Nat.one_ne_zero, Nat.reduceAdd, Nat.reduceLT, Nat.reduceLeDiff, Nat.reduceEqDiff, true_implies, false_implies, implies_true, Option.some.injEq, forall_eq', forall_eq, reduceCtorEq, brT, brF, br_s, i_10, i_01, ib_0_2, ib_1_2, tn_0, tn_1, Int32.le_refl, eq_self, rv_bN, rv_iM, RCS r, hR', g_65 hd1, i1, i3, i4, i5, eb1, eb3, eb4, eb5, en1, en3, en4, en5, o1, o3, o4, o5, ebl, enl, elf, emn, ebp, enp, ela, z, e2 hd2]
    exact hQ
  have z : (Int32.ofNat (min (ρ 55) (ρ (12 + ρ 52))) = 0) ↔ False := iff_false_intro (fun q => absurd ((of_eq0 (by omega)).mp q) (by omega))
  by_cases b : ρ 57 = 0
  · have o5' : σ.1 (r + 13) 5 = -1 := by rw [o5, b]; decide
    by_cases c : 60 ≤ ρ (24 + p)
    · obtain ⟨σ2, f2, t2, e2⟩ := eo_0 hR hρ (vRow_b hv h) hn
      refine ⟨σ2, f2, by unfold sLay; rw [if_pos (Or.inr ⟨b, c⟩)]; exact t2, fun hD => cV_of (m := 3) (fun d hd Q hQ => ?_) rfl hD⟩
      have hd1 : 1 ≤ d := by omega
      have hd2 : 2 ≤ d := by omega
      have hd3 : 3 ≤ d := by omega
      have l6 : (Int32.ofNat (ρ (24 + p)) < (60 : Int32)) ↔ False := iff_false_intro (fun q => absurd ((on_lt (j := 60) (by omega) (by omega)).mp q) (by omega))
      refine b25_0 ?_
      simp only [↓br_pos, ↓br_neg, ↓rF_I, ↓rF_L, ↓rF_R, ↓rF_N, rO_m, rB_m, ↓rI_m, wI_m, ↓rB2_m, ↓rB3_m, wB2_m, wB3_m, ↓rL_m, wL_m, ↓rQ_m, wQ_m, ↓lI_m, pI_m, pL_m, pR_m, sI_m, sBy_m, sBo_m, sL_m, sQ_m, fst_m, true_and, and_true, tg_some, ln_some, uI_1, uI_2, uL_1, uL_2, uL_3, uQ_1, uQ_2, uQ_3, rv_i, rv_l, rv_n, rv_b0, rv_b1, RMR, ne_eq, reduceCtorEq, not_false_eq_true, Option.getD_some, if_true, if_false, and_self, false_and, and_false, Nat.add_left_cancel_iff, Nat.add_eq_left, Nat.left_eq_add, Nat.one_ne_zero, Nat.reduceAdd, Nat.reduceLT, Nat.reduceLeDiff, Nat.reduceEqDiff, true_implies, false_implies, implies_true, Option.some.injEq, forall_eq', forall_eq, reduceCtorEq, brT, brF, br_s, i_10, i_01, ib_0_2, ib_1_2, tn_0, tn_1, Int32.le_refl, eq_self, rv_bN, rv_iM, RCS r, hR', g_65 hd1, i1, i3, i4, i5, eb1, eb3, eb4, eb5, en1, en3, en4, en5, o1, o3, o4, o5', ebl, enl, elf, emn, ebp, enp, ela]
      refine b25_28 ?_
      simp only [↓br_pos, ↓br_neg, ↓rF_I, ↓rF_L, ↓rF_R, ↓rF_N, rO_m, rB_m, ↓rI_m, wI_m, ↓rB2_m, ↓rB3_m, wB2_m, wB3_m, ↓rL_m, wL_m, ↓rQ_m, wQ_m, ↓lI_m, pI_m, pL_m, pR_m, sI_m, sBy_m, sBo_m, sL_m, sQ_m, fst_m, true_and, and_true, tg_some, ln_some, uI_1, uI_2, uL_1, uL_2, uL_3, uQ_1, uQ_2, uQ_3, rv_i, rv_l, rv_n, rv_b0, rv_b1, RMR, ne_eq, reduceCtorEq, not_false_eq_true, Option.getD_some, if_true, if_false, and_self, false_and, and_false, Nat.add_left_cancel_iff, Nat.add_eq_left, Nat.left_eq_add, Nat.one_ne_zero, Nat.reduceAdd, Nat.reduceLT, Nat.reduceLeDiff, Nat.reduceEqDiff, true_implies, false_implies, implies_true, Option.some.injEq, forall_eq', forall_eq, reduceCtorEq, brT, brF, br_s, i_10, i_01, ib_0_2, ib_1_2, tn_0, tn_1, Int32.le_refl, eq_self, rv_bN, rv_iM, RCS r, hR', g_65 hd1, i1, i3, i4, i5, eb1, eb3, eb4, eb5, en1, en3, en4, en5, o1, o3, o4, o5', ebl, enl, elf, emn, ebp, enp, ela, z, l6, e2 hd2]
      exact hQ
    · obtain ⟨pa, pb, pc⟩ := pour_new hv h hn hp hg (by omega)
      obtain ⟨σ1, f1, t1, e1⟩ := g_60 (l := ρ 52) hR hρ hv h hp3 (by omega)
      have hA := vRow_add hv h hp3 oL (by omega : ρ (24 + p) < 60)
      have hN := vRow_new hv h hn hp (by omega)
      have ts1 : tSt (uI σ1 (r + 13) 5 (Int32.ofNat (ρ (24 + p)))) r τ (sNew ρ p) := tSt_w t1 (vRow_b hv hA) (by unfold in0; omega) (by decide) (by rw [tv_1 (by decide), st_m1 (by omega)]; rfl) (by omega)
      have fr1 : frR r (r + 14) σ1 (uI σ1 (r + 13) 5 (Int32.ofNat (ρ (24 + p)))) := frR_I (by omega)
      obtain ⟨σ2, f2, t2, e2⟩ := g_61 (c := g) (t := min (ρ 55) (ρ (12 + ρ 52))) hR ts1 hv hN hp3 pa (by omega) pb
      have hP := vRow_pour hv hN hp3 pa (by omega : g < 12) pb
      have e54 := (pc (min (ρ 55) (ρ (12 + ρ 52)))).2.2
      obtain ⟨σ3, f3, t3, tl⟩ := tl_25 (g := g) hR hT hd t2 (tTold_R (tTold_R (tTold_R hτ f1 (by omega)) fr1 (by omega)) f2 (by omega)) hv hP (by rw [(pc _).1]; exact hn) (by rw [(pc _).2.1]; exact hp) hg
      refine ⟨σ3, frR_tr f1 (frR_tr fr1 (frR_tr f2 f3)), by unfold sLay; rw [if_neg (fun q => q.elim a (fun q => c q.2)), if_pos b]; exact t3, fun hD => cV_of (m := 3) (fun d hd Q hQ => ?_) rfl hD⟩
      have hd1 : 1 ≤ d := by omega
      have hd2 : 2 ≤ d := by omega
      have hd3 : 3 ≤ d := by omega
      have l6 : (Int32.ofNat (ρ (24 + p)) < (60 : Int32)) ↔ True := iff_true_intro ((on_lt (j := 60) (by omega) (by omega)).mpr (by omega))
      refine b25_0 ?_
      simp only [↓br_pos, ↓br_neg, ↓rF_I, ↓rF_L, ↓rF_R, ↓rF_N, rO_m, rB_m, ↓rI_m, wI_m, ↓rB2_m, ↓rB3_m, wB2_m, wB3_m, ↓rL_m, wL_m, ↓rQ_m, wQ_m, ↓lI_m, pI_m, pL_m, pR_m, sI_m, sBy_m, sBo_m, sL_m, sQ_m, fst_m, true_and, and_true, tg_some, ln_some, uI_1, uI_2, uL_1, uL_2, uL_3, uQ_1, uQ_2, uQ_3, rv_i, rv_l, rv_n, rv_b0, rv_b1, RMR, ne_eq, reduceCtorEq, not_false_eq_true, Option.getD_some, if_true, if_false, and_self, false_and, and_false, Nat.add_left_cancel_iff, Nat.add_eq_left, Nat.left_eq_add, Nat.one_ne_zero, Nat.reduceAdd, Nat.reduceLT, Nat.reduceLeDiff, Nat.reduceEqDiff, true_implies, false_implies, implies_true, Option.some.injEq, forall_eq', forall_eq, reduceCtorEq, brT, brF, br_s, i_10, i_01, ib_0_2, ib_1_2, tn_0, tn_1, Int32.le_refl, eq_self, rv_bN, rv_iM, RCS r, hR', g_65 hd1, i1, i3, i4, i5, eb1, eb3, eb4, eb5, en1, en3, en4, en5, o1, o3, o4, o5', ebl, enl, elf, emn, ebp, enp, ela]
      refine b25_28 ?_
      simp only [↓br_pos, ↓br_neg, ↓rF_I, ↓rF_L, ↓rF_R, ↓rF_N, rO_m, rB_m, ↓rI_m, wI_m, ↓rB2_m, ↓rB3_m, wB2_m, wB3_m, ↓rL_m, wL_m, ↓rQ_m, wQ_m, ↓lI_m, pI_m, pL_m, pR_m, sI_m, sBy_m, sBo_m, sL_m, sQ_m, fst_m, true_and, and_true, tg_some, ln_some, uI_1, uI_2, uL_1, uL_2, uL_3, uQ_1, uQ_2, uQ_3, rv_i, rv_l, rv_n, rv_b0, rv_b1, RMR, ne_eq, reduceCtorEq, not_false_eq_true, Option.getD_some, if_true, if_false, and_self, false_and, and_false, Nat.add_left_cancel_iff, Nat.add_eq_left, Nat.left_eq_add, Nat.one_ne_zero, Nat.reduceAdd, Nat.reduceLT, Nat.reduceLeDiff, Nat.reduceEqDiff, true_implies, false_implies, implies_true, Option.some.injEq, forall_eq', forall_eq, reduceCtorEq, brT, brF, br_s, i_10, i_01, ib_0_2, ib_1_2, tn_0, tn_1, Int32.le_refl, eq_self, rv_bN, rv_iM, RCS r, hR', g_65 hd1, i1, i3, i4, i5, eb1, eb3, eb4, eb5, en1, en3, en4, en5, o1, o3, o4, o5', ebl, enl, elf, emn, ebp, enp, ela, z, l6, e1 hd2]
      refine b25_103 ?_
      rcases tl with ⟨q1, q2⟩ | ⟨q1, q2⟩ | ⟨q1, q2⟩
      · have c1 : (Int32.ofNat g = Int32.ofNat (ρ 54)) ↔ True := iff_true_intro (by rw [q1, e54])
        simp only [↓br_pos, ↓br_neg, ↓rF_I, ↓rF_L, ↓rF_R, ↓rF_N, rO_m, rB_m, ↓rI_m, wI_m, ↓rB2_m, ↓rB3_m, wB2_m, wB3_m, ↓rL_m, wL_m, ↓rQ_m, wQ_m, ↓lI_m, pI_m, pL_m, pR_m, sI_m, sBy_m, sBo_m, sL_m, sQ_m, fst_m, true_and, and_true, tg_some, ln_some, uI_1, uI_2, uL_1, uL_2, uL_3, uQ_1, uQ_2, uQ_3, rv_i, rv_l, rv_n, rv_b0, rv_b1, RMR, ne_eq, reduceCtorEq, not_false_eq_true, Option.getD_some, if_true, if_false, and_self, false_and, and_false, Nat.add_left_cancel_iff, Nat.add_eq_left, Nat.left_eq_add, Nat.one_ne_zero, Nat.reduceAdd, Nat.reduceLT, Nat.reduceLeDiff, Nat.reduceEqDiff, true_implies, false_implies, implies_true, Option.some.injEq, forall_eq', forall_eq, reduceCtorEq, brT, brF, br_s, i_10, i_01, ib_0_2, ib_1_2, tn_0, tn_1, Int32.le_refl, eq_self, rv_bN, rv_iM, RCS r, hR', i5, eb5, en5, e2 hd2, c1, q2 hd2]
        exact hQ
      · have c1 : (Int32.ofNat g = Int32.ofNat (ρ 54)) ↔ False := iff_false_intro (fun q => absurd ((of_inj (by omega) (by omega)).mp q) (by omega))
        have c2 : (Int32.ofNat (ρ 54) ≤ Int32.ofNat g) ↔ False := iff_false_intro (fun q => absurd ((on_le (by omega) (by omega)).mp q) (by omega))
        simp only [↓br_pos, ↓br_neg, ↓rF_I, ↓rF_L, ↓rF_R, ↓rF_N, rO_m, rB_m, ↓rI_m, wI_m, ↓rB2_m, ↓rB3_m, wB2_m, wB3_m, ↓rL_m, wL_m, ↓rQ_m, wQ_m, ↓lI_m, pI_m, pL_m, pR_m, sI_m, sBy_m, sBo_m, sL_m, sQ_m, fst_m, true_and, and_true, tg_some, ln_some, uI_1, uI_2, uL_1, uL_2, uL_3, uQ_1, uQ_2, uQ_3, rv_i, rv_l, rv_n, rv_b0, rv_b1, RMR, ne_eq, reduceCtorEq, not_false_eq_true, Option.getD_some, if_true, if_false, and_self, false_and, and_false, Nat.add_left_cancel_iff, Nat.add_eq_left, Nat.left_eq_add, Nat.one_ne_zero, Nat.reduceAdd, Nat.reduceLT, Nat.reduceLeDiff, Nat.reduceEqDiff, true_implies, false_implies, implies_true, Option.some.injEq, forall_eq', forall_eq, reduceCtorEq, brT, brF, br_s, i_10, i_01, ib_0_2, ib_1_2, tn_0, tn_1, Int32.le_refl, eq_self, rv_bN, rv_iM, RCS r, hR', i5, eb5, en5, e2 hd2, c1, c2, on_succ]
        exact q2 hd3 hQ
      · have c1 : (Int32.ofNat g = Int32.ofNat (ρ 54)) ↔ False := iff_false_intro (fun q => absurd ((of_inj (by omega) (by omega)).mp q) (by omega))
        have c2 : (Int32.ofNat (ρ 54) ≤ Int32.ofNat g) ↔ True := iff_true_intro ((on_le (by omega) (by omega)).mpr (by omega))
        have c3 : Int32.ofNat g - 1 = Int32.ofNat (g - 1) := st_m1 (by omega)
        simp only [↓br_pos, ↓br_neg, ↓rF_I, ↓rF_L, ↓rF_R, ↓rF_N, rO_m, rB_m, ↓rI_m, wI_m, ↓rB2_m, ↓rB3_m, wB2_m, wB3_m, ↓rL_m, wL_m, ↓rQ_m, wQ_m, ↓lI_m, pI_m, pL_m, pR_m, sI_m, sBy_m, sBo_m, sL_m, sQ_m, fst_m, true_and, and_true, tg_some, ln_some, uI_1, uI_2, uL_1, uL_2, uL_3, uQ_1, uQ_2, uQ_3, rv_i, rv_l, rv_n, rv_b0, rv_b1, RMR, ne_eq, reduceCtorEq, not_false_eq_true, Option.getD_some, if_true, if_false, and_self, false_and, and_false, Nat.add_left_cancel_iff, Nat.add_eq_left, Nat.left_eq_add, Nat.one_ne_zero, Nat.reduceAdd, Nat.reduceLT, Nat.reduceLeDiff, Nat.reduceEqDiff, true_implies, false_implies, implies_true, Option.some.injEq, forall_eq', forall_eq, reduceCtorEq, brT, brF, br_s, i_10, i_01, ib_0_2, ib_1_2, tn_0, tn_1, Int32.le_refl, eq_self, rv_bN, rv_iM, RCS r, hR', i5, eb5, en5, e2 hd2, c1, c2, c3]
        exact q2 hd3 hQ
  · have hvn := hvO'.resolve_left b
    have o5' : σ.1 (r + 13) 5 = Int32.ofNat (ρ 57 - 1) := by rw [o5, st_m1 b]
    have n5 : (Int32.ofNat (ρ 57 - 1) = -1) ↔ False := on_m1 (by rw [← hp] at hvn; omega)
    obtain ⟨pa, pb, pc⟩ := pour_old (g := g) hv h hn hp b
    obtain ⟨σ2, f2, t2, e2⟩ := g_61 (c := g) (t := min (ρ 55) (ρ (12 + ρ 52))) hR hρ hv h hp3 pa (by omega) (by rw [pb]; omega)
    have hP := vRow_pour (c := g) (t := min (ρ 55) (ρ (12 + ρ 52))) hv h hp3 pa (by omega) (by rw [pb]; omega)
    have e54 := (pc (min (ρ 55) (ρ (12 + ρ 52)))).2.2
    obtain ⟨σ3, f3, t3, tl⟩ := tl_25 (g := g) hR hT hd t2 (tTold_R hτ f2 (by omega)) hv hP (by rw [(pc _).1]; exact hn) (by rw [(pc _).2.1]; exact hp) hg
    refine ⟨σ3, frR_tr f2 f3, by unfold sLay; rw [if_neg (fun q => q.elim a (fun q => b q.1)), if_neg b]; exact t3, fun hD => cV_of (m := 3) (fun d hd Q hQ => ?_) rfl hD⟩
    have hd1 : 1 ≤ d := by omega
    have hd2 : 2 ≤ d := by omega
    have hd3 : 3 ≤ d := by omega
    refine b25_0 ?_
    simp only [↓br_pos, ↓br_neg, ↓rF_I, ↓rF_L, ↓rF_R, ↓rF_N, rO_m, rB_m, ↓rI_m, wI_m, ↓rB2_m, ↓rB3_m, wB2_m, wB3_m, ↓rL_m, wL_m, ↓rQ_m, wQ_m, ↓lI_m, pI_m, pL_m, pR_m, sI_m, sBy_m, sBo_m, sL_m, sQ_m, fst_m, true_and, and_true, tg_some, ln_some, uI_1, uI_2, uL_1, uL_2, uL_3, uQ_1, uQ_2, uQ_3, rv_i, rv_l, rv_n, rv_b0, rv_b1, RMR, ne_eq, reduceCtorEq, not_false_eq_true, Option.getD_some, if_true, if_false, and_self, false_and, and_false, Nat.add_left_cancel_iff, Nat.add_eq_left, Nat.left_eq_add, Nat.one_ne_zero, Nat.reduceAdd, Nat.reduceLT, Nat.reduceLeDiff, Nat.reduceEqDiff, true_implies, false_implies, implies_true, Option.some.injEq, forall_eq', forall_eq, reduceCtorEq, brT, brF, br_s, i_10, i_01, ib_0_2, ib_1_2, tn_0, tn_1, Int32.le_refl, eq_self, rv_bN, rv_iM, RCS r, hR', g_65 hd1, i1, i3, i4, i5, eb1, eb3, eb4, eb5, en1, en3, en4, en5, o1, o3, o4, o5', ebl, enl, elf, emn, ebp, enp, ela]
    refine b25_28 ?_
    rcases tl with ⟨q1, q2⟩ | ⟨q1, q2⟩ | ⟨q1, q2⟩
    · have c1 : (Int32.ofNat g = Int32.ofNat (ρ 54)) ↔ True := iff_true_intro (by rw [q1, e54])
      simp only [↓br_pos, ↓br_neg, ↓rF_I, ↓rF_L, ↓rF_R, ↓rF_N, rO_m, rB_m, ↓rI_m, wI_m, ↓rB2_m, ↓rB3_m, wB2_m, wB3_m, ↓rL_m, wL_m, ↓rQ_m, wQ_m, ↓lI_m, pI_m, pL_m, pR_m, sI_m, sBy_m, sBo_m, sL_m, sQ_m, fst_m, true_and, and_true, tg_some, ln_some, uI_1, uI_2, uL_1, uL_2, uL_3, uQ_1, uQ_2, uQ_3, rv_i, rv_l, rv_n, rv_b0, rv_b1, RMR, ne_eq, reduceCtorEq, not_false_eq_true, Option.getD_some, if_true, if_false, and_self, false_and, and_false, Nat.add_left_cancel_iff, Nat.add_eq_left, Nat.left_eq_add, Nat.one_ne_zero, Nat.reduceAdd, Nat.reduceLT, Nat.reduceLeDiff, Nat.reduceEqDiff, true_implies, false_implies, implies_true, Option.some.injEq, forall_eq', forall_eq, reduceCtorEq, brT, brF, br_s, i_10, i_01, ib_0_2, ib_1_2, tn_0, tn_1, Int32.le_refl, eq_self, rv_bN, rv_iM, RCS r, hR', g_65 hd1, i1, i3, i4, i5, eb1, eb3, eb4, eb5, en1, en3, en4, en5, o1, o3, o4, o5', ebl, enl, elf, emn, ebp, enp, ela, z, n5, e2 hd2, c1, q2 hd2]
      exact hQ
    · have c1 : (Int32.ofNat g = Int32.ofNat (ρ 54)) ↔ False := iff_false_intro (fun q => absurd ((of_inj (by omega) (by omega)).mp q) (by omega))
      have c2 : (Int32.ofNat (ρ 54) ≤ Int32.ofNat g) ↔ False := iff_false_intro (fun q => absurd ((on_le (by omega) (by omega)).mp q) (by omega))
      simp only [↓br_pos, ↓br_neg, ↓rF_I, ↓rF_L, ↓rF_R, ↓rF_N, rO_m, rB_m, ↓rI_m, wI_m, ↓rB2_m, ↓rB3_m, wB2_m, wB3_m, ↓rL_m, wL_m, ↓rQ_m, wQ_m, ↓lI_m, pI_m, pL_m, pR_m, sI_m, sBy_m, sBo_m, sL_m, sQ_m, fst_m, true_and, and_true, tg_some, ln_some, uI_1, uI_2, uL_1, uL_2, uL_3, uQ_1, uQ_2, uQ_3, rv_i, rv_l, rv_n, rv_b0, rv_b1, RMR, ne_eq, reduceCtorEq, not_false_eq_true, Option.getD_some, if_true, if_false, and_self, false_and, and_false, Nat.add_left_cancel_iff, Nat.add_eq_left, Nat.left_eq_add, Nat.one_ne_zero, Nat.reduceAdd, Nat.reduceLT, Nat.reduceLeDiff, Nat.reduceEqDiff, true_implies, false_implies, implies_true, Option.some.injEq, forall_eq', forall_eq, reduceCtorEq, brT, brF, br_s, i_10, i_01, ib_0_2, ib_1_2, tn_0, tn_1, Int32.le_refl, eq_self, rv_bN, rv_iM, RCS r, hR', g_65 hd1, i1, i3, i4, i5, eb1, eb3, eb4, eb5, en1, en3, en4, en5, o1, o3, o4, o5', ebl, enl, elf, emn, ebp, enp, ela, z, n5, e2 hd2, c1, c2, on_succ]
      exact q2 hd3 hQ
    · have c1 : (Int32.ofNat g = Int32.ofNat (ρ 54)) ↔ False := iff_false_intro (fun q => absurd ((of_inj (by omega) (by omega)).mp q) (by omega))
      have c2 : (Int32.ofNat (ρ 54) ≤ Int32.ofNat g) ↔ True := iff_true_intro ((on_le (by omega) (by omega)).mpr (by omega))
      have c3 : Int32.ofNat g - 1 = Int32.ofNat (g - 1) := st_m1 (by omega)
      simp only [↓br_pos, ↓br_neg, ↓rF_I, ↓rF_L, ↓rF_R, ↓rF_N, rO_m, rB_m, ↓rI_m, wI_m, ↓rB2_m, ↓rB3_m, wB2_m, wB3_m, ↓rL_m, wL_m, ↓rQ_m, wQ_m, ↓lI_m, pI_m, pL_m, pR_m, sI_m, sBy_m, sBo_m, sL_m, sQ_m, fst_m, true_and, and_true, tg_some, ln_some, uI_1, uI_2, uL_1, uL_2, uL_3, uQ_1, uQ_2, uQ_3, rv_i, rv_l, rv_n, rv_b0, rv_b1, RMR, ne_eq, reduceCtorEq, not_false_eq_true, Option.getD_some, if_true, if_false, and_self, false_and, and_false, Nat.add_left_cancel_iff, Nat.add_eq_left, Nat.left_eq_add, Nat.one_ne_zero, Nat.reduceAdd, Nat.reduceLT, Nat.reduceLeDiff, Nat.reduceEqDiff, true_implies, false_implies, implies_true, Option.some.injEq, forall_eq', forall_eq, reduceCtorEq, brT, brF, br_s, i_10, i_01, ib_0_2, ib_1_2, tn_0, tn_1, Int32.le_refl, eq_self, rv_bN, rv_iM, RCS r, hR', g_65 hd1, i1, i3, i4, i5, eb1, eb3, eb4, eb5, en1, en3, en4, en5, o1, o3, o4, o5', ebl, enl, elf, emn, ebp, enp, ela, z, n5, e2 hd2, c1, c2, c3]
      exact q2 hd3 hQ
