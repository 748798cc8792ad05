/-! the class's calls: sail, undo, image, minutes, ends, lay -/
abbrev saP (τ ρ : Rw) (s : Nat) : Prop := ρ (43 + s) = 0 ∧ ¬ tkP τ ρ s ∧ wiP τ s (ρ (27 + s)) (ρ (35 + s))
theorem c_91z {w : mT} {σ : mS} {tp n : Nat} {t : Nat → Nat} {τ ρ : Rw} {bk : Nat → Rw} {has : Nat → Bool} {im : Nat → Rw} {a : Int32} {D : Nat} {K : Int32 → Hp → Prop} (h : cIn w σ tp t τ ρ n bk has im) (ha : ¬ (bN a (τ 2) = 1 ∧ saP τ ρ a.toNatClampNeg)) (hD : 4 ≤ D) : wpI D 91 [.ref 0, .int a] (mW w σ) K ↔ K (-1) (mW w σ) := by
  have h' := h
  obtain ⟨hw, hS, hH, ⟨P, hP, p3, p4, hτ⟩, hρ, hv, hr, h1, htp, htb, ht⟩ := h
  have hT := isTP hw hP
  have hT' := hT
  simp only [isT] at hT'
  refine cI_of (m := 3) (fun d hd Q hQ => ?_) rfl hD
  have hd1 : 1 ≤ d := by omega
  have hd2 : 2 ≤ d := by omega
  have hd3 : 3 ≤ d := by omega
  have v2 := hv.2.2.1
  refine b91_0 ?_
  by_cases z : bN a (τ 2) = 1
  · obtain ⟨s, rfl, hs⟩ := bN_ex z
    have en := on_nat (i := s) (by omega)
    rw [en] at ha
    have eb : inB (Int32.ofNat s) 8 = true := on_inB (by omega) (by omega)
    have es : σ.1 42 s = Int32.ofNat (ρ (43 + s)) - 1 := tS_sa hρ hs
    have b1 := vR_sa hr s hs
    have b2 := hold_lt hr hs
    have b3 := vR_ore hr s hs
    have e5 : σ.1 40 s = Int32.ofNat (ρ (27 + s)) := tS_hT hρ hs
    have e6 : σ.1 41 s = Int32.ofNat (ρ (35 + s)) := tS_hO hρ hs
    have e62 := fun {K : Int32 → Hp → Prop} => g_62 (K := K) (isS35 hw) hT hρ hτ hv hr hs hd1
    have e74 := fun {K : Int32 → Hp → Prop} => g_74 (w := w) (σ := σ) (K := K) hT hτ hv hs (by omega : ρ (27 + s) ≤ 2000000) (by omega : ρ (35 + s) < 2147483648) hd1
    by_cases y : ρ (43 + s) = 0
    · have es' : σ.1 42 s = -1 := by rw [es, y]; decide
      by_cases x : tkP τ ρ s
      · have ex : iB (tkP τ ρ s) = 1 := iB_t x
        simp only [↓br_pos, ↓br_neg, ↓rF_I, ↓rF_L, ↓rF_R, ↓rF_N, rO_m, rB_m, ↓rI_m, wI_m, ↓rB2_m, ↓rB3_m, wB2_m, wB3_m, ↓rL_m, wL_m, ↓rQ_m, wQ_m, ↓lI_m, pI_m, pL_m, pR_m, sI_m, sBy_m, sBo_m, sL_m, sQ_m, fst_m, true_and, and_true, tg_some, ln_some, uI_1, uI_2, uL_1, uL_2, uL_3, uQ_1, uQ_2, uQ_3, rv_i, rv_l, rv_n, rv_b0, rv_b1, RMR, ne_eq, reduceCtorEq, not_false_eq_true, Option.getD_some, if_true, if_false, and_self, false_and, and_false, Nat.add_left_cancel_iff, Nat.add_eq_left, Nat.left_eq_add, Nat.one_ne_zero, Nat.reduceAdd, Nat.reduceLT, Nat.reduceLeDiff, Nat.reduceEqDiff, true_implies, false_implies, implies_true, Option.some.injEq, forall_eq', forall_eq, reduceCtorEq, brT, brF, br_s, i_10, i_01, ib_0_2, ib_1_2, tn_0, tn_1, Int32.le_refl, eq_self, rv_bN, rv_iM, RCX 0, RCG 2, RCT 4, RCT 15, RCT 25, RCS 35, RCS 49, RCH 63, RCP 67, RCB 72, RCR 77, RCM 81, RLY, lit_at hw, RCT P, hT', p3, g_73 hT hτ.2.2.2.1 (by omega : τ 2 < 2147483648) hd1, z, eb, en, es', e62, ex]
        exact hQ
      · have ex : iB (tkP τ ρ s) = 0 := iB_f x
        have ev : iB (wiP τ s (ρ (27 + s)) (ρ (35 + s))) = 0 := iB_f (fun q => ha ⟨z, y, x, q⟩)
        simp only [↓br_pos, ↓br_neg, ↓rF_I, ↓rF_L, ↓rF_R, ↓rF_N, rO_m, rB_m, ↓rI_m, wI_m, ↓rB2_m, ↓rB3_m, wB2_m, wB3_m, ↓rL_m, wL_m, ↓rQ_m, wQ_m, ↓lI_m, pI_m, pL_m, pR_m, sI_m, sBy_m, sBo_m, sL_m, sQ_m, fst_m, true_and, and_true, tg_some, ln_some, uI_1, uI_2, uL_1, uL_2, uL_3, uQ_1, uQ_2, uQ_3, rv_i, rv_l, rv_n, rv_b0, rv_b1, RMR, ne_eq, reduceCtorEq, not_false_eq_true, Option.getD_some, if_true, if_false, and_self, false_and, and_false, Nat.add_left_cancel_iff, Nat.add_eq_left, Nat.left_eq_add, Nat.one_ne_zero, Nat.reduceAdd, Nat.reduceLT, Nat.reduceLeDiff, Nat.reduceEqDiff, true_implies, false_implies, implies_true, Option.some.injEq, forall_eq', forall_eq, reduceCtorEq, brT, brF, br_s, i_10, i_01, ib_0_2, ib_1_2, tn_0, tn_1, Int32.le_refl, eq_self, rv_bN, rv_iM, RCX 0, RCG 2, RCT 4, RCT 15, RCT 25, RCS 35, RCS 49, RCH 63, RCP 67, RCB 72, RCR 77, RCM 81, RLY, lit_at hw, RCT P, hT', p3, g_73 hT hτ.2.2.2.1 (by omega : τ 2 < 2147483648) hd1, z, eb, en, es', e62, ex, e5, e6, e74, ev]
        exact hQ
    · have es' : (Int32.ofNat (ρ (43 + s)) - 1 = -1) ↔ False := iff_false_intro (fun q => y ((of_m1 (by omega)).mp q))
      simp only [↓br_pos, ↓br_neg, ↓rF_I, ↓rF_L, ↓rF_R, ↓rF_N, rO_m, rB_m, ↓rI_m, wI_m, ↓rB2_m, ↓rB3_m, wB2_m, wB3_m, ↓rL_m, wL_m, ↓rQ_m, wQ_m, ↓lI_m, pI_m, pL_m, pR_m, sI_m, sBy_m, sBo_m, sL_m, sQ_m, fst_m, true_and, and_true, tg_some, ln_some, uI_1, uI_2, uL_1, uL_2, uL_3, uQ_1, uQ_2, uQ_3, rv_i, rv_l, rv_n, rv_b0, rv_b1, RMR, ne_eq, reduceCtorEq, not_false_eq_true, Option.getD_some, if_true, if_false, and_self, false_and, and_false, Nat.add_left_cancel_iff, Nat.add_eq_left, Nat.left_eq_add, Nat.one_ne_zero, Nat.reduceAdd, Nat.reduceLT, Nat.reduceLeDiff, Nat.reduceEqDiff, true_implies, false_implies, implies_true, Option.some.injEq, forall_eq', forall_eq, reduceCtorEq, brT, brF, br_s, i_10, i_01, ib_0_2, ib_1_2, tn_0, tn_1, Int32.le_refl, eq_self, rv_bN, rv_iM, RCX 0, RCG 2, RCT 4, RCT 15, RCT 25, RCS 35, RCS 49, RCH 63, RCP 67, RCB 72, RCR 77, RCM 81, RLY, lit_at hw, RCT P, hT', p3, g_73 hT hτ.2.2.2.1 (by omega : τ 2 < 2147483648) hd1, z, eb, en, es, es']
      exact hQ
  · have z' : bN a (τ 2) = 0 := bN_01.resolve_right z
    simp only [↓br_pos, ↓br_neg, ↓rF_I, ↓rF_L, ↓rF_R, ↓rF_N, rO_m, rB_m, ↓rI_m, wI_m, ↓rB2_m, ↓rB3_m, wB2_m, wB3_m, ↓rL_m, wL_m, ↓rQ_m, wQ_m, ↓lI_m, pI_m, pL_m, pR_m, sI_m, sBy_m, sBo_m, sL_m, sQ_m, fst_m, true_and, and_true, tg_some, ln_some, uI_1, uI_2, uL_1, uL_2, uL_3, uQ_1, uQ_2, uQ_3, rv_i, rv_l, rv_n, rv_b0, rv_b1, RMR, ne_eq, reduceCtorEq, not_false_eq_true, Option.getD_some, if_true, if_false, and_self, false_and, and_false, Nat.add_left_cancel_iff, Nat.add_eq_left, Nat.left_eq_add, Nat.one_ne_zero, Nat.reduceAdd, Nat.reduceLT, Nat.reduceLeDiff, Nat.reduceEqDiff, true_implies, false_implies, implies_true, Option.some.injEq, forall_eq', forall_eq, reduceCtorEq, brT, brF, br_s, i_10, i_01, ib_0_2, ib_1_2, tn_0, tn_1, Int32.le_refl, eq_self, rv_bN, rv_iM, RCX 0, RCG 2, RCT 4, RCT 15, RCT 25, RCS 35, RCS 49, RCH 63, RCP 67, RCB 72, RCR 77, RCM 81, RLY, lit_at hw, RCT P, hT', p3, g_73 hT hτ.2.2.2.1 (by omega : τ 2 < 2147483648) hd1, z']
    exact hQ
theorem vRow_sa {τ ρ : Rw} {s x : Nat} (hv : vTold τ) (h : vRow τ ρ) (hs : s < τ 2) (hx : x ≤ 1000) : vRow τ (rSet ρ (43 + s) x) := by
  have v0 := hv.1
  have v2 := hv.2.2.1
  have g : ∀ j, j ≠ 43 + s → rSet ρ (43 + s) x j = ρ j := fun j hj => rS_ne hj
  have c0 := vR_c0 h
  have c1 := vR_c1 h
  refine vR_mk (by rw [g _ (by omega)]; exact vR_day h) (fun m hm => onP_c (vR_on h hm) (g _ (by omega))) (fun m hm => by rw [g _ (by omega)]; exact vR_way h hm) (by rw [g _ (by omega)]; exact c0) (by rw [g _ (by omega)]; exact c1) (fun p hp => by rw [g _ (by omega)]; exact vR_la h p hp) (fun p hp k hk => ?_) (fun p hp k hk hk2 c hc => ?_) ?_ (fun s' hs' => ?_) (fun s' hs' => ?_) (fun i hi => ?_) (fun i hi => ?_)
  · rw [g _ (by omega)] at hk
    rw [g _ (by unfold lo; omega)]; exact vR_lo h p hp k hk
  · rw [g _ (by omega)] at hk
    rw [g _ (by unfold li; omega)]; exact vR_z h p hp k hk hk2 c hc
  · rw [allT_c (fun l _ => g _ (by omega)) (fun p hp c _ => tOn_c (g _ (by omega)) (fun k _ => g _ (by unfold li; omega))) (fun s' _ => g _ (by omega))]
    exact vR_all h
  · rw [g _ (by omega), g _ (by omega)]; exact vR_ore h s' hs'
  · rw [rSet_1]; split
    · exact hx
    · exact vR_sa h s' hs'
  · rw [g _ (by omega)] at hi
    exact vO0_c hv (vR_o0 h i hi) (fun f _ _ => g _ (by omega)) (fun q hq => by rw [g _ (by omega)]; exact Nat.le_refl _) (fun q hq k _ => g _ (by unfold lo; omega))
  · rw [g _ (by omega)] at hi
    exact vO1_c (vR_o1 h i hi) (fun f _ => g _ (by omega))
theorem c_91 {w : mT} {σ : mS} {tp n : Nat} {t : Nat → Nat} {τ ρ : Rw} {bk : Nat → Rw} {has : Nat → Bool} {im : Nat → Rw} {s : Nat} (h : cIn w σ tp t τ ρ n bk has im) (hs : s < τ 2) (hy : saP τ ρ s) : ∃ w' σ', wExt w w' ∧ frM σ σ' ∧ cIn w' σ' tp t τ (rSet ρ (43 + s) (ρ 0 + 1)) (nPh n) (bkPh n bk ρ) has im ∧ ∀ {D : Nat} {K : Int32 → Hp → Prop}, 4 ≤ D → (wpI D 91 [.ref 0, .int (Int32.ofNat s)] (mW w σ) K ↔ K (Int32.ofNat (lateD τ (rSet ρ (43 + s) (ρ 0 + 1)) s)) (mW w' σ')) := by
  have h' := h
  obtain ⟨hw, hS, hH, ⟨P, hP, p3, p4, hτ⟩, hρ, hv, hr, h1, htp, htb, ht⟩ := h
  have hT := isTP hw hP
  have hT' := hT
  simp only [isT] at hT'
  obtain ⟨w1, σ1, x1, x2, C1, k1⟩ := k_11 h'
  have hw1 := C1.1
  have hρ1 : tSt σ1 35 τ ρ := C1.2.2.2.2.1
  obtain ⟨P1, hP1, p31, p41, hτ1⟩ := C1.2.2.2.1
  have hT1 := isTP hw1 hP1
  have hT1' := hT1
  simp only [isT] at hT1'
  have hb := vRow_b hv hr
  have v2 := hv.2.2.1
  have v0 := vR_day hr
  have ts : tSt (uI σ1 42 s (Int32.ofNat (ρ 0))) 35 τ (rSet ρ (43 + s) (ρ 0 + 1)) := tSt_w (A := 7) hρ1 hb (by unfold in0; omega) (lA_sa (by omega)) (by rw [tv_1 (by unfold isSh; omega), st_m1 (by omega)]; rfl) (by omega)
  have vr : vRow τ (rSet ρ (43 + s) (ρ 0 + 1)) := vRow_sa hv hr hs (by omega)
  have fr : frR 35 49 σ1 (uI σ1 42 s (Int32.ofNat (ρ 0))) := frR_I (by omega)
  refine ⟨w1, uI σ1 42 s (Int32.ofNat (ρ 0)), x1, frM_tr (frM_D x2 (by omega)) (frM_I (by omega)), cIn_mu C1 fr ts vr, fun hD => cI_of (m := 3) (fun d hd Q hQ => ?_) rfl hD⟩
  have hd1 : 1 ≤ d := by omega
  have hd2 : 2 ≤ d := by omega
  have hd3 : 3 ≤ d := by omega
  have z := bN_on hs (by omega : τ 2 < 2147483648)
  have en := on_nat (i := s) (by omega)
  have eb : inB (Int32.ofNat s) 8 = true := on_inB (by omega) (by omega)
  have es : σ.1 42 s = Int32.ofNat (ρ (43 + s)) - 1 := tS_sa hρ hs
  have b2 := hold_lt hr hs
  have b3 := vR_ore hr s hs
  have e5 : σ.1 40 s = Int32.ofNat (ρ (27 + s)) := tS_hT hρ hs
  have e6 : σ.1 41 s = Int32.ofNat (ρ (35 + s)) := tS_hO hρ hs
  have e62 := fun {K : Int32 → Hp → Prop} => g_62 (K := K) (isS35 hw) hT hρ hτ hv hr hs hd1
  have e74 := fun {K : Int32 → Hp → Prop} => g_74 (w := w) (σ := σ) (K := K) hT hτ hv hs (by omega : ρ (27 + s) ≤ 2000000) (by omega : ρ (35 + s) < 2147483648) hd1
  have es' : σ.1 42 s = -1 := by rw [es, hy.1]; decide
  have ex : iB (tkP τ ρ s) = 0 := iB_f hy.2.1
  have ev : iB (wiP τ s (ρ (27 + s)) (ρ (35 + s))) = 1 := iB_t hy.2.2
  have e0 : σ1.1 35 0 = Int32.ofNat (ρ 0) := tS_d hρ1
  have p32 : (uI σ1 42 s (Int32.ofNat (ρ 0))).2.2 0 3 = some P1 := p31
  have e125 := fun {K : Int32 → Hp → Prop} => g_125 (K := K) hw1 hP1 p32 (tTold_R hτ1 fr (by omega)) hv ts vr hs hd1
  refine b91_0 ?_
  simp only [↓br_pos, ↓br_neg, ↓rF_I, ↓rF_L, ↓rF_R, ↓rF_N, rO_m, rB_m, ↓rI_m, wI_m, ↓rB2_m, ↓rB3_m, wB2_m, wB3_m, ↓rL_m, wL_m, ↓rQ_m, wQ_m, ↓lI_m, pI_m, pL_m, pR_m, sI_m, sBy_m, sBo_m, sL_m, sQ_m, fst_m, true_and, and_true, tg_some, ln_some, uI_1, uI_2, uL_1, uL_2, uL_3, uQ_1, uQ_2, uQ_3, rv_i, rv_l, rv_n, rv_b0, rv_b1, RMR, ne_eq, reduceCtorEq, not_false_eq_true, Option.getD_some, if_true, if_false, and_self, false_and, and_false, Nat.add_left_cancel_iff, Nat.add_eq_left, Nat.left_eq_add, Nat.one_ne_zero, Nat.reduceAdd, Nat.reduceLT, Nat.reduceLeDiff, Nat.reduceEqDiff, true_implies, false_implies, implies_true, Option.some.injEq, forall_eq', forall_eq, reduceCtorEq, brT, brF, br_s, i_10, i_01, ib_0_2, ib_1_2, tn_0, tn_1, Int32.le_refl, eq_self, rv_bN, rv_iM, RCX 0, RCG 2, RCT 4, RCT 15, RCT 25, RCS 35, RCS 49, RCH 63, RCP 67, RCB 72, RCR 77, RCM 81, RLY, lit_at hw, RCT P, hT', p3, g_73 hT hτ.2.2.2.1 (by omega : τ 2 < 2147483648) hd1, z, eb, en, es', e62, ex, e5, e6, e74, ev, k1 hd, lit_at hw1, e0, e125]
  exact hQ
theorem c_98z {w : mT} {σ : mS} {tp : Nat} {t : Nat → Nat} {τ ρ : Rw} {bk : Nat → Rw} {has : Nat → Bool} {im : Nat → Rw} {D : Nat} {K : Int32 → Hp → Prop} (h : cIn w σ tp t τ ρ 0 bk has im) (hD : 4 ≤ D) : wpI D 98 [.ref 0] (mW w σ) K ↔ K (-1) (mW w σ) := by
  obtain ⟨hw, hS, ⟨oo, hH⟩, r⟩ := h
  refine cI_of (m := 3) (fun d hd Q hQ => ?_) rfl hD
  refine b98_0 ?_
  simp only [↓br_pos, ↓br_neg, ↓rF_I, ↓rF_L, ↓rF_R, ↓rF_N, rO_m, rB_m, ↓rI_m, wI_m, ↓rB2_m, ↓rB3_m, wB2_m, wB3_m, ↓rL_m, wL_m, ↓rQ_m, wQ_m, ↓lI_m, pI_m, pL_m, pR_m, sI_m, sBy_m, sBo_m, sL_m, sQ_m, fst_m, true_and, and_true, tg_some, ln_some, uI_1, uI_2, uL_1, uL_2, uL_3, uQ_1, uQ_2, uQ_3, rv_i, rv_l, rv_n, rv_b0, rv_b1, RMR, ne_eq, reduceCtorEq, not_false_eq_true, Option.getD_some, if_true, if_false, and_self, false_and, and_false, Nat.add_left_cancel_iff, Nat.add_eq_left, Nat.left_eq_add, Nat.one_ne_zero, Nat.reduceAdd, Nat.reduceLT, Nat.reduceLeDiff, Nat.reduceEqDiff, true_implies, false_implies, implies_true, Option.some.injEq, forall_eq', forall_eq, reduceCtorEq, brT, brF, br_s, i_10, i_01, ib_0_2, ib_1_2, tn_0, tn_1, Int32.le_refl, eq_self, rv_bN, rv_iM, RCX 0, RCG 2, RCT 4, RCT 15, RCT 25, RCS 35, RCS 49, RCH 63, RCP 67, RCB 72, RCR 77, RCM 81, RLY, lit_at hw, g_12z hw hH hd]
  exact hQ
theorem cIn_st {w : mT} {σ σ' : mS} {tp n : Nat} {t : Nat → Nat} {τ ρ : Rw} {bk : Nat → Rw} {has : Nat → Bool} {im : Nat → Rw} {n' o : Nat} {ρ' : Rw} (h : cIn w σ tp t τ ρ n bk has im) (hf : frD 35 66 σ σ') (hS' : hiS w σ') (hH' : hiT σ' τ n' o bk has im) (ht' : tSt σ' 35 τ ρ') (hr' : vRow τ ρ') : cIn w σ' tp t τ ρ' n' bk has im := by
  obtain ⟨a1, a2, a3, ⟨P, b1, b2, b3, b4⟩, a5, a6, a7, a8, a9, a10, a11⟩ := h
  have r : ∀ a, a < 35 → σ'.1 a = σ.1 a := fun a ha => (hf a (by omega) (by omega)).1
  have q : ∀ a, a < 35 → σ'.2.2 a = σ.2.2 a := fun a ha => (hf a (by omega) (by omega)).2.2
  exact ⟨a1, hS', ⟨o, hH'⟩, ⟨P, b1, by rw [q 0 (by omega)]; exact b2, by rw [q 0 (by omega)]; exact b3, tTold_fr b4 (fun a y1 y2 => r a (by omega))⟩, ht', a6, hr', by rw [r 0 (by omega)]; exact a8, a9, fun i hi => by rw [r 1 (by omega)]; exact a10 i hi, a11⟩
theorem c_98 {w : mT} {σ : mS} {tp n : Nat} {t : Nat → Nat} {τ ρ : Rw} {bk : Nat → Rw} {has : Nat → Bool} {im : Nat → Rw} (h : cIn w σ tp t τ ρ n bk has im) (hn : 0 < n) : ∃ σ', frM σ σ' ∧ cIn w σ' tp t τ (bk (n - 1)) (n - 1) bk has im ∧ ∀ {D : Nat} {K : Int32 → Hp → Prop}, 4 ≤ D → (wpI D 98 [.ref 0] (mW w σ) K ↔ K (Int32.ofNat (n - 1)) (mW w σ')) := by
  have h' := h
  obtain ⟨hw, hS, ⟨oo, hH⟩, hP, hρ, hv, r⟩ := h
  obtain ⟨σ1, f1, -, S1, H1, t1, e1⟩ := g_12 hw hS hH hv hn
  have vb : vRow τ (bk (n - 1)) := (hH.2.2.2.2.1 (n - 1) (by omega)).1
  refine ⟨σ1, frM_D f1 (by omega), cIn_st h' f1 S1 H1 t1 vb, fun hD => cI_of (m := 3) (fun d hd Q hQ => ?_) rfl hD⟩
  have en : σ1.1 63 2 = Int32.ofNat (n - 1) := H1.2.2.1
  refine b98_0 ?_
  simp only [↓br_pos, ↓br_neg, ↓rF_I, ↓rF_L, ↓rF_R, ↓rF_N, rO_m, rB_m, ↓rI_m, wI_m, ↓rB2_m, ↓rB3_m, wB2_m, wB3_m, ↓rL_m, wL_m, ↓rQ_m, wQ_m, ↓lI_m, pI_m, pL_m, pR_m, sI_m, sBy_m, sBo_m, sL_m, sQ_m, fst_m, true_and, and_true, tg_some, ln_some, uI_1, uI_2, uL_1, uL_2, uL_3, uQ_1, uQ_2, uQ_3, rv_i, rv_l, rv_n, rv_b0, rv_b1, RMR, ne_eq, reduceCtorEq, not_false_eq_true, Option.getD_some, if_true, if_false, and_self, false_and, and_false, Nat.add_left_cancel_iff, Nat.add_eq_left, Nat.left_eq_add, Nat.one_ne_zero, Nat.reduceAdd, Nat.reduceLT, Nat.reduceLeDiff, Nat.reduceEqDiff, true_implies, false_implies, implies_true, Option.some.injEq, forall_eq', forall_eq, reduceCtorEq, brT, brF, br_s, i_10, i_01, ib_0_2, ib_1_2, tn_0, tn_1, Int32.le_refl, eq_self, rv_bN, rv_iM, RCX 0, RCG 2, RCT 4, RCT 15, RCT 25, RCS 35, RCS 49, RCH 63, RCP 67, RCB 72, RCR 77, RCM 81, RLY, lit_at hw, e1 hd, en]
  exact hQ
theorem c_99z {w : mT} {σ : mS} {a b : Int32} {D : Nat} {K : Int32 → Hp → Prop} (hw : lit w) (ha : ¬ (0 ≤ a.toInt ∧ a.toInt < 2)) (hD : 4 ≤ D) : wpI D 99 [.ref 0, .int a, .int b] (mW w σ) K ↔ K 0 (mW w σ) := by
  refine cI_of (m := 3) (fun d hd Q hQ => ?_) rfl hD
  refine b99_0 ?_
  by_cases z : b = 0
  · simp only [↓br_pos, ↓br_neg, ↓rF_I, ↓rF_L, ↓rF_R, ↓rF_N, rO_m, rB_m, ↓rI_m, wI_m, ↓rB2_m, ↓rB3_m, wB2_m, wB3_m, ↓rL_m, wL_m, ↓rQ_m, wQ_m, ↓lI_m, pI_m, pL_m, pR_m, sI_m, sBy_m, sBo_m, sL_m, sQ_m, fst_m, true_and, and_true, tg_some, ln_some, uI_1, uI_2, uL_1, uL_2, uL_3, uQ_1, uQ_2, uQ_3, rv_i, rv_l, rv_n, rv_b0, rv_b1, RMR, ne_eq, reduceCtorEq, not_false_eq_true, Option.getD_some, if_true, if_false, and_self, false_and, and_false, Nat.add_left_cancel_iff, Nat.add_eq_left, Nat.left_eq_add, Nat.one_ne_zero, Nat.reduceAdd, Nat.reduceLT, Nat.reduceLeDiff, Nat.reduceEqDiff, true_implies, false_implies, implies_true, Option.some.injEq, forall_eq', forall_eq, reduceCtorEq, brT, brF, br_s, i_10, i_01, ib_0_2, ib_1_2, tn_0, tn_1, Int32.le_refl, eq_self, rv_bN, rv_iM, RCX 0, RCG 2, RCT 4, RCT 15, RCT 25, RCS 35, RCS 49, RCH 63, RCP 67, RCB 72, RCR 77, RCM 81, RLY, lit_at hw, z, g_13z ha hd]
    exact hQ
  · simp only [↓br_pos, ↓br_neg, ↓rF_I, ↓rF_L, ↓rF_R, ↓rF_N, rO_m, rB_m, ↓rI_m, wI_m, ↓rB2_m, ↓rB3_m, wB2_m, wB3_m, ↓rL_m, wL_m, ↓rQ_m, wQ_m, ↓lI_m, pI_m, pL_m, pR_m, sI_m, sBy_m, sBo_m, sL_m, sQ_m, fst_m, true_and, and_true, tg_some, ln_some, uI_1, uI_2, uL_1, uL_2, uL_3, uQ_1, uQ_2, uQ_3, rv_i, rv_l, rv_n, rv_b0, rv_b1, RMR, ne_eq, reduceCtorEq, not_false_eq_true, Option.getD_some, if_true, if_false, and_self, false_and, and_false, Nat.add_left_cancel_iff, Nat.add_eq_left, Nat.left_eq_add, Nat.one_ne_zero, Nat.reduceAdd, Nat.reduceLT, Nat.reduceLeDiff, Nat.reduceEqDiff, true_implies, false_implies, implies_true, Option.some.injEq, forall_eq', forall_eq, reduceCtorEq, brT, brF, br_s, i_10, i_01, ib_0_2, ib_1_2, tn_0, tn_1, Int32.le_refl, eq_self, rv_bN, rv_iM, RCX 0, RCG 2, RCT 4, RCT 15, RCT 25, RCS 35, RCS 49, RCH 63, RCP 67, RCB 72, RCR 77, RCM 81, RLY, lit_at hw, z, g_14z ha hd]
    exact hQ
theorem c_99l {w : mT} {σ : mS} {tp n : Nat} {t : Nat → Nat} {τ ρ : Rw} {bk : Nat → Rw} {has : Nat → Bool} {im : Nat → Rw} {k : Nat} (h : cIn w σ tp t τ ρ n bk has im) (hk : k < 2) : ∃ w' σ', wExt w w' ∧ frM σ σ' ∧ cIn w' σ' tp t τ ρ n bk (hasS has k) (imS im k ρ) ∧ ∀ {D : Nat} {K : Int32 → Hp → Prop}, 4 ≤ D → (wpI D 99 [.ref 0, .int (Int32.ofNat k), .int 0] (mW w σ) K ↔ K 1 (mW w' σ')) := by
  have h' := h
  obtain ⟨hw, hS, ⟨oo, hH⟩, ⟨P, b1, b2, b3, b4⟩, hρ, hv, hr, a8, a9, a10, a11⟩ := h
  obtain ⟨w1, σ1, x1, x2, S1, H1, e1⟩ := g_13 hw hS hH hρ hv hr hk
  have r : ∀ a, a < 63 → σ1.1 a = σ.1 a := fun a ha => (x2 a (by omega) (by omega)).1
  have q : ∀ a, a < 63 → σ1.2.2 a = σ.2.2 a := fun a ha => (x2 a (by omega) (by omega)).2.2
  refine ⟨w1, σ1, x1, frM_D x2 (by omega), ⟨lit_E x1 hS.2.2.1 hw, S1, ⟨oo, H1⟩, ⟨P, b1, by rw [q 0 (by omega)]; exact b2, by rw [q 0 (by omega)]; exact b3, tTold_fr b4 (fun a y1 y2 => r a (by omega))⟩, tSt_fr hρ (fun a y1 y2 => r a (by omega)), hv, hr, by rw [r 0 (by omega)]; exact a8, a9, fun i hi => by rw [r 1 (by omega)]; exact a10 i hi, a11⟩, fun hD => cI_of (m := 3) (fun d hd Q hQ => ?_) rfl hD⟩
  refine b99_0 ?_
  simp only [↓br_pos, ↓br_neg, ↓rF_I, ↓rF_L, ↓rF_R, ↓rF_N, rO_m, rB_m, ↓rI_m, wI_m, ↓rB2_m, ↓rB3_m, wB2_m, wB3_m, ↓rL_m, wL_m, ↓rQ_m, wQ_m, ↓lI_m, pI_m, pL_m, pR_m, sI_m, sBy_m, sBo_m, sL_m, sQ_m, fst_m, true_and, and_true, tg_some, ln_some, uI_1, uI_2, uL_1, uL_2, uL_3, uQ_1, uQ_2, uQ_3, rv_i, rv_l, rv_n, rv_b0, rv_b1, RMR, ne_eq, reduceCtorEq, not_false_eq_true, Option.getD_some, if_true, if_false, and_self, false_and, and_false, Nat.add_left_cancel_iff, Nat.add_eq_left, Nat.left_eq_add, Nat.one_ne_zero, Nat.reduceAdd, Nat.reduceLT, Nat.reduceLeDiff, Nat.reduceEqDiff, true_implies, false_implies, implies_true, Option.some.injEq, forall_eq', forall_eq, reduceCtorEq, brT, brF, br_s, i_10, i_01, ib_0_2, ib_1_2, tn_0, tn_1, Int32.le_refl, eq_self, rv_bN, rv_iM, RCX 0, RCG 2, RCT 4, RCT 15, RCT 25, RCS 35, RCS 49, RCH 63, RCP 67, RCB 72, RCR 77, RCM 81, RLY, lit_at hw, e1 hd]
  exact hQ
theorem c_99f {w : mT} {σ : mS} {tp n : Nat} {t : Nat → Nat} {τ ρ : Rw} {bk : Nat → Rw} {has : Nat → Bool} {im : Nat → Rw} {k : Nat} {b : Int32} {D : Nat} {K : Int32 → Hp → Prop} (h : cIn w σ tp t τ ρ n bk has im) (hk : k < 2) (hb : b ≠ 0) (hh : has k = false) (hD : 4 ≤ D) : wpI D 99 [.ref 0, .int (Int32.ofNat k), .int b] (mW w σ) K ↔ K 0 (mW w σ) := by
  obtain ⟨hw, hS, ⟨oo, hH⟩, r⟩ := h
  refine cI_of (m := 3) (fun d hd Q hQ => ?_) rfl hD
  refine b99_0 ?_
  simp only [↓br_pos, ↓br_neg, ↓rF_I, ↓rF_L, ↓rF_R, ↓rF_N, rO_m, rB_m, ↓rI_m, wI_m, ↓rB2_m, ↓rB3_m, wB2_m, wB3_m, ↓rL_m, wL_m, ↓rQ_m, wQ_m, ↓lI_m, pI_m, pL_m, pR_m, sI_m, sBy_m, sBo_m, sL_m, sQ_m, fst_m, true_and, and_true, tg_some, ln_some, uI_1, uI_2, uL_1, uL_2, uL_3, uQ_1, uQ_2, uQ_3, rv_i, rv_l, rv_n, rv_b0, rv_b1, RMR, ne_eq, reduceCtorEq, not_false_eq_true, Option.getD_some, if_true, if_false, and_self, false_and, and_false, Nat.add_left_cancel_iff, Nat.add_eq_left, Nat.left_eq_add, Nat.one_ne_zero, Nat.reduceAdd, Nat.reduceLT, Nat.reduceLeDiff, Nat.reduceEqDiff, true_implies, false_implies, implies_true, Option.some.injEq, forall_eq', forall_eq, reduceCtorEq, brT, brF, br_s, i_10, i_01, ib_0_2, ib_1_2, tn_0, tn_1, Int32.le_refl, eq_self, rv_bN, rv_iM, RCX 0, RCG 2, RCT 4, RCT 15, RCT 25, RCS 35, RCS 49, RCH 63, RCP 67, RCB 72, RCR 77, RCM 81, RLY, lit_at hw, hb, g_14f hw hH hk hh hd]
  exact hQ
theorem c_99r {w : mT} {σ : mS} {tp n : Nat} {t : Nat → Nat} {τ ρ : Rw} {bk : Nat → Rw} {has : Nat → Bool} {im : Nat → Rw} {k : Nat} {b : Int32} (h : cIn w σ tp t τ ρ n bk has im) (hk : k < 2) (hb : b ≠ 0) (hh : has k = true) : ∃ σ', frM σ σ' ∧ cIn w σ' tp t τ (im k) 0 bk has im ∧ ∀ {D : Nat} {K : Int32 → Hp → Prop}, 4 ≤ D → (wpI D 99 [.ref 0, .int (Int32.ofNat k), .int b] (mW w σ) K ↔ K 1 (mW w σ')) := by
  have h' := h
  obtain ⟨hw, hS, ⟨oo, hH⟩, hP, hρ, hv, r⟩ := h
  obtain ⟨σ1, f1, -, S1, H1, t1, e1⟩ := g_14 hw hS hH hv hk hh
  have vb : vRow τ (im k) := ((hH.2.2.2.2.2 k hk).2 hh).1
  refine ⟨σ1, frM_D f1 (by omega), cIn_st h' f1 S1 H1 t1 vb, fun hD => cI_of (m := 3) (fun d hd Q hQ => ?_) rfl hD⟩
  refine b99_0 ?_
  simp only [↓br_pos, ↓br_neg, ↓rF_I, ↓rF_L, ↓rF_R, ↓rF_N, rO_m, rB_m, ↓rI_m, wI_m, ↓rB2_m, ↓rB3_m, wB2_m, wB3_m, ↓rL_m, wL_m, ↓rQ_m, wQ_m, ↓lI_m, pI_m, pL_m, pR_m, sI_m, sBy_m, sBo_m, sL_m, sQ_m, fst_m, true_and, and_true, tg_some, ln_some, uI_1, uI_2, uL_1, uL_2, uL_3, uQ_1, uQ_2, uQ_3, rv_i, rv_l, rv_n, rv_b0, rv_b1, RMR, ne_eq, reduceCtorEq, not_false_eq_true, Option.getD_some, if_true, if_false, and_self, false_and, and_false, Nat.add_left_cancel_iff, Nat.add_eq_left, Nat.left_eq_add, Nat.one_ne_zero, Nat.reduceAdd, Nat.reduceLT, Nat.reduceLeDiff, Nat.reduceEqDiff, true_implies, false_implies, implies_true, Option.some.injEq, forall_eq', forall_eq, reduceCtorEq, brT, brF, br_s, i_10, i_01, ib_0_2, ib_1_2, tn_0, tn_1, Int32.le_refl, eq_self, rv_bN, rv_iM, RCX 0, RCG 2, RCT 4, RCT 15, RCT 25, RCS 35, RCS 49, RCH 63, RCP 67, RCB 72, RCR 77, RCM 81, RLY, lit_at hw, hb, e1 hd]
  exact hQ
/-- many minutes -/
def mnR (τ ρ : Rw) : Nat → Rw
  | 0 => ρ
  | k + 1 => sMin τ (mnR τ ρ k)
def mnC (τ ρ : Rw) (k : Nat) : Nat := sm k (fun i => if mPs τ (mnR τ ρ i) then 1 else 0)
theorem vRow_mn {τ ρ : Rw} (hv : vTold τ) (h : vRow τ ρ) : ∀ k, vRow τ (mnR τ ρ k) := by
  intro k
  induction k with
  | zero => exact h
  | succ k ih => exact vRow_min hv ih
theorem lp_96 {w : mT} {P N : Nat} {τ ρ : Rw} (hw : lit w) (hP : P = 15 ∨ P = 25) (hv : vTold τ) (hr : vRow τ ρ) (hN : N ≤ 200) : ∀ (k i : Nat) (σ : mS), i + k = N → σ.2.2 0 3 = some P → tTold σ P τ → tSt σ 35 τ (mnR τ ρ i) → ∃ σ', frR 35 49 σ σ' ∧ tSt σ' 35 τ (mnR τ ρ N) ∧ ∀ {Q : Option (Option Value) → Hp → Prop} {d : Nat}, 6 ≤ d → Q (some (some (.int (Int32.ofNat (mnC τ ρ N))))) (mW w σ') → Wp 96 29 [.ref 0, .int (Int32.ofNat N), .int (Int32.ofNat (mnC τ ρ i)), .int (Int32.ofNat i)] [] (mW w σ) Q d := by
  have hT := isTP hw hP
  intro k
  induction k with
  | zero =>
    intro i σ hi p3 hτ ts
    have hi' : i = N := by omega
    subst hi'
    refine ⟨σ, frR_rf, ts, fun hd hQ => ?_⟩
    refine b96_29 ?_
    simp only [↓br_pos, ↓br_neg, ↓rF_I, ↓rF_L, ↓rF_R, ↓rF_N, rO_m, rB_m, ↓rI_m, wI_m, ↓rB2_m, ↓rB3_m, wB2_m, wB3_m, ↓rL_m, wL_m, ↓rQ_m, wQ_m, ↓lI_m, pI_m, pL_m, pR_m, sI_m, sBy_m, sBo_m, sL_m, sQ_m, fst_m, true_and, and_true, tg_some, ln_some, uI_1, uI_2, uL_1, uL_2, uL_3, uQ_1, uQ_2, uQ_3, rv_i, rv_l, rv_n, rv_b0, rv_b1, RMR, ne_eq, reduceCtorEq, not_false_eq_true, Option.getD_some, if_true, if_false, and_self, false_and, and_false, Nat.add_left_cancel_iff, Nat.add_eq_left, Nat.left_eq_add, Nat.one_ne_zero, Nat.reduceAdd, Nat.reduceLT, Nat.reduceLeDiff, Nat.reduceEqDiff, true_implies, false_implies, implies_true, Option.some.injEq, forall_eq', forall_eq, reduceCtorEq, brT, brF, br_s, i_10, i_01, ib_0_2, ib_1_2, tn_0, tn_1, Int32.le_refl, eq_self, rv_bN, rv_iM, Int32.le_refl]
    exact hQ
  | succ k ih =>
    intro i σ hi p3 hτ ts
    obtain ⟨σ1, f1, t1, e1⟩ := g_20 (isS35 hw) hT (by omega) ts hτ hv (vRow_mn hv hr i)
    obtain ⟨σ2, f2, t2, e2⟩ := ih (i + 1) σ1 (by omega) (by rw [f1.2]; exact p3) (tTold_R hτ f1 (by omega)) t1
    refine ⟨σ2, frR_tr f1 f2, t2, fun hd hQ => ?_⟩
    have l1 : (Int32.ofNat N ≤ Int32.ofNat i) ↔ False := iff_false_intro (fun q => absurd ((on_le (by omega) (by omega)).mp q) (by omega))
    have es : mnC τ ρ (i + 1) = mnC τ ρ i + (if mPs τ (mnR τ ρ i) then 1 else 0) := rfl
    have nx := e2 hd hQ
    rw [es] at nx
    refine b96_29 ?_
    by_cases z : mPs τ (mnR τ ρ i)
    · have ez : iB (mPs τ (mnR τ ρ i)) = 1 := iB_t z
      rw [if_pos z] at nx
      simp only [↓br_pos, ↓br_neg, ↓rF_I, ↓rF_L, ↓rF_R, ↓rF_N, rO_m, rB_m, ↓rI_m, wI_m, ↓rB2_m, ↓rB3_m, wB2_m, wB3_m, ↓rL_m, wL_m, ↓rQ_m, wQ_m, ↓lI_m, pI_m, pL_m, pR_m, sI_m, sBy_m, sBo_m, sL_m, sQ_m, fst_m, true_and, and_true, tg_some, ln_some, uI_1, uI_2, uL_1, uL_2, uL_3, uQ_1, uQ_2, uQ_3, rv_i, rv_l, rv_n, rv_b0, rv_b1, RMR, ne_eq, reduceCtorEq, not_false_eq_true, Option.getD_some, if_true, if_false, and_self, false_and, and_false, Nat.add_left_cancel_iff, Nat.add_eq_left, Nat.left_eq_add, Nat.one_ne_zero, Nat.reduceAdd, Nat.reduceLT, Nat.reduceLeDiff, Nat.reduceEqDiff, true_implies, false_implies, implies_true, Option.some.injEq, forall_eq', forall_eq, reduceCtorEq, brT, brF, br_s, i_10, i_01, ib_0_2, ib_1_2, tn_0, tn_1, Int32.le_refl, eq_self, rv_bN, rv_iM, RCX 0, RCG 2, RCT 4, RCT 15, RCT 25, RCS 35, RCS 49, RCH 63, RCP 67, RCB 72, RCR 77, RCM 81, RLY, lit_at hw, p3, l1, e1 hd, ez, on_succ]
      exact nx
    · have ez : iB (mPs τ (mnR τ ρ i)) = 0 := iB_f z
      rw [if_neg z] at nx
      simp only [↓br_pos, ↓br_neg, ↓rF_I, ↓rF_L, ↓rF_R, ↓rF_N, rO_m, rB_m, ↓rI_m, wI_m, ↓rB2_m, ↓rB3_m, wB2_m, wB3_m, ↓rL_m, wL_m, ↓rQ_m, wQ_m, ↓lI_m, pI_m, pL_m, pR_m, sI_m, sBy_m, sBo_m, sL_m, sQ_m, fst_m, true_and, and_true, tg_some, ln_some, uI_1, uI_2, uL_1, uL_2, uL_3, uQ_1, uQ_2, uQ_3, rv_i, rv_l, rv_n, rv_b0, rv_b1, RMR, ne_eq, reduceCtorEq, not_false_eq_true, Option.getD_some, if_true, if_false, and_self, false_and, and_false, Nat.add_left_cancel_iff, Nat.add_eq_left, Nat.left_eq_add, Nat.one_ne_zero, Nat.reduceAdd, Nat.reduceLT, Nat.reduceLeDiff, Nat.reduceEqDiff, true_implies, false_implies, implies_true, Option.some.injEq, forall_eq', forall_eq, reduceCtorEq, brT, brF, br_s, i_10, i_01, ib_0_2, ib_1_2, tn_0, tn_1, Int32.le_refl, eq_self, rv_bN, rv_iM, RCX 0, RCG 2, RCT 4, RCT 15, RCT 25, RCS 35, RCS 49, RCH 63, RCP 67, RCB 72, RCR 77, RCM 81, RLY, lit_at hw, p3, l1, e1 hd, ez, on_succ]
      exact nx
theorem c_96z {w : mT} {σ : mS} {a : Int32} {D : Nat} {K : Int32 → Hp → Prop} (ha : ¬ (1 ≤ a.toInt ∧ a.toInt ≤ 200)) (hD : 7 ≤ D) : wpI D 96 [.ref 0, .int a] (mW w σ) K ↔ K (-1) (mW w σ) := by
  refine cI_of (m := 6) (fun d hd Q hQ => ?_) rfl hD
  refine b96_0 ?_
  by_cases z : a < 1
  · simp only [↓br_pos, ↓br_neg, ↓rF_I, ↓rF_L, ↓rF_R, ↓rF_N, rO_m, rB_m, ↓rI_m, wI_m, ↓rB2_m, ↓rB3_m, wB2_m, wB3_m, ↓rL_m, wL_m, ↓rQ_m, wQ_m, ↓lI_m, pI_m, pL_m, pR_m, sI_m, sBy_m, sBo_m, sL_m, sQ_m, fst_m, true_and, and_true, tg_some, ln_some, uI_1, uI_2, uL_1, uL_2, uL_3, uQ_1, uQ_2, uQ_3, rv_i, rv_l, rv_n, rv_b0, rv_b1, RMR, ne_eq, reduceCtorEq, not_false_eq_true, Option.getD_some, if_true, if_false, and_self, false_and, and_false, Nat.add_left_cancel_iff, Nat.add_eq_left, Nat.left_eq_add, Nat.one_ne_zero, Nat.reduceAdd, Nat.reduceLT, Nat.reduceLeDiff, Nat.reduceEqDiff, true_implies, false_implies, implies_true, Option.some.injEq, forall_eq', forall_eq, reduceCtorEq, brT, brF, br_s, i_10, i_01, ib_0_2, ib_1_2, tn_0, tn_1, Int32.le_refl, eq_self, rv_bN, rv_iM, z]
    exact hQ
  · have z2 : ¬ a ≤ 200 := by
      intro q
      rw [i_lt, show (1 : Int32).toInt = 1 by decide] at z
      rw [i_le, show (200 : Int32).toInt = 200 by decide] at q
      omega
    simp only [↓br_pos, ↓br_neg, ↓rF_I, ↓rF_L, ↓rF_R, ↓rF_N, rO_m, rB_m, ↓rI_m, wI_m, ↓rB2_m, ↓rB3_m, wB2_m, wB3_m, ↓rL_m, wL_m, ↓rQ_m, wQ_m, ↓lI_m, pI_m, pL_m, pR_m, sI_m, sBy_m, sBo_m, sL_m, sQ_m, fst_m, true_and, and_true, tg_some, ln_some, uI_1, uI_2, uL_1, uL_2, uL_3, uQ_1, uQ_2, uQ_3, rv_i, rv_l, rv_n, rv_b0, rv_b1, RMR, ne_eq, reduceCtorEq, not_false_eq_true, Option.getD_some, if_true, if_false, and_self, false_and, and_false, Nat.add_left_cancel_iff, Nat.add_eq_left, Nat.left_eq_add, Nat.one_ne_zero, Nat.reduceAdd, Nat.reduceLT, Nat.reduceLeDiff, Nat.reduceEqDiff, true_implies, false_implies, implies_true, Option.some.injEq, forall_eq', forall_eq, reduceCtorEq, brT, brF, br_s, i_10, i_01, ib_0_2, ib_1_2, tn_0, tn_1, Int32.le_refl, eq_self, rv_bN, rv_iM, z, z2]
    exact hQ
theorem c_96 {w : mT} {σ : mS} {tp n : Nat} {t : Nat → Nat} {τ ρ : Rw} {bk : Nat → Rw} {has : Nat → Bool} {im : Nat → Rw} {N : Nat} (h : cIn w σ tp t τ ρ n bk has im) (hN : 1 ≤ N ∧ N ≤ 200) : ∃ w' σ', wExt w w' ∧ frM σ σ' ∧ cIn w' σ' tp t τ (mnR τ ρ N) (nPh n) (bkPh n bk ρ) has im ∧ ∀ {D : Nat} {K : Int32 → Hp → Prop}, 7 ≤ D → (wpI D 96 [.ref 0, .int (Int32.ofNat N)] (mW w σ) K ↔ K (Int32.ofNat (mnC τ ρ N)) (mW w' σ')) := by
  have h' := h
  obtain ⟨hw, hS, hH, ⟨P, hP, p3, p4, hτ⟩, hρ, hv, hr, h1, htp, htb, ht⟩ := h
  have hT := isTP hw hP
  have hT' := hT
  simp only [isT] at hT'
  obtain ⟨w1, σ1, x1, x2, C1, k1⟩ := k_11 h'
  have hw1 := C1.1
  have hρ1 : tSt σ1 35 τ ρ := C1.2.2.2.2.1
  obtain ⟨P1, hP1, p31, p41, hτ1⟩ := C1.2.2.2.1
  have hT1 := isTP hw1 hP1
  have hT1' := hT1
  simp only [isT] at hT1'
  obtain ⟨σ2, f2, t2, e2⟩ := lp_96 hw1 hP1 hv hr hN.2 N 0 σ1 (Nat.zero_add _) p31 hτ1 hρ1
  refine ⟨w1, σ2, x1, frM_tr (frM_D x2 (by omega)) (frM_R f2 (by omega)), cIn_mu C1 f2 t2 (vRow_mn hv hr N), fun hD => cI_of (m := 6) (fun d hd Q hQ => ?_) rfl hD⟩
  have hd3 : 3 ≤ d := by omega
  have c1 : (Int32.ofNat N < (1 : Int32)) ↔ False := iff_false_intro (fun q => absurd ((on_lt (j := 1) (by omega) (by omega)).mp q) (by omega))
  have c2 : (Int32.ofNat N ≤ (200 : Int32)) ↔ True := iff_true_intro ((on_le (j := 200) (by omega) (by omega)).mpr hN.2)
  refine b96_0 ?_
  simp only [↓br_pos, ↓br_neg, ↓rF_I, ↓rF_L, ↓rF_R, ↓rF_N, rO_m, rB_m, ↓rI_m, wI_m, ↓rB2_m, ↓rB3_m, wB2_m, wB3_m, ↓rL_m, wL_m, ↓rQ_m, wQ_m, ↓lI_m, pI_m, pL_m, pR_m, sI_m, sBy_m, sBo_m, sL_m, sQ_m, fst_m, true_and, and_true, tg_some, ln_some, uI_1, uI_2, uL_1, uL_2, uL_3, uQ_1, uQ_2, uQ_3, rv_i, rv_l, rv_n, rv_b0, rv_b1, RMR, ne_eq, reduceCtorEq, not_false_eq_true, Option.getD_some, if_true, if_false, and_self, false_and, and_false, Nat.add_left_cancel_iff, Nat.add_eq_left, Nat.left_eq_add, Nat.one_ne_zero, Nat.reduceAdd, Nat.reduceLT, Nat.reduceLeDiff, Nat.reduceEqDiff, true_implies, false_implies, implies_true, Option.some.injEq, forall_eq', forall_eq, reduceCtorEq, brT, brF, br_s, i_10, i_01, ib_0_2, ib_1_2, tn_0, tn_1, Int32.le_refl, eq_self, rv_bN, rv_iM, RCX 0, RCG 2, RCT 4, RCT 15, RCT 25, RCS 35, RCS 49, RCH 63, RCP 67, RCB 72, RCR 77, RCM 81, RLY, lit_at hw, c1, c2, k1 hd3]
  exact e2 hd hQ
/-- how many minutes until all orders are done -/
def enN (τ : Rw) : Nat → Nat → Rw → Int32
  | 0, _, ρ => if 0 < ρ 10 ∨ 0 < ρ 11 then -2 else 500
  | k + 1, n, ρ => if 0 < ρ 10 ∨ 0 < ρ 11 then enN τ k (n + 1) (sMin τ ρ) else Int32.ofNat n
theorem lp_97 {w : mT} {P : Nat} {τ : Rw} (hw : lit w) (hP : P = 15 ∨ P = 25) (hv : vTold τ) : ∀ (k i : Nat) (σ : mS) (ρ : Rw), i + k = 500 → σ.2.2 0 3 = some P → tTold σ P τ → tSt σ 49 τ ρ → vRow τ ρ → ∃ σ', frR 49 63 σ σ' ∧ ∀ {Q : Option (Option Value) → Hp → Prop} {d : Nat}, 6 ≤ d → Q (some (some (.int (enN τ k i ρ)))) (mW w σ') → Wp 97 13 [.ref 0, .int (Int32.ofNat i)] [] (mW w σ) Q d := by
  have hT := isTP hw hP
  intro k
  induction k with
  | zero =>
    intro i σ ρ hi p3 hτ ts hr
    have hi' : i = 500 := by omega
    subst hi'
    refine ⟨σ, frR_rf, fun hd hQ => ?_⟩
    have l1 : ((500 : Int32) ≤ Int32.ofNat 500) ↔ True := by decide
    have e64 := fun {K : Int32 → Hp → Prop} => g_64 (K := K) (isS49 hw) ts (vRow_b hv hr) (Nat.le_trans (by omega : 1 ≤ 6) hd)
    unfold enN at hQ
    refine b97_13 ?_
    by_cases z : 0 < ρ 10 ∨ 0 < ρ 11
    · have ez : iB (0 < ρ 10 ∨ 0 < ρ 11) = 1 := iB_t z
      rw [if_pos z] at hQ
      simp only [↓br_pos, ↓br_neg, ↓rF_I, ↓rF_L, ↓rF_R, ↓rF_N, rO_m, rB_m, ↓rI_m, wI_m, ↓rB2_m, ↓rB3_m, wB2_m, wB3_m, ↓rL_m, wL_m, ↓rQ_m, wQ_m, ↓lI_m, pI_m, pL_m, pR_m, sI_m, sBy_m, sBo_m, sL_m, sQ_m, fst_m, true_and, and_true, tg_some, ln_some, uI_1, uI_2, uL_1, uL_2, uL_3, uQ_1, uQ_2, uQ_3, rv_i, rv_l, rv_n, rv_b0, rv_b1, RMR, ne_eq, reduceCtorEq, not_false_eq_true, Option.getD_some, if_true, if_false, and_self, false_and, and_false, Nat.add_left_cancel_iff, Nat.add_eq_left, Nat.left_eq_add, Nat.one_ne_zero, Nat.reduceAdd, Nat.reduceLT, Nat.reduceLeDiff, Nat.reduceEqDiff, true_implies, false_implies, implies_true, Option.some.injEq, forall_eq', forall_eq, reduceCtorEq, brT, brF, br_s, i_10, i_01, ib_0_2, ib_1_2, tn_0, tn_1, Int32.le_refl, eq_self, rv_bN, rv_iM, RCX 0, RCG 2, RCT 4, RCT 15, RCT 25, RCS 35, RCS 49, RCH 63, RCP 67, RCB 72, RCR 77, RCM 81, RLY, lit_at hw, l1, e64, ez]
      exact hQ
    · have ez : iB (0 < ρ 10 ∨ 0 < ρ 11) = 0 := iB_f z
      rw [if_neg z] at hQ
      simp only [↓br_pos, ↓br_neg, ↓rF_I, ↓rF_L, ↓rF_R, ↓rF_N, rO_m, rB_m, ↓rI_m, wI_m, ↓rB2_m, ↓rB3_m, wB2_m, wB3_m, ↓rL_m, wL_m, ↓rQ_m, wQ_m, ↓lI_m, pI_m, pL_m, pR_m, sI_m, sBy_m, sBo_m, sL_m, sQ_m, fst_m, true_and, and_true, tg_some, ln_some, uI_1, uI_2, uL_1, uL_2, uL_3, uQ_1, uQ_2, uQ_3, rv_i, rv_l, rv_n, rv_b0, rv_b1, RMR, ne_eq, reduceCtorEq, not_false_eq_true, Option.getD_some, if_true, if_false, and_self, false_and, and_false, Nat.add_left_cancel_iff, Nat.add_eq_left, Nat.left_eq_add, Nat.one_ne_zero, Nat.reduceAdd, Nat.reduceLT, Nat.reduceLeDiff, Nat.reduceEqDiff, true_implies, false_implies, implies_true, Option.some.injEq, forall_eq', forall_eq, reduceCtorEq, brT, brF, br_s, i_10, i_01, ib_0_2, ib_1_2, tn_0, tn_1, Int32.le_refl, eq_self, rv_bN, rv_iM, RCX 0, RCG 2, RCT 4, RCT 15, RCT 25, RCS 35, RCS 49, RCH 63, RCP 67, RCB 72, RCR 77, RCM 81, RLY, lit_at hw, l1, e64, ez]
      exact hQ
  | succ k ih =>
    intro i σ ρ hi p3 hτ ts hr
    have l1 : ((500 : Int32) ≤ Int32.ofNat i) ↔ False := iff_false_intro (fun q => absurd ((on_le (i := 500) (by omega) (by omega)).mp q) (by omega))
    by_cases z : 0 < ρ 10 ∨ 0 < ρ 11
    · have ez : iB (0 < ρ 10 ∨ 0 < ρ 11) = 1 := iB_t z
      obtain ⟨σ1, f1, t1, e1⟩ := g_20 (isS49 hw) hT (by omega) ts hτ hv hr
      obtain ⟨σ2, f2, e2⟩ := ih (i + 1) σ1 (sMin τ ρ) (by omega) (by rw [f1.2]; exact p3) (tTold_R hτ f1 (by omega)) t1 (vRow_min hv hr)
      refine ⟨σ2, frR_tr f1 f2, fun hd hQ => ?_⟩
      have e64 := fun {K : Int32 → Hp → Prop} => g_64 (K := K) (isS49 hw) ts (vRow_b hv hr) (Nat.le_trans (by omega : 1 ≤ 6) hd)
      unfold enN at hQ
      rw [if_pos z] at hQ
      refine b97_13 ?_
      simp only [↓br_pos, ↓br_neg, ↓rF_I, ↓rF_L, ↓rF_R, ↓rF_N, rO_m, rB_m, ↓rI_m, wI_m, ↓rB2_m, ↓rB3_m, wB2_m, wB3_m, ↓rL_m, wL_m, ↓rQ_m, wQ_m, ↓lI_m, pI_m, pL_m, pR_m, sI_m, sBy_m, sBo_m, sL_m, sQ_m, fst_m, true_and, and_true, tg_some, ln_some, uI_1, uI_2, uL_1, uL_2, uL_3, uQ_1, uQ_2, uQ_3, rv_i, rv_l, rv_n, rv_b0, rv_b1, RMR, ne_eq, reduceCtorEq, not_false_eq_true, Option.getD_some, if_true, if_false, and_self, false_and, and_false, Nat.add_left_cancel_iff, Nat.add_eq_left, Nat.left_eq_add, Nat.one_ne_zero, Nat.reduceAdd, Nat.reduceLT, Nat.reduceLeDiff, Nat.reduceEqDiff, true_implies, false_implies, implies_true, Option.some.injEq, forall_eq', forall_eq, reduceCtorEq, brT, brF, br_s, i_10, i_01, ib_0_2, ib_1_2, tn_0, tn_1, Int32.le_refl, eq_self, rv_bN, rv_iM, RCX 0, RCG 2, RCT 4, RCT 15, RCT 25, RCS 35, RCS 49, RCH 63, RCP 67, RCB 72, RCR 77, RCM 81, RLY, lit_at hw, p3, l1, e64, ez, e1 hd, on_succ]
      exact e2 hd hQ
    · have ez : iB (0 < ρ 10 ∨ 0 < ρ 11) = 0 := iB_f z
      refine ⟨σ, frR_rf, fun hd hQ => ?_⟩
      have e64 := fun {K : Int32 → Hp → Prop} => g_64 (K := K) (isS49 hw) ts (vRow_b hv hr) (Nat.le_trans (by omega : 1 ≤ 6) hd)
      unfold enN at hQ
      rw [if_neg z] at hQ
      refine b97_13 ?_
      simp only [↓br_pos, ↓br_neg, ↓rF_I, ↓rF_L, ↓rF_R, ↓rF_N, rO_m, rB_m, ↓rI_m, wI_m, ↓rB2_m, ↓rB3_m, wB2_m, wB3_m, ↓rL_m, wL_m, ↓rQ_m, wQ_m, ↓lI_m, pI_m, pL_m, pR_m, sI_m, sBy_m, sBo_m, sL_m, sQ_m, fst_m, true_and, and_true, tg_some, ln_some, uI_1, uI_2, uL_1, uL_2, uL_3, uQ_1, uQ_2, uQ_3, rv_i, rv_l, rv_n, rv_b0, rv_b1, RMR, ne_eq, reduceCtorEq, not_false_eq_true, Option.getD_some, if_true, if_false, and_self, false_and, and_false, Nat.add_left_cancel_iff, Nat.add_eq_left, Nat.left_eq_add, Nat.one_ne_zero, Nat.reduceAdd, Nat.reduceLT, Nat.reduceLeDiff, Nat.reduceEqDiff, true_implies, false_implies, implies_true, Option.some.injEq, forall_eq', forall_eq, reduceCtorEq, brT, brF, br_s, i_10, i_01, ib_0_2, ib_1_2, tn_0, tn_1, Int32.le_refl, eq_self, rv_bN, rv_iM, RCX 0, RCG 2, RCT 4, RCT 15, RCT 25, RCS 35, RCS 49, RCH 63, RCP 67, RCB 72, RCR 77, RCM 81, RLY, lit_at hw, l1, e64, ez]
      exact hQ
theorem c_97 {w : mT} {σ : mS} {tp n : Nat} {t : Nat → Nat} {τ ρ : Rw} {bk : Nat → Rw} {has : Nat → Bool} {im : Nat → Rw} (h : cIn w σ tp t τ ρ n bk has im) : ∃ σ', frM σ σ' ∧ cIn w σ' tp t τ ρ n bk has im ∧ ∀ {D : Nat} {K : Int32 → Hp → Prop}, 7 ≤ D → (wpI D 97 [.ref 0] (mW w σ) K ↔ K (enN τ 500 0 ρ) (mW w σ')) := by
  have h' := h
  obtain ⟨hw, hS, hH, ⟨P, hP, p3, p4, hτ⟩, hρ, hv, hr, h1, htp, htb, ht⟩ := h
  have hT := isTP hw hP
  have hT' := hT
  simp only [isT] at hT'
  have hb := vRow_b hv hr
  obtain ⟨σ1, f1, t1, e1⟩ := g_49 (isS49 hw) (isS35 hw) hb hρ (by omega)
  obtain ⟨σ2, f2, e2⟩ := lp_97 hw hP hv 500 0 σ1 ρ rfl (by rw [f1.2]; exact p3) (tTold_R hτ f1 (by omega)) t1 hr
  have ff := frR_tr f1 f2
  refine ⟨σ2, frM_R ff (by omega), cIn_fr h' (fun j _ => by rw [ff.1 0 (by omega)]) (fun a ha => ff.1 a (by omega)) (fun a ha => by rw [ff.2]), fun hD => cI_of (m := 6) (fun d hd Q hQ => ?_) rfl hD⟩
  have hd2 : 2 ≤ d := by omega
  refine b97_0 ?_
  simp only [↓br_pos, ↓br_neg, ↓rF_I, ↓rF_L, ↓rF_R, ↓rF_N, rO_m, rB_m, ↓rI_m, wI_m, ↓rB2_m, ↓rB3_m, wB2_m, wB3_m, ↓rL_m, wL_m, ↓rQ_m, wQ_m, ↓lI_m, pI_m, pL_m, pR_m, sI_m, sBy_m, sBo_m, sL_m, sQ_m, fst_m, true_and, and_true, tg_some, ln_some, uI_1, uI_2, uL_1, uL_2, uL_3, uQ_1, uQ_2, uQ_3, rv_i, rv_l, rv_n, rv_b0, rv_b1, RMR, ne_eq, reduceCtorEq, not_false_eq_true, Option.getD_some, if_true, if_false, and_self, false_and, and_false, Nat.add_left_cancel_iff, Nat.add_eq_left, Nat.left_eq_add, Nat.one_ne_zero, Nat.reduceAdd, Nat.reduceLT, Nat.reduceLeDiff, Nat.reduceEqDiff, true_implies, false_implies, implies_true, Option.some.injEq, forall_eq', forall_eq, reduceCtorEq, brT, brF, br_s, i_10, i_01, ib_0_2, ib_1_2, tn_0, tn_1, Int32.le_refl, eq_self, rv_bN, rv_iM, RCX 0, RCG 2, RCT 4, RCT 15, RCT 25, RCS 35, RCS 49, RCH 63, RCP 67, RCB 72, RCR 77, RCM 81, RLY, lit_at hw, e1 hd2]
  exact e2 hd hQ
/-- a lot is laid -/
def pours (ρ : Rw) (p k lo' t : Nat) : Nat → Rw
  | 0 => ρ
  | j + 1 => sPour (pours ρ p k lo' t j) p k (lo' + j) t
theorem pours_g {ρ : Rw} {p k lo' t : Nat} (hp : p < 3) (hk : k < 60) (hl : ρ (lo p k) < 12) : ∀ j, (∀ i, (i < 12 ∨ 24 ≤ i ∧ i < 311) → pours ρ p k lo' t j i = ρ i) ∧ pours ρ p k lo' t j (12 + ρ (lo p k)) = ρ (12 + ρ (lo p k)) - j * t := by
  intro j
  induction j with
  | zero => exact ⟨fun i _ => rfl, by show ρ (12 + ρ (lo p k)) = _; omega⟩
  | succ j ih =>
    have e : pours ρ p k lo' t j (lo p k) = ρ (lo p k) := ih.1 _ (by unfold lo; omega)
    refine ⟨fun i hi => ?_, ?_⟩
    · show sPour (pours ρ p k lo' t j) p k (lo' + j) t i = _
      rw [sPour_1, e, if_neg (by omega), if_neg (by unfold li; omega)]
      exact ih.1 i hi
    · show sPour (pours ρ p k lo' t j) p k (lo' + j) t (12 + ρ (lo p k)) = _
      rw [sPour_1, e, if_pos rfl, ih.2, Nat.succ_mul]; omega
theorem vRow_ps {τ ρ : Rw} {p k lo' t N : Nat} (hv : vTold τ) (h : vRow τ ρ) (hp : p < 3) (hk : k < ρ (24 + p)) (hN : lo' + N ≤ 12) (ht : N * t ≤ ρ (12 + ρ (lo p k))) : ∀ j, j ≤ N → vRow τ (pours ρ p k lo' t j) := by
  have h60 := vR_la h p hp
  have hl := vR_lo h p hp k hk
  have v0 := hv.1
  have g := pours_g (ρ := ρ) (p := p) (k := k) (lo' := lo') (t := t) hp (by omega) (by omega)
  intro j
  induction j with
  | zero => intro _; exact h
  | succ j ih =>
    intro hj
    refine vRow_pour hv (ih (by omega)) hp (by rw [(g j).1 _ (by omega)]; exact hk) (by omega) ?_
    rw [(g j).1 (lo p k) (by unfold lo; omega), (g j).2]
    have : (j + 1) * t ≤ N * t := Nat.mul_le_mul_right _ hj
    rw [Nat.succ_mul] at this
    omega
theorem lp_87 {w : mT} {p k lo' hi t N : Nat} {τ ρ : Rw} {a2 a3 a4 a6 : Int32} (hw : lit w) (hv : vTold τ) (h : vRow τ ρ) (hp : p < 3) (hk : k < ρ (24 + p)) (hN : lo' + N ≤ 12) (hNh : lo' + N = hi + 1) (ht : N * t ≤ ρ (12 + ρ (lo p k))) : ∀ (r j : Nat) (σ : mS), j + r = N → tSt σ 35 τ (pours ρ p k lo' t j) → ∃ σ', frR 35 49 σ σ' ∧ tSt σ' 35 τ (rSet (pours ρ p k lo' t N) 6 0) ∧ ∀ {Q : Option (Option Value) → Hp → Prop} {d : Nat}, 2 ≤ d → Q (some (some (.int (Int32.ofNat (ρ 4) - a6)))) (mW w σ') → Wp 87 86 [.ref 0, .int (Int32.ofNat p), .int a2, .int a3, .int a4, .int (Int32.ofNat t), .int a6, .int (Int32.ofNat k), .int (Int32.ofNat hi), .int (Int32.ofNat (lo' + j))] [] (mW w σ) Q d := by
  have h60 := vR_la h p hp
  have hl := vR_lo h p hp k hk
  have v0 := hv.1
  have g := pours_g (ρ := ρ) (p := p) (k := k) (lo' := lo') (t := t) hp (by omega) (by omega)
  intro r
  induction r with
  | zero =>
    intro j σ hj ts
    have hj' : j = N := by omega
    subst hj'
    have vr := vRow_ps (lo' := lo') hv h hp hk hN ht j (Nat.le_refl _)
    have ts2 : tSt (uI σ 45 0 0) 35 τ (rSet (pours ρ p k lo' t j) 6 0) := tSt_w (A := 10) ts (vRow_b hv vr) (by unfold in0; omega) (by decide) (tv_0 (by decide)).symm (by omega)
    refine ⟨uI σ 45 0 0, frR_I (by omega), ts2, fun hd hQ => ?_⟩
    have l1 : (Int32.ofNat hi < Int32.ofNat (lo' + j)) ↔ True := iff_true_intro ((on_lt (by omega) (by omega)).mpr (by omega))
    have e4 : σ.1 44 0 = Int32.ofNat (ρ 4) := by
      have := tS_wk ts (by omega : 0 < 2)
      rw [(g j).1 _ (by omega)] at this; exact this
    refine b87_86 ?_
    simp only [↓br_pos, ↓br_neg, ↓rF_I, ↓rF_L, ↓rF_R, ↓rF_N, rO_m, rB_m, ↓rI_m, wI_m, ↓rB2_m, ↓rB3_m, wB2_m, wB3_m, ↓rL_m, wL_m, ↓rQ_m, wQ_m, ↓lI_m, pI_m, pL_m, pR_m, sI_m, sBy_m, sBo_m, sL_m, sQ_m, fst_m, true_and, and_true, tg_some, ln_some, uI_1, uI_2, uL_1, uL_2, uL_3, uQ_1, uQ_2, uQ_3, rv_i, rv_l, rv_n, rv_b0, rv_b1, RMR, ne_eq, reduceCtorEq, not_false_eq_true, Option.getD_some, if_true, if_false, and_self, false_and, and_false, Nat.add_left_cancel_iff, Nat.add_eq_left, Nat.left_eq_add, Nat.one_ne_zero, Nat.reduceAdd, Nat.reduceLT, Nat.reduceLeDiff, Nat.reduceEqDiff, true_implies, false_implies, implies_true, Option.some.injEq, forall_eq', forall_eq, reduceCtorEq, brT, brF, br_s, i_10, i_01, ib_0_2, ib_1_2, tn_0, tn_1, Int32.le_refl, eq_self, rv_bN, rv_iM, RCX 0, RCG 2, RCT 4, RCT 15, RCT 25, RCS 35, RCS 49, RCH 63, RCP 67, RCB 72, RCR 77, RCM 81, RLY, lit_at hw, l1, e4]
    exact hQ
  | succ r ih =>
    intro j σ hj ts
    have vr := vRow_ps (lo' := lo') hv h hp hk hN ht j (by omega)
    have hle : (j + 1) * t ≤ N * t := Nat.mul_le_mul_right _ (by omega)
    rw [Nat.succ_mul] at hle
    obtain ⟨σ1, f1, t1, e1⟩ := g_61 (w := w) (c := lo' + j) (t := t) (isS35 hw) ts hv vr hp (by rw [(g j).1 _ (by omega)]; exact hk) (by omega) (by rw [(g j).1 (lo p k) (by unfold lo; omega), (g j).2]; omega)
    obtain ⟨σ2, f2, t2, e2⟩ := ih (j + 1) σ1 (by omega) t1
    refine ⟨σ2, frR_tr f1 f2, t2, fun hd hQ => ?_⟩
    have l1 : (Int32.ofNat hi < Int32.ofNat (lo' + j)) ↔ False := iff_false_intro (fun q => absurd ((on_lt (by omega) (by omega)).mp q) (by omega))
    refine b87_86 ?_
    simp only [↓br_pos, ↓br_neg, ↓rF_I, ↓rF_L, ↓rF_R, ↓rF_N, rO_m, rB_m, ↓rI_m, wI_m, ↓rB2_m, ↓rB3_m, wB2_m, wB3_m, ↓rL_m, wL_m, ↓rQ_m, wQ_m, ↓lI_m, pI_m, pL_m, pR_m, sI_m, sBy_m, sBo_m, sL_m, sQ_m, fst_m, true_and, and_true, tg_some, ln_some, uI_1, uI_2, uL_1, uL_2, uL_3, uQ_1, uQ_2, uQ_3, rv_i, rv_l, rv_n, rv_b0, rv_b1, RMR, ne_eq, reduceCtorEq, not_false_eq_true, Option.getD_some, if_true, if_false, and_self, false_and, and_false, Nat.add_left_cancel_iff, Nat.add_eq_left, Nat.left_eq_add, Nat.one_ne_zero, Nat.reduceAdd, Nat.reduceLT, Nat.reduceLeDiff, Nat.reduceEqDiff, true_implies, false_implies, implies_true, Option.some.injEq, forall_eq', forall_eq, reduceCtorEq, brT, brF, br_s, i_10, i_01, ib_0_2, ib_1_2, tn_0, tn_1, Int32.le_refl, eq_self, rv_bN, rv_iM, RCX 0, RCG 2, RCT 4, RCT 15, RCT 25, RCS 35, RCS 49, RCH 63, RCP 67, RCB 72, RCR 77, RCM 81, RLY, lit_at hw, l1, e1 hd, on_succ]
    exact e2 hd hQ
theorem wl_lt {τ ρ : Rw} {p l a b t : Nat} : wlN τ ρ p l a b t < 6 := by
  unfold wlN
  split
  · omega
  split
  · omega
  split <;> omega
theorem c_87z {w : mT} {σ : mS} {tp n : Nat} {t : Nat → Nat} {τ ρ : Rw} {bk : Nat → Rw} {has : Nat → Bool} {im : Nat → Rw} {p l a b c : Int32} {D : Nat} {K : Int32 → Hp → Prop} (h : cIn w σ tp t τ ρ n bk has im) (ha : ¬ cbP τ p l a b c) (hD : 5 ≤ D) : wpI D 87 [.ref 0, .int p, .int l, .int a, .int b, .int c] (mW w σ) K ↔ K (-1) (mW w σ) := by
  have h' := h
  obtain ⟨hw, hS, hH, ⟨P, hP, p3, p4, hτ⟩, hρ, hv, hr, h1, htp, htb, ht⟩ := h
  have hT := isTP hw hP
  have hT' := hT
  simp only [isT] at hT'
  refine cI_of (m := 4) (fun d hd Q hQ => ?_) rfl hD
  refine b87_0 ?_
  simp only [↓br_pos, ↓br_neg, ↓rF_I, ↓rF_L, ↓rF_R, ↓rF_N, rO_m, rB_m, ↓rI_m, wI_m, ↓rB2_m, ↓rB3_m, wB2_m, wB3_m, ↓rL_m, wL_m, ↓rQ_m, wQ_m, ↓lI_m, pI_m, pL_m, pR_m, sI_m, sBy_m, sBo_m, sL_m, sQ_m, fst_m, true_and, and_true, tg_some, ln_some, uI_1, uI_2, uL_1, uL_2, uL_3, uQ_1, uQ_2, uQ_3, rv_i, rv_l, rv_n, rv_b0, rv_b1, RMR, ne_eq, reduceCtorEq, not_false_eq_true, Option.getD_some, if_true, if_false, and_self, false_and, and_false, Nat.add_left_cancel_iff, Nat.add_eq_left, Nat.left_eq_add, Nat.one_ne_zero, Nat.reduceAdd, Nat.reduceLT, Nat.reduceLeDiff, Nat.reduceEqDiff, true_implies, false_implies, implies_true, Option.some.injEq, forall_eq', forall_eq, reduceCtorEq, brT, brF, br_s, i_10, i_01, ib_0_2, ib_1_2, tn_0, tn_1, Int32.le_refl, eq_self, rv_bN, rv_iM, RCX 0, RCG 2, RCT 4, RCT 15, RCT 25, RCS 35, RCS 49, RCH 63, RCP 67, RCB 72, RCR 77, RCM 81, RLY, lit_at hw, g_86z hw hP p3 hτ hv ha hd]
  exact hQ
theorem c_87n {w : mT} {σ : mS} {tp n : Nat} {t : Nat → Nat} {τ ρ : Rw} {bk : Nat → Rw} {has : Nat → Bool} {im : Nat → Rw} {p l a b c : Nat} {D : Nat} {K : Int32 → Hp → Prop} (h : cIn w σ tp t τ ρ n bk has im) (hp : p < τ 1) (hl : l < τ 0) (ha : a < τ (28 + p)) (hb : b < τ (28 + p)) (hc : 1 ≤ c ∧ c ≤ 99) (hn : wlN τ ρ p l a b c ≠ 0) (hD : 5 ≤ D) : wpI D 87 [.ref 0, .int (Int32.ofNat p), .int (Int32.ofNat l), .int (Int32.ofNat a), .int (Int32.ofNat b), .int (Int32.ofNat c)] (mW w σ) K ↔ K (-1) (mW w σ) := by
  have h' := h
  obtain ⟨hw, hS, hH, ⟨P, hP, p3, p4, hτ⟩, hρ, hv, hr, h1, htp, htb, ht⟩ := h
  have hT := isTP hw hP
  have hT' := hT
  simp only [isT] at hT'
  refine cI_of (m := 4) (fun d hd Q hQ => ?_) rfl hD
  have lt := wl_lt (τ := τ) (ρ := ρ) (p := p) (l := l) (a := a) (b := b) (t := c)
  have e0 : (Int32.ofNat (wlN τ ρ p l a b c) = 0) ↔ False := iff_false_intro (fun q => hn ((of_eq0 (by omega)).mp q))
  refine b87_0 ?_
  simp only [↓br_pos, ↓br_neg, ↓rF_I, ↓rF_L, ↓rF_R, ↓rF_N, rO_m, rB_m, ↓rI_m, wI_m, ↓rB2_m, ↓rB3_m, wB2_m, wB3_m, ↓rL_m, wL_m, ↓rQ_m, wQ_m, ↓lI_m, pI_m, pL_m, pR_m, sI_m, sBy_m, sBo_m, sL_m, sQ_m, fst_m, true_and, and_true, tg_some, ln_some, uI_1, uI_2, uL_1, uL_2, uL_3, uQ_1, uQ_2, uQ_3, rv_i, rv_l, rv_n, rv_b0, rv_b1, RMR, ne_eq, reduceCtorEq, not_false_eq_true, Option.getD_some, if_true, if_false, and_self, false_and, and_false, Nat.add_left_cancel_iff, Nat.add_eq_left, Nat.left_eq_add, Nat.one_ne_zero, Nat.reduceAdd, Nat.reduceLT, Nat.reduceLeDiff, Nat.reduceEqDiff, true_implies, false_implies, implies_true, Option.some.injEq, forall_eq', forall_eq, reduceCtorEq, brT, brF, br_s, i_10, i_01, ib_0_2, ib_1_2, tn_0, tn_1, Int32.le_refl, eq_self, rv_bN, rv_iM, RCX 0, RCG 2, RCT 4, RCT 15, RCT 25, RCS 35, RCS 49, RCH 63, RCP 67, RCB 72, RCR 77, RCM 81, RLY, lit_at hw, g_86 hw hP p3 hτ hv hρ hr hp hl ha hb hc hd, e0]
  exact hQ
def sTo (ρ : Rw) (p l a b : Nat) : Rw := sAdd (sGo (sGo ρ 0 p a) 0 p b) p l
def sLayA (ρ : Rw) (p l a b t : Nat) : Rw := rSet (pours (sTo ρ p l a b) p (ρ (24 + p)) (min a b) t (dist b a + 1)) 6 0
theorem sGo_g {ρ : Rw} {m p c j : Nat} (h1 : j ≠ 2 + m) (h2 : j ≠ 4 + m) : sGo ρ m p c j = ρ j := by unfold sGo; rw [rS_ne h1, rS_ne h2]
theorem c_87 {w : mT} {σ : mS} {tp n : Nat} {t : Nat → Nat} {τ ρ : Rw} {bk : Nat → Rw} {has : Nat → Bool} {im : Nat → Rw} {p l a b c : Nat} (h : cIn w σ tp t τ ρ n bk has im) (hp : p < τ 1) (hl : l < τ 0) (ha : a < τ (28 + p)) (hb' : b < τ (28 + p)) (hc : 1 ≤ c ∧ c ≤ 99) (hn : wlN τ ρ p l a b c = 0) : ∃ w' σ', wExt w w' ∧ frM σ σ' ∧ cIn w' σ' tp t τ (sLayA ρ p l a b c) (nPh n) (bkPh n bk ρ) has im ∧ ∀ {D : Nat} {K : Int32 → Hp → Prop}, 5 ≤ D → (wpI D 87 [.ref 0, .int (Int32.ofNat p), .int (Int32.ofNat l), .int (Int32.ofNat a), .int (Int32.ofNat b), .int (Int32.ofNat c)] (mW w σ) K ↔ K (Int32.ofNat (sTo ρ p l a b 4) - Int32.ofNat (ρ 4)) (mW w' σ')) := by
  have h' := h
  obtain ⟨hw, hS, hH, ⟨P, hP, p3, p4, hτ⟩, hρ, hv, hr, h1, htp, htb, ht⟩ := h
  have hT := isTP hw hP
  have hT' := hT
  simp only [isT] at hT'
  obtain ⟨w1, σ1, x1, x2, C1, k1⟩ := k_11 h'
  have hw1 := C1.1
  have hρ1 : tSt σ1 35 τ ρ := C1.2.2.2.2.1
  obtain ⟨P1, hP1, p31, p41, hτ1⟩ := C1.2.2.2.1
  have hT1 := isTP hw1 hP1
  have hT1' := hT1
  simp only [isT] at hT1'
  have hb := vRow_b hv hr
  have v0 := hv.1
  have v1 := hv.2.1
  have v3 := (hv.2.2.2.2.2.1 p hp).2
  have hs1 := onP_lt hv (vR_on hr (by omega : 0 < 2))
  have hle : c * (dist b a + 1) ≤ ρ (12 + l) := by
    unfold wlN at hn
    by_cases z : ρ (12 + l) < c * (dist b a + 1)
    · rw [if_pos z] at hn; omega
    · omega
  have h60 : ρ (24 + p) < 60 := by
    unfold wlN at hn
    rw [if_neg (by omega)] at hn
    by_cases z : ¬ apP τ ρ 0 p a b
    · rw [if_pos z] at hn; omega
    · rw [if_neg z] at hn
      by_cases y : 60 ≤ ρ (24 + p)
      · rw [if_pos y] at hn; omega
      · omega
  have r1 := vRow_go (m := 0) hv hr (by omega) hp ha
  have r2 := vRow_go (m := 0) hv r1 (by omega) hp hb'
  have gg : ∀ j, j ≠ 2 → j ≠ 4 → sGo (sGo ρ 0 p a) 0 p b j = ρ j := fun j j2 j4 => by rw [sGo_g (by omega) (by omega), sGo_g (by omega) (by omega)]
  have r3 : vRow τ (sTo ρ p l a b) := vRow_add hv r2 (by omega) hl (by rw [gg _ (by omega) (by omega)]; exact h60)
  have a24 : sTo ρ p l a b (24 + p) = ρ (24 + p) + 1 := by
    unfold sTo
    rw [sAdd_1, if_pos rfl, gg _ (by omega) (by omega)]
  have alo : sTo ρ p l a b (lo p (ρ (24 + p))) = l := by
    unfold sTo
    rw [sAdd_1, if_neg (by unfold lo; omega), gg (24 + p) (by omega) (by omega), if_pos rfl]
  have al : sTo ρ p l a b (12 + l) = ρ (12 + l) := by
    unfold sTo
    rw [sAdd_1, if_neg (by omega), if_neg (by unfold lo; omega), gg _ (by omega) (by omega)]
  obtain ⟨σ2, f2, t2, e2⟩ := g_54 (m := 0) (p := p) (c := a) (isS35 hw1) hρ1 hb (by omega) hs1 (by omega) (by omega)
  obtain ⟨σ3, f3, t3, e3⟩ := g_54 (w := w1) (m := 0) (p := p) (c := b) (isS35 hw1) t2 (vRow_b hv r1) (by omega) (onP_lt hv (vR_on r1 (by omega : 0 < 2))) (by omega) (by omega)
  obtain ⟨σ4, f4, t4, e4⟩ := g_60 (w := w1) (l := l) (isS35 hw1) t3 hv r2 (by omega : p < 3) (by rw [gg _ (by omega) (by omega)]; exact h60)
  rw [gg (24 + p) (by omega) (by omega)] at e4
  have dd : min a b + (dist b a + 1) = max a b + 1 := by unfold dist; omega
  have hmc : (dist b a + 1) * c ≤ sTo ρ p l a b (12 + sTo ρ p l a b (lo p (ρ (24 + p)))) := by rw [alo, al, Nat.mul_comm]; exact hle
  obtain ⟨σ5, f5, t5, e5⟩ := lp_87 (w := w1) (k := ρ (24 + p)) (lo' := min a b) (hi := max a b) (t := c) (N := dist b a + 1) (a2 := Int32.ofNat l) (a3 := Int32.ofNat a) (a4 := Int32.ofNat b) (a6 := Int32.ofNat (ρ 4)) hw1 hv r3 (by omega) (by rw [a24]; omega) (by unfold dist; omega) dd hmc (dist b a + 1) 0 σ4 (Nat.zero_add _) t4
  have ff := frR_tr f2 (frR_tr f3 (frR_tr f4 f5))
  refine ⟨w1, σ5, x1, frM_tr (frM_D x2 (by omega)) (frM_R ff (by omega)), cIn_mu C1 ff t5 (vRow_s hv (vRow_ps hv r3 (by omega) (by rw [a24]; omega) (by unfold dist; omega) hmc _ (Nat.le_refl _)) (by omega)), fun hD => cI_of (m := 4) (fun d hd Q hQ => ?_) rfl hD⟩
  have hd1 : 1 ≤ d := by omega
  have hd2 : 2 ≤ d := by omega
  have hd3 : 3 ≤ d := by omega
  have hd4 : 4 ≤ d := by omega
  have e0 : (Int32.ofNat (wlN τ ρ p l a b c) = 0) ↔ True := iff_true_intro (by rw [hn]; rfl)
  have w4 : σ1.1 44 0 = Int32.ofNat (ρ 4) := tS_wk hρ1 (by omega : 0 < 2)
  have e2' : ∀ {K : Hp → Prop}, wpV d 54 [.ref 35, .int (0 : Int32), .int (Int32.ofNat p), .int (Int32.ofNat a)] (mW w1 σ1) K ↔ K (mW w1 σ2) := fun {K} => e2 hd2
  have e3' : ∀ {K : Hp → Prop}, wpV d 54 [.ref 35, .int (0 : Int32), .int (Int32.ofNat p), .int (Int32.ofNat b)] (mW w1 σ2) K ↔ K (mW w1 σ3) := fun {K} => e3 hd2
  have mx := max_2 (a := a) (b := b) (by omega) (by omega)
  have mn := min_of (a := b) (b := a) (by omega) (by omega)
  refine b87_0 ?_
  simp only [↓br_pos, ↓br_neg, ↓rF_I, ↓rF_L, ↓rF_R, ↓rF_N, rO_m, rB_m, ↓rI_m, wI_m, ↓rB2_m, ↓rB3_m, wB2_m, wB3_m, ↓rL_m, wL_m, ↓rQ_m, wQ_m, ↓lI_m, pI_m, pL_m, pR_m, sI_m, sBy_m, sBo_m, sL_m, sQ_m, fst_m, true_and, and_true, tg_some, ln_some, uI_1, uI_2, uL_1, uL_2, uL_3, uQ_1, uQ_2, uQ_3, rv_i, rv_l, rv_n, rv_b0, rv_b1, RMR, ne_eq, reduceCtorEq, not_false_eq_true, Option.getD_some, if_true, if_false, and_self, false_and, and_false, Nat.add_left_cancel_iff, Nat.add_eq_left, Nat.left_eq_add, Nat.one_ne_zero, Nat.reduceAdd, Nat.reduceLT, Nat.reduceLeDiff, Nat.reduceEqDiff, true_implies, false_implies, implies_true, Option.some.injEq, forall_eq', forall_eq, reduceCtorEq, brT, brF, br_s, i_10, i_01, ib_0_2, ib_1_2, tn_0, tn_1, Int32.le_refl, eq_self, rv_bN, rv_iM, RCX 0, RCG 2, RCT 4, RCT 15, RCT 25, RCS 35, RCS 49, RCH 63, RCP 67, RCB 72, RCR 77, RCM 81, RLY, lit_at hw, g_86 hw hP p3 hτ hv hρ hr hp hl ha hb' hc hd4, e0, k1 hd3, lit_at hw1, w4, e2', e3', e4 hd2, mx]
  refine b87_78 ?_
  rw [mn]
  exact e5 hd2 hQ
