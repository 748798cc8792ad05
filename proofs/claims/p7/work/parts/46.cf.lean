/-! the class's calls: what is done -/
theorem cIn_mu {w : mT} {σ σ' : mS} {tp : Nat} {t : Nat → Nat} {τ ρ ρ' : Rw} {n : Nat} {bk : Nat → Rw} {has : Nat → Bool} {im : Nat → Rw} (h : cIn w σ tp t τ ρ n bk has im) (hf : frR 35 49 σ σ') (ht : tSt σ' 35 τ ρ') (hr : vRow τ ρ') : cIn w σ' tp t τ ρ' n bk has im := by
  obtain ⟨a1, a2, ⟨o, a3⟩, ⟨P, b1, b2, b3, b4⟩, a5, a6, a7, a8, a9, a10, a11⟩ := h
  have rs : ∀ a, sl σ' a = sl σ a := fun a => sl_c (by rw [hf.2]) (by rw [hf.2])
  obtain ⟨c1, c2, c3, c4, c5, c6⟩ := a3
  refine ⟨a1, hiS_c a2 (fun a _ => rs a), ⟨o, ?_, c2, ?_, c4, fun i hi => ?_, fun k hk => ?_⟩, ⟨P, b1, by rw [hf.2]; exact b2, by rw [hf.2]; exact b3, tTold_fr b4 (fun a x1 x2 => hf.1 a (by omega))⟩, ht, a6, hr, by rw [hf.1 0 (by omega)]; exact a8, a9, fun i hi => by rw [hf.1 1 (by omega)]; exact a10 i hi, a11⟩
  · rw [hf.1 63 (by omega)]; exact c1
  · rw [hf.1 63 (by omega)]; exact c3
  · obtain ⟨x0, q, x1, x2⟩ := c5 i hi
    obtain ⟨y1, y2, y3⟩ := a2.1 _ q (by omega) x1
    exact ⟨x0, q, by rw [rs]; exact x1, tSt_fr x2 (fun b hb1 hb2 => hf.1 b (by omega))⟩
  · obtain ⟨x1, x2⟩ := c6 k hk
    refine ⟨by rw [hf.1 66 (by omega)]; exact x1, fun hh => ?_⟩
    obtain ⟨z0, q, z1, z2⟩ := x2 hh
    obtain ⟨y1, y2, y3⟩ := a2.1 _ q (by omega) z1
    exact ⟨z0, q, by rw [rs]; exact z1, tSt_fr z2 (fun b hb1 hb2 => hf.1 b (by omega))⟩
theorem frM_D {lo hi : Nat} {σ σ' : mS} (h : frD lo hi σ σ') (h1 : hi ≤ 81) : frM σ σ' := fun a x1 x2 => h a x2 (by omega)
theorem frM_R {lo hi : Nat} {σ σ' : mS} (h : frR lo hi σ σ') (h1 : hi ≤ 81) : frM σ σ' := frM_2 (fun a x1 x2 => h.1 a (by omega)) h.2
/-- what was is kept -/
theorem k_11 {w : mT} {σ : mS} {tp n : Nat} {t : Nat → Nat} {τ ρ : Rw} {bk : Nat → Rw} {has : Nat → Bool} {im : Nat → Rw} (h : cIn w σ tp t τ ρ n bk has im) : ∃ w' σ', wExt w w' ∧ frD 63 66 σ σ' ∧ cIn w' σ' tp t τ ρ (nPh n) (bkPh n bk ρ) has im ∧ ∀ {D : Nat} {K : Hp → Prop}, 3 ≤ D → (wpV D 11 [.ref 63, .ref 35] (mW w σ) K ↔ K (mW w' σ')) := by
  obtain ⟨a1, a2, ⟨o, a3⟩, ⟨P, b1, b2, b3, b4⟩, a5, a6, a7, a8, a9, a10, a11⟩ := h
  obtain ⟨w', σ', x1, x2, x3, x4, x5⟩ := g_11 a1 a2 a3 a5 a6 a7
  have r : ∀ a, a < 63 → σ'.1 a = σ.1 a := fun a ha => (x2 a (by omega) (by omega)).1
  refine ⟨w', σ', x1, x2, ⟨lit_E x1 a2.2.2.1 a1, x3, ⟨_, x4⟩, ⟨P, b1, by rw [(x2 0 (by omega) (by omega)).2.2]; exact b2, by rw [(x2 0 (by omega) (by omega)).2.2]; exact b3, tTold_fr b4 (fun a y1 y2 => r a (by omega))⟩, tSt_fr a5 (fun a y1 y2 => r a (by omega)), a6, a7, by rw [r 0 (by omega)]; exact a8, a9, fun i hi => by rw [r 1 (by omega)]; exact a10 i hi, a11⟩, x5⟩
theorem sub_le {x g h : Nat} (hx : x < 1000000) (hg : g < 1000000) (hh : h < 1000000) : (Int32.ofNat x - Int32.ofNat g ≤ Int32.ofNat h) ↔ x ≤ h + g := by
  by_cases z : g ≤ x
  · rw [of_sub z, on_le (by omega) (by omega)]; omega
  · have e : Int32.ofNat x - Int32.ofNat g = - Int32.ofNat (g - x) := by rw [← of_sub (by omega : x ≤ g), Int32.neg_sub]
    rw [e, i_le, Int32.toInt_neg, on_int (by omega), on_int (by omega), Int.bmod_eq_of_le (by omega) (by omega)]
    omega
theorem max_2 {a b : Nat} (ha : a < 2147483648) (hb : b < 2147483648) : (if Int32.ofNat a < Int32.ofNat b then Int32.ofNat b else Int32.ofNat a) = Int32.ofNat (max a b) := by
  by_cases h : a < b
  · rw [if_pos ((on_lt ha hb).mpr h)]; congr 1; omega
  · rw [if_neg (fun q => h ((on_lt ha hb).mp q))]; congr 1; omega
/-- do both stay apart -/
def apLo (ρ : Rw) (m p a b : Nat) : Nat := if onAtD ρ m p = true then min (min a b) (cellAt ρ m) else min a b
def apHi (ρ : Rw) (m p a b : Nat) : Nat := if onAtD ρ m p = true then max (max a b) (cellAt ρ m) else max a b
abbrev apP (τ ρ : Rw) (m p a b : Nat) : Prop := ¬ (onAtD ρ (1 - m) p = true ∧ ¬ (cellAt ρ (1 - m) + τ 3 < apLo ρ m p a b ∨ apHi ρ m p a b + τ 3 < cellAt ρ (1 - m)))
theorem lp_122 {w : mT} {σ : mS} {P d x lo hi : Nat} {τ : Rw} {a1 a2 a3 a4 a5 : Int32} {Q : Option (Option Value) → Hp → Prop} (hw : lit w) (hP : P = 15 ∨ P = 25) (hp : σ.2.2 0 3 = some P) (hτ : tTold σ P τ) (hv : vTold τ) (hx : x < 1000) (hlo : lo < 1000) (hhi : hi < 1000) (hQ : Q (some (some (.int (iB (x + τ 3 < lo ∨ hi + τ 3 < x))))) (mW w σ)) : Wp 122 89 [.ref 0, .int a1, .int a2, .int a3, .int a4, .int a5, .int (Int32.ofNat lo), .int (Int32.ofNat hi), .int (Int32.ofNat x)] [] (mW w σ) Q d := by
  have hT' := isTP hw hP
  simp only [isT] at hT'
  have v3 := hv.2.2.2.1
  have eg := hτ.1
  have c1 := on_lt (i := x + τ 3) (j := lo) (by omega) (by omega)
  have c2 := sub_le (x := x) (g := τ 3) (h := hi) (by omega) (by omega) (by omega)
  refine b122_89 ?_
  by_cases z : x + τ 3 < lo
  · rw [iB_t (Or.inl z)] at hQ
    have c1' := iff_true_intro (c1.mpr z)
    simp only [↓br_pos, ↓br_neg, ↓rF_I, ↓rF_L, ↓rF_R, ↓rF_N, rO_m, rB_m, ↓rI_m, wI_m, ↓rB2_m, ↓rB3_m, wB2_m, wB3_m, ↓rL_m, wL_m, ↓rQ_m, wQ_m, ↓lI_m, pI_m, pL_m, pR_m, sI_m, sBy_m, sBo_m, sL_m, sQ_m, fst_m, true_and, and_true, tg_some, ln_some, uI_1, uI_2, uL_1, uL_2, uL_3, uQ_1, uQ_2, uQ_3, rv_i, rv_l, rv_n, rv_b0, rv_b1, RMR, ne_eq, reduceCtorEq, not_false_eq_true, Option.getD_some, if_true, if_false, and_self, false_and, and_false, Nat.add_left_cancel_iff, Nat.add_eq_left, Nat.left_eq_add, Nat.one_ne_zero, Nat.reduceAdd, Nat.reduceLT, Nat.reduceLeDiff, Nat.reduceEqDiff, true_implies, false_implies, implies_true, Option.some.injEq, forall_eq', forall_eq, reduceCtorEq, brT, brF, br_s, i_10, i_01, ib_0_2, ib_1_2, tn_0, tn_1, Int32.le_refl, eq_self, rv_bN, rv_iM, RCX 0, RCG 2, RCT 4, RCT 15, RCT 25, RCS 35, RCS 49, RCH 63, RCP 67, RCB 72, RCR 77, RCM 81, RLY, lit_at hw, RCT P, hT', hp, eg, of_add, c1']
    exact hQ
  · have c1' := iff_false_intro (fun q => z (c1.mp q))
    by_cases y : hi + τ 3 < x
    · rw [iB_t (Or.inr y)] at hQ
      have c2' := iff_false_intro (fun q => absurd (c2.mp q) (by omega))
      simp only [↓br_pos, ↓br_neg, ↓rF_I, ↓rF_L, ↓rF_R, ↓rF_N, rO_m, rB_m, ↓rI_m, wI_m, ↓rB2_m, ↓rB3_m, wB2_m, wB3_m, ↓rL_m, wL_m, ↓rQ_m, wQ_m, ↓lI_m, pI_m, pL_m, pR_m, sI_m, sBy_m, sBo_m, sL_m, sQ_m, fst_m, true_and, and_true, tg_some, ln_some, uI_1, uI_2, uL_1, uL_2, uL_3, uQ_1, uQ_2, uQ_3, rv_i, rv_l, rv_n, rv_b0, rv_b1, RMR, ne_eq, reduceCtorEq, not_false_eq_true, Option.getD_some, if_true, if_false, and_self, false_and, and_false, Nat.add_left_cancel_iff, Nat.add_eq_left, Nat.left_eq_add, Nat.one_ne_zero, Nat.reduceAdd, Nat.reduceLT, Nat.reduceLeDiff, Nat.reduceEqDiff, true_implies, false_implies, implies_true, Option.some.injEq, forall_eq', forall_eq, reduceCtorEq, brT, brF, br_s, i_10, i_01, ib_0_2, ib_1_2, tn_0, tn_1, Int32.le_refl, eq_self, rv_bN, rv_iM, RCX 0, RCG 2, RCT 4, RCT 15, RCT 25, RCS 35, RCS 49, RCH 63, RCP 67, RCB 72, RCR 77, RCM 81, RLY, lit_at hw, RCT P, hT', hp, eg, of_add, c1', c2']
      exact hQ
    · rw [iB_f (fun q => q.elim z y)] at hQ
      have c2' := iff_true_intro (c2.mpr (by omega))
      simp only [↓br_pos, ↓br_neg, ↓rF_I, ↓rF_L, ↓rF_R, ↓rF_N, rO_m, rB_m, ↓rI_m, wI_m, ↓rB2_m, ↓rB3_m, wB2_m, wB3_m, ↓rL_m, wL_m, ↓rQ_m, wQ_m, ↓lI_m, pI_m, pL_m, pR_m, sI_m, sBy_m, sBo_m, sL_m, sQ_m, fst_m, true_and, and_true, tg_some, ln_some, uI_1, uI_2, uL_1, uL_2, uL_3, uQ_1, uQ_2, uQ_3, rv_i, rv_l, rv_n, rv_b0, rv_b1, RMR, ne_eq, reduceCtorEq, not_false_eq_true, Option.getD_some, if_true, if_false, and_self, false_and, and_false, Nat.add_left_cancel_iff, Nat.add_eq_left, Nat.left_eq_add, Nat.one_ne_zero, Nat.reduceAdd, Nat.reduceLT, Nat.reduceLeDiff, Nat.reduceEqDiff, true_implies, false_implies, implies_true, Option.some.injEq, forall_eq', forall_eq, reduceCtorEq, brT, brF, br_s, i_10, i_01, ib_0_2, ib_1_2, tn_0, tn_1, Int32.le_refl, eq_self, rv_bN, rv_iM, RCX 0, RCG 2, RCT 4, RCT 15, RCT 25, RCS 35, RCS 49, RCH 63, RCP 67, RCB 72, RCR 77, RCM 81, RLY, lit_at hw, RCT P, hT', hp, eg, of_add, c1', c2']
      exact hQ
theorem g_122 {w : mT} {σ : mS} {P m p a b D : Nat} {τ ρ : Rw} {K : Int32 → Hp → Prop} (hw : lit w) (hP : P = 15 ∨ P = 25) (hp : σ.2.2 0 3 = some P) (hτ : tTold σ P τ) (hv : vTold τ) (hρ : tSt σ 35 τ ρ) (h : vRow τ ρ) (hm : m < 2) (hpp : p < 1000) (ha : a < 1000) (hb : b < 1000) (hD : 2 ≤ D) : wpI D 122 [.ref 0, .int (Int32.ofNat m), .int (Int32.ofNat p), .int (Int32.ofNat a), .int (Int32.ofNat b)] (mW w σ) K ↔ K (iB (apP τ ρ m p a b)) (mW w σ) := by
  refine cI_of (m := 1) (fun d hd Q hQ => ?_) rfl hD
  have hd1 : 1 ≤ d := by omega
  have hm2 : 1 - m < 2 := by omega
  have hs1 := onP_lt hv (vR_on h hm)
  have hs2 := onP_lt hv (vR_on h hm2)
  have hR35 := isS35 hw
  have e52 := fun {K : Int32 → Hp → Prop} => g_52 (K := K) hR35 hρ hm hs1 hd1
  have e53 := fun {K : Int32 → Hp → Prop} => g_53 (K := K) hR35 hρ hm hs1 hd1
  have o52 := fun {K : Int32 → Hp → Prop} => g_52 (K := K) hR35 hρ hm2 hs2 hd1
  have o53 := fun {K : Int32 → Hp → Prop} => g_53 (K := K) hR35 hρ hm2 hs2 hd1
  have mn := min_of (a := b) (b := a) (by omega) (by omega)
  have mx := max_2 (a := a) (b := b) (by omega) (by omega)
  refine b122_0 ?_
  by_cases z : onAtD ρ (1 - m) p = true
  · have x1 := (sP_on hs2 hpp).mpr z
    have x2 := sCe_on z
    simp only [↓br_pos, ↓br_neg, ↓rF_I, ↓rF_L, ↓rF_R, ↓rF_N, rO_m, rB_m, ↓rI_m, wI_m, ↓rB2_m, ↓rB3_m, wB2_m, wB3_m, ↓rL_m, wL_m, ↓rQ_m, wQ_m, ↓lI_m, pI_m, pL_m, pR_m, sI_m, sBy_m, sBo_m, sL_m, sQ_m, fst_m, true_and, and_true, tg_some, ln_some, uI_1, uI_2, uL_1, uL_2, uL_3, uQ_1, uQ_2, uQ_3, rv_i, rv_l, rv_n, rv_b0, rv_b1, RMR, ne_eq, reduceCtorEq, not_false_eq_true, Option.getD_some, if_true, if_false, and_self, false_and, and_false, Nat.add_left_cancel_iff, Nat.add_eq_left, Nat.left_eq_add, Nat.one_ne_zero, Nat.reduceAdd, Nat.reduceLT, Nat.reduceLeDiff, Nat.reduceEqDiff, true_implies, false_implies, implies_true, Option.some.injEq, forall_eq', forall_eq, reduceCtorEq, brT, brF, br_s, i_10, i_01, ib_0_2, ib_1_2, tn_0, tn_1, Int32.le_refl, eq_self, rv_bN, rv_iM, RCX 0, RCG 2, RCT 4, RCT 15, RCT 25, RCS 35, RCS 49, RCH 63, RCP 67, RCB 72, RCR 77, RCM 81, RLY, lit_at hw, om_1 hm, o52, x1, mn, mx]
    refine b122_36 ?_
    have cc1 := cAt_lt (ρ := ρ) (m := m)
    have cc2 := cAt_lt (ρ := ρ) (m := 1 - m)
    by_cases y : onAtD ρ m p = true
    · have y1 := (sP_on hs1 hpp).mpr y
      have y2 := sCe_on y
      have mn2 := min_of (a := cellAt ρ m) (b := min a b) (by omega) (by omega)
      have mx2 := max_2 (a := max a b) (b := cellAt ρ m) (by omega) (by omega)
      have el : apLo ρ m p a b = min (min a b) (cellAt ρ m) := if_pos y
      have eh : apHi ρ m p a b = max (max a b) (cellAt ρ m) := if_pos y
      simp only [↓br_pos, ↓br_neg, ↓rF_I, ↓rF_L, ↓rF_R, ↓rF_N, rO_m, rB_m, ↓rI_m, wI_m, ↓rB2_m, ↓rB3_m, wB2_m, wB3_m, ↓rL_m, wL_m, ↓rQ_m, wQ_m, ↓lI_m, pI_m, pL_m, pR_m, sI_m, sBy_m, sBo_m, sL_m, sQ_m, fst_m, true_and, and_true, tg_some, ln_some, uI_1, uI_2, uL_1, uL_2, uL_3, uQ_1, uQ_2, uQ_3, rv_i, rv_l, rv_n, rv_b0, rv_b1, RMR, ne_eq, reduceCtorEq, not_false_eq_true, Option.getD_some, if_true, if_false, and_self, false_and, and_false, Nat.add_left_cancel_iff, Nat.add_eq_left, Nat.left_eq_add, Nat.one_ne_zero, Nat.reduceAdd, Nat.reduceLT, Nat.reduceLeDiff, Nat.reduceEqDiff, true_implies, false_implies, implies_true, Option.some.injEq, forall_eq', forall_eq, reduceCtorEq, brT, brF, br_s, i_10, i_01, ib_0_2, ib_1_2, tn_0, tn_1, Int32.le_refl, eq_self, rv_bN, rv_iM, RCX 0, RCG 2, RCT 4, RCT 15, RCT 25, RCS 35, RCS 49, RCH 63, RCP 67, RCB 72, RCR 77, RCM 81, RLY, lit_at hw, e52, y1, e53, y2, o53, x2, mn2, mx2]
      refine lp_122 hw hP hp hτ hv (by omega) (by omega) (by omega) ?_
      by_cases v : cellAt ρ (1 - m) + τ 3 < min (min a b) (cellAt ρ m) ∨ max (max a b) (cellAt ρ m) + τ 3 < cellAt ρ (1 - m)
      · rw [iB_t v]
        rw [iB_t (p := apP τ ρ m p a b) (fun q => q.2 (by rw [el, eh]; exact v))] at hQ
        exact hQ
      · rw [iB_f v]
        rw [iB_f (p := apP τ ρ m p a b) (fun q => q ⟨z, by rw [el, eh]; exact v⟩)] at hQ
        exact hQ
    · have y1 : (sP ρ m = Int32.ofNat p) ↔ False := iff_false_intro (fun q => y ((sP_on hs1 hpp).mp q))
      have el : apLo ρ m p a b = min a b := if_neg y
      have eh : apHi ρ m p a b = max a b := if_neg y
      simp only [↓br_pos, ↓br_neg, ↓rF_I, ↓rF_L, ↓rF_R, ↓rF_N, rO_m, rB_m, ↓rI_m, wI_m, ↓rB2_m, ↓rB3_m, wB2_m, wB3_m, ↓rL_m, wL_m, ↓rQ_m, wQ_m, ↓lI_m, pI_m, pL_m, pR_m, sI_m, sBy_m, sBo_m, sL_m, sQ_m, fst_m, true_and, and_true, tg_some, ln_some, uI_1, uI_2, uL_1, uL_2, uL_3, uQ_1, uQ_2, uQ_3, rv_i, rv_l, rv_n, rv_b0, rv_b1, RMR, ne_eq, reduceCtorEq, not_false_eq_true, Option.getD_some, if_true, if_false, and_self, false_and, and_false, Nat.add_left_cancel_iff, Nat.add_eq_left, Nat.left_eq_add, Nat.one_ne_zero, Nat.reduceAdd, Nat.reduceLT, Nat.reduceLeDiff, Nat.reduceEqDiff, true_implies, false_implies, implies_true, Option.some.injEq, forall_eq', forall_eq, reduceCtorEq, brT, brF, br_s, i_10, i_01, ib_0_2, ib_1_2, tn_0, tn_1, Int32.le_refl, eq_self, rv_bN, rv_iM, RCX 0, RCG 2, RCT 4, RCT 15, RCT 25, RCS 35, RCS 49, RCH 63, RCP 67, RCB 72, RCR 77, RCM 81, RLY, lit_at hw, e52, y1, o53, x2]
      refine lp_122 hw hP hp hτ hv (by omega) (by omega) (by omega) ?_
      by_cases v : cellAt ρ (1 - m) + τ 3 < min a b ∨ max a b + τ 3 < cellAt ρ (1 - m)
      · rw [iB_t v]
        rw [iB_t (p := apP τ ρ m p a b) (fun q => q.2 (by rw [el, eh]; exact v))] at hQ
        exact hQ
      · rw [iB_f v]
        rw [iB_f (p := apP τ ρ m p a b) (fun q => q ⟨z, by rw [el, eh]; exact v⟩)] at hQ
        exact hQ
  · have x1 : (sP ρ (1 - m) = Int32.ofNat p) ↔ False := iff_false_intro (fun q => z ((sP_on hs2 hpp).mp q))
    rw [iB_t (p := apP τ ρ m p a b) (fun q => z q.1)] at hQ
    simp only [↓br_pos, ↓br_neg, ↓rF_I, ↓rF_L, ↓rF_R, ↓rF_N, rO_m, rB_m, ↓rI_m, wI_m, ↓rB2_m, ↓rB3_m, wB2_m, wB3_m, ↓rL_m, wL_m, ↓rQ_m, wQ_m, ↓lI_m, pI_m, pL_m, pR_m, sI_m, sBy_m, sBo_m, sL_m, sQ_m, fst_m, true_and, and_true, tg_some, ln_some, uI_1, uI_2, uL_1, uL_2, uL_3, uQ_1, uQ_2, uQ_3, rv_i, rv_l, rv_n, rv_b0, rv_b1, RMR, ne_eq, reduceCtorEq, not_false_eq_true, Option.getD_some, if_true, if_false, and_self, false_and, and_false, Nat.add_left_cancel_iff, Nat.add_eq_left, Nat.left_eq_add, Nat.one_ne_zero, Nat.reduceAdd, Nat.reduceLT, Nat.reduceLeDiff, Nat.reduceEqDiff, true_implies, false_implies, implies_true, Option.some.injEq, forall_eq', forall_eq, reduceCtorEq, brT, brF, br_s, i_10, i_01, ib_0_2, ib_1_2, tn_0, tn_1, Int32.le_refl, eq_self, rv_bN, rv_iM, RCX 0, RCG 2, RCT 4, RCT 15, RCT 25, RCS 35, RCS 49, RCH 63, RCP 67, RCB 72, RCR 77, RCM 81, RLY, lit_at hw, om_1 hm, o52, x1]
    exact hQ
/-- why a lot can't be laid so -/
def wlN (τ ρ : Rw) (p l a b t : Nat) : Nat := if ρ (12 + l) < t * (dist b a + 1) then 2 else if ¬ apP τ ρ 0 p a b then 4 else if 60 ≤ ρ (24 + p) then 5 else 0
theorem g_86z {w : mT} {σ : mS} {P D : Nat} {τ : Rw} {p l a b t : Int32} {K : Int32 → Hp → Prop} (hw : lit w) (hP : P = 15 ∨ P = 25) (hp : σ.2.2 0 3 = some P) (hτ : tTold σ P τ) (hv : vTold τ) (hc : ¬ cbP τ p l a b t) (hD : 4 ≤ D) : wpI D 86 [.ref 0, .int p, .int l, .int a, .int b, .int t] (mW w σ) K ↔ K 1 (mW w σ) := by
  refine cI_of (m := 3) (fun d hd Q hQ => ?_) rfl hD
  have ez : iB (cbP τ p l a b t) = 0 := iB_f hc
  refine b86_0 ?_
  simp only [↓br_pos, ↓br_neg, ↓rF_I, ↓rF_L, ↓rF_R, ↓rF_N, rO_m, rB_m, ↓rI_m, wI_m, ↓rB2_m, ↓rB3_m, wB2_m, wB3_m, ↓rL_m, wL_m, ↓rQ_m, wQ_m, ↓lI_m, pI_m, pL_m, pR_m, sI_m, sBy_m, sBo_m, sL_m, sQ_m, fst_m, true_and, and_true, tg_some, ln_some, uI_1, uI_2, uL_1, uL_2, uL_3, uQ_1, uQ_2, uQ_3, rv_i, rv_l, rv_n, rv_b0, rv_b1, RMR, ne_eq, reduceCtorEq, not_false_eq_true, Option.getD_some, if_true, if_false, and_self, false_and, and_false, Nat.add_left_cancel_iff, Nat.add_eq_left, Nat.left_eq_add, Nat.one_ne_zero, Nat.reduceAdd, Nat.reduceLT, Nat.reduceLeDiff, Nat.reduceEqDiff, true_implies, false_implies, implies_true, Option.some.injEq, forall_eq', forall_eq, reduceCtorEq, brT, brF, br_s, i_10, i_01, ib_0_2, ib_1_2, tn_0, tn_1, Int32.le_refl, eq_self, rv_bN, rv_iM, RCX 0, RCG 2, RCT 4, RCT 15, RCT 25, RCS 35, RCS 49, RCH 63, RCP 67, RCB 72, RCR 77, RCM 81, RLY, lit_at hw, g_121 hw hP hp hτ hv hd, ez]
  exact hQ
theorem cbP_of {τ : Rw} {p l a b t : Nat} (hv : vTold τ) (hp : p < τ 1) (hl : l < τ 0) (ha : a < τ (28 + p)) (hb : b < τ (28 + p)) (ht : 1 ≤ t ∧ t ≤ 99) : cbP τ (Int32.ofNat p) (Int32.ofNat l) (Int32.ofNat a) (Int32.ofNat b) (Int32.ofNat t) := by
  have v0 := hv.1
  refine ⟨bN_on hl (by omega), bC_t hp hv ha, bC_t hp hv hb, ?_, ?_⟩
  · rw [on_int (by omega)]; omega
  · rw [on_int (by omega)]; omega
theorem g_86 {w : mT} {σ : mS} {P p l a b t D : Nat} {τ ρ : Rw} {K : Int32 → Hp → Prop} (hw : lit w) (hP : P = 15 ∨ P = 25) (hp : σ.2.2 0 3 = some P) (hτ : tTold σ P τ) (hv : vTold τ) (hρ : tSt σ 35 τ ρ) (h : vRow τ ρ) (hpp : p < τ 1) (hl : l < τ 0) (ha : a < τ (28 + p)) (hb : b < τ (28 + p)) (ht : 1 ≤ t ∧ t ≤ 99) (hD : 4 ≤ D) : wpI D 86 [.ref 0, .int (Int32.ofNat p), .int (Int32.ofNat l), .int (Int32.ofNat a), .int (Int32.ofNat b), .int (Int32.ofNat t)] (mW w σ) K ↔ K (Int32.ofNat (wlN τ ρ p l a b t)) (mW w σ) := by
  refine cI_of (m := 3) (fun d hd Q hQ => ?_) rfl hD
  have hd1 : 1 ≤ d := by omega
  have hd2 : 2 ≤ d := by omega
  have hd3 : 3 ≤ d := by omega
  have v0 := hv.1
  have v1 := hv.2.1
  have v2 := (hv.2.2.2.2.2.1 p hpp).2
  have ez : iB (cbP τ (Int32.ofNat p) (Int32.ofNat l) (Int32.ofNat a) (Int32.ofNat b) (Int32.ofNat t)) = 1 := iB_t (cbP_of hv hpp hl ha hb ht)
  have ebl : inB (Int32.ofNat l) 12 = true := on_inB (by omega) (by omega)
  have enl := on_nat (i := l) (by omega)
  have elf : σ.1 36 l = Int32.ofNat (ρ (12 + l)) := tS_lf hρ hl
  have ebp : inB (Int32.ofNat p) 3 = true := on_inB (by omega) (by omega)
  have enp := on_nat (i := p) (by omega)
  have ela : σ.1 37 p = Int32.ofNat (ρ (24 + p)) := tS_la hρ (by omega)
  have hll := left_lt h hl
  have h60 := vR_la h p (by omega)
  have hd12 : dist b a < 12 := dist_lt (by omega) (by omega)
  have hmul : t * (dist b a + 1) ≤ 99 * 12 := Nat.mul_le_mul ht.2 (by omega)
  have ab := abs_of (a := b) (b := a) (by omega) (by omega)
  have cm := on_le (i := t * (dist b a + 1)) (j := ρ (12 + l)) (by omega) (by omega)
  have e122 : ∀ {K : Int32 → Hp → Prop}, wpI d 122 [.ref 0, .int (0 : Int32), .int (Int32.ofNat p), .int (Int32.ofNat a), .int (Int32.ofNat b)] (mW w σ) K ↔ K (iB (apP τ ρ 0 p a b)) (mW w σ) := fun {K} => g_122 (m := 0) hw hP hp hτ hv hρ h (by omega) (by omega) (by omega) (by omega) hd2
  have c6 : (Int32.ofNat (ρ (24 + p)) < (60 : Int32)) ↔ ρ (24 + p) < 60 := on_lt (j := 60) (by omega) (by omega)
  refine b86_0 ?_
  unfold wlN at hQ
  by_cases z : ρ (12 + l) < t * (dist b a + 1)
  · rw [if_pos z] at hQ
    have cm' := iff_false_intro (fun q => absurd (cm.mp q) (by omega))
    simp only [↓br_pos, ↓br_neg, ↓rF_I, ↓rF_L, ↓rF_R, ↓rF_N, rO_m, rB_m, ↓rI_m, wI_m, ↓rB2_m, ↓rB3_m, wB2_m, wB3_m, ↓rL_m, wL_m, ↓rQ_m, wQ_m, ↓lI_m, pI_m, pL_m, pR_m, sI_m, sBy_m, sBo_m, sL_m, sQ_m, fst_m, true_and, and_true, tg_some, ln_some, uI_1, uI_2, uL_1, uL_2, uL_3, uQ_1, uQ_2, uQ_3, rv_i, rv_l, rv_n, rv_b0, rv_b1, RMR, ne_eq, reduceCtorEq, not_false_eq_true, Option.getD_some, if_true, if_false, and_self, false_and, and_false, Nat.add_left_cancel_iff, Nat.add_eq_left, Nat.left_eq_add, Nat.one_ne_zero, Nat.reduceAdd, Nat.reduceLT, Nat.reduceLeDiff, Nat.reduceEqDiff, true_implies, false_implies, implies_true, Option.some.injEq, forall_eq', forall_eq, reduceCtorEq, brT, brF, br_s, i_10, i_01, ib_0_2, ib_1_2, tn_0, tn_1, Int32.le_refl, eq_self, rv_bN, rv_iM, RCX 0, RCG 2, RCT 4, RCT 15, RCT 25, RCS 35, RCS 49, RCH 63, RCP 67, RCB 72, RCR 77, RCM 81, RLY, lit_at hw, g_121 hw hP hp hτ hv hd3, ez, ebl, enl, elf, ab, on_succ, of_mul, cm']
    exact hQ
  · rw [if_neg z] at hQ
    have cm' := iff_true_intro (cm.mpr (by omega))
    by_cases y : apP τ ρ 0 p a b
    · rw [if_neg (fun q => q y)] at hQ
      have ey : iB (apP τ ρ 0 p a b) = 1 := iB_t y
      by_cases v : 60 ≤ ρ (24 + p)
      · rw [if_pos v] at hQ
        have c6' := iff_false_intro (fun q => absurd (c6.mp q) (by omega))
        simp only [↓br_pos, ↓br_neg, ↓rF_I, ↓rF_L, ↓rF_R, ↓rF_N, rO_m, rB_m, ↓rI_m, wI_m, ↓rB2_m, ↓rB3_m, wB2_m, wB3_m, ↓rL_m, wL_m, ↓rQ_m, wQ_m, ↓lI_m, pI_m, pL_m, pR_m, sI_m, sBy_m, sBo_m, sL_m, sQ_m, fst_m, true_and, and_true, tg_some, ln_some, uI_1, uI_2, uL_1, uL_2, uL_3, uQ_1, uQ_2, uQ_3, rv_i, rv_l, rv_n, rv_b0, rv_b1, RMR, ne_eq, reduceCtorEq, not_false_eq_true, Option.getD_some, if_true, if_false, and_self, false_and, and_false, Nat.add_left_cancel_iff, Nat.add_eq_left, Nat.left_eq_add, Nat.one_ne_zero, Nat.reduceAdd, Nat.reduceLT, Nat.reduceLeDiff, Nat.reduceEqDiff, true_implies, false_implies, implies_true, Option.some.injEq, forall_eq', forall_eq, reduceCtorEq, brT, brF, br_s, i_10, i_01, ib_0_2, ib_1_2, tn_0, tn_1, Int32.le_refl, eq_self, rv_bN, rv_iM, RCX 0, RCG 2, RCT 4, RCT 15, RCT 25, RCS 35, RCS 49, RCH 63, RCP 67, RCB 72, RCR 77, RCM 81, RLY, lit_at hw, g_121 hw hP hp hτ hv hd3, ez, ebl, enl, elf, ab, on_succ, of_mul, cm', e122, ey, ebp, enp, ela, c6']
        exact hQ
      · rw [if_neg v] at hQ
        have c6' := iff_true_intro (c6.mpr (by omega))
        simp only [↓br_pos, ↓br_neg, ↓rF_I, ↓rF_L, ↓rF_R, ↓rF_N, rO_m, rB_m, ↓rI_m, wI_m, ↓rB2_m, ↓rB3_m, wB2_m, wB3_m, ↓rL_m, wL_m, ↓rQ_m, wQ_m, ↓lI_m, pI_m, pL_m, pR_m, sI_m, sBy_m, sBo_m, sL_m, sQ_m, fst_m, true_and, and_true, tg_some, ln_some, uI_1, uI_2, uL_1, uL_2, uL_3, uQ_1, uQ_2, uQ_3, rv_i, rv_l, rv_n, rv_b0, rv_b1, RMR, ne_eq, reduceCtorEq, not_false_eq_true, Option.getD_some, if_true, if_false, and_self, false_and, and_false, Nat.add_left_cancel_iff, Nat.add_eq_left, Nat.left_eq_add, Nat.one_ne_zero, Nat.reduceAdd, Nat.reduceLT, Nat.reduceLeDiff, Nat.reduceEqDiff, true_implies, false_implies, implies_true, Option.some.injEq, forall_eq', forall_eq, reduceCtorEq, brT, brF, br_s, i_10, i_01, ib_0_2, ib_1_2, tn_0, tn_1, Int32.le_refl, eq_self, rv_bN, rv_iM, RCX 0, RCG 2, RCT 4, RCT 15, RCT 25, RCS 35, RCS 49, RCH 63, RCP 67, RCB 72, RCR 77, RCM 81, RLY, lit_at hw, g_121 hw hP hp hτ hv hd3, ez, ebl, enl, elf, ab, on_succ, of_mul, cm', e122, ey, ebp, enp, ela, c6']
        exact hQ
    · rw [if_pos y] at hQ
      have ey : iB (apP τ ρ 0 p a b) = 0 := iB_f y
      simp only [↓br_pos, ↓br_neg, ↓rF_I, ↓rF_L, ↓rF_R, ↓rF_N, rO_m, rB_m, ↓rI_m, wI_m, ↓rB2_m, ↓rB3_m, wB2_m, wB3_m, ↓rL_m, wL_m, ↓rQ_m, wQ_m, ↓lI_m, pI_m, pL_m, pR_m, sI_m, sBy_m, sBo_m, sL_m, sQ_m, fst_m, true_and, and_true, tg_some, ln_some, uI_1, uI_2, uL_1, uL_2, uL_3, uQ_1, uQ_2, uQ_3, rv_i, rv_l, rv_n, rv_b0, rv_b1, RMR, ne_eq, reduceCtorEq, not_false_eq_true, Option.getD_some, if_true, if_false, and_self, false_and, and_false, Nat.add_left_cancel_iff, Nat.add_eq_left, Nat.left_eq_add, Nat.one_ne_zero, Nat.reduceAdd, Nat.reduceLT, Nat.reduceLeDiff, Nat.reduceEqDiff, true_implies, false_implies, implies_true, Option.some.injEq, forall_eq', forall_eq, reduceCtorEq, brT, brF, br_s, i_10, i_01, ib_0_2, ib_1_2, tn_0, tn_1, Int32.le_refl, eq_self, rv_bN, rv_iM, RCX 0, RCG 2, RCT 4, RCT 15, RCT 25, RCS 35, RCS 49, RCH 63, RCP 67, RCB 72, RCR 77, RCM 81, RLY, lit_at hw, g_121 hw hP hp hτ hv hd3, ez, ebl, enl, elf, ab, on_succ, of_mul, cm', e122, ey]
      exact hQ
