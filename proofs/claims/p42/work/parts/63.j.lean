section
/-! the model's calls: lay, cut, sail -/
theorem pours_li {ρ : Rw} {p k b t c : Nat} (hp : p < 3) (hk : k < 60) (hl : ρ (lo p k) < 12) : ∀ j, b + j ≤ c → c < 12 → pours ρ p k b t j (li p k c) = ρ (li p k c) := by
  intro j
  induction j with
  | zero => intro _ _; rfl
  | succ j ih =>
    intro h1 h2
    have e : pours ρ p k b t j (lo p k) = ρ (lo p k) := (pours_g hp hk hl j).1 _ (by unfold lo; omega)
    show sPour (pours ρ p k b t j) p k (b + j) t (li p k c) = _
    rw [sPour_1, e, if_neg (by unfold li; omega), if_neg (by unfold li; omega)]
    exact ih (by omega) h2
theorem pours_c {ρ ρ' : Rw} {p k b t : Nat} (hp : p < 3) (hk : k < 60) (hl : ρ (lo p k) < 12) (e : ∀ j, j ≠ 2 → j ≠ 4 → ρ' j = ρ j) : ∀ n j, j ≠ 2 → j ≠ 4 → pours ρ' p k b t n j = pours ρ p k b t n j := by
  intro n
  induction n with
  | zero => exact e
  | succ n ih =>
    intro j h2 h4
    have el : pours ρ' p k b t n (lo p k) = pours ρ p k b t n (lo p k) := ih _ (by unfold lo; omega) (by unfold lo; omega)
    have el' : pours ρ p k b t n (lo p k) = ρ (lo p k) := (pours_g hp hk hl n).1 _ (by unfold lo; omega)
    show sPour (pours ρ' p k b t n) p k (b + n) t j = sPour (pours ρ p k b t n) p k (b + n) t j
    rw [sPour_1, sPour_1, el, ih (12 + pours ρ p k b t n (lo p k)) (by omega) (by omega), ih (li p k (b + n)) (by unfold li; omega) (by unfold li; omega), ih j h2 h4]
theorem o_181 {w : mT} {σ : mS} {ρ : Rw} {p l : Nat} (hw : lit w) (hρ : mRow σ 85 0 ρ) (hp : p < 3) (hk : ρ (24 + p) < 60) : ∃ σ', frR 85 86 σ σ' ∧ mRow σ' 85 0 (sAdd ρ p l) ∧ ∀ {D : Nat} {K : Int32 → Hp → Prop}, 1 ≤ D → (wpI D 181 [.ref 81, .int (Int32.ofNat p), .int (Int32.ofNat l)] (mW w σ) K ↔ K (Int32.ofNat (ρ (24 + p))) (mW w σ')) := by
  have e : 131 + 60 * p + ρ (24 + p) = lo p (ρ (24 + p)) := by unfold lo; omega
  refine ⟨uI (uI σ 85 (24 + p) (Int32.ofNat (ρ (24 + p) + 1))) 85 (lo p (ρ (24 + p))) (Int32.ofNat l), frR_tr (frR_I (by omega)) (frR_I (by omega)), mR_e (mR_w (mR_w hρ)) (fun j hj => ?_), fun hD => cI_of (m := 0) (fun d hd Q hQ => ?_) rfl hD⟩
  · rw [sAdd_1, rSet_1, rSet_1]
    by_cases c : j = 24 + p
    · rw [if_pos c, if_neg (by unfold lo; omega), if_pos c]
    · rw [if_neg c, if_neg c]
  · refine b181_0 ?_
    simp only [↓br_pos, ↓br_neg, ↓rF_I, ↓rF_L, ↓rF_R, ↓rF_N, rO_m, rB_m, ↓rI_m, wI_m, ↓rB2_m, ↓rB3_m, wB2_m, wB3_m, ↓rL_m, wL_m, ↓rQ_m, wQ_m, ↓lI_m, pI_m, pL_m, pR_m, sI_m, sBy_m, sBo_m, sL_m, sQ_m, fst_m, true_and, and_true, tg_some, ln_some, uI_1, uI_2, uL_1, uL_2, uL_3, uQ_1, uQ_2, uQ_3, rv_i, rv_l, rv_n, rv_b0, rv_b1, RMR, ne_eq, reduceCtorEq, not_false_eq_true, Option.getD_some, if_true, if_false, and_self, false_and, and_false, Nat.add_left_cancel_iff, Nat.add_eq_left, Nat.left_eq_add, Nat.one_ne_zero, Nat.reduceAdd, Nat.reduceLT, Nat.reduceLeDiff, Nat.reduceEqDiff, true_implies, false_implies, implies_true, Option.some.injEq, forall_eq', forall_eq, reduceCtorEq, brT, brF, br_s, i_10, i_01, ib_0_2, ib_1_2, tn_0, tn_1, Int32.le_refl, eq_self, rv_bN, rv_iM, RCM 81, RLY, lit_at hw, mr hρ (by omega : 24 + p < 2471), ad_2, ad_4, ad_6, ad_8, ad_10, ad_12, ad_16, ad_24, ad_27, ad_28, ad_31, ad_35, ad_43, ad_51, ad_107, ad_131, ad_311, ml_3, ml_6, ml_7, ml_60, ml_100, ml_2471, mq_12, ar_2, ar_3, ar_4, ar_5, ar_6, of_add, of_mul, on_succ, e, ix (by unfold lo; omega : lo p (ρ (24 + p)) < 2471) (by omega)]
    exact hQ
theorem lp_182 {w : mT} {τ ρ : Rw} {p l k b t N hi a b' : Nat} (hw : lit w) (hr : vRow τ ρ) (hv : vTold τ) (hp : p < 3) (hk : k < 60) (hlo : ρ (lo p k) = l) (hl : l < 12) (hb : b + N ≤ 12) (hh : b + N = hi + 1) (ht : N * t ≤ ρ (12 + l)) (hz : ∀ c, c < 12 → ρ (li p k c) = 0) (hhi : hi = max a b') (ha : a < 12) (hb' : b' < 12) (hle : ρ (12 + l) < 1000000) : ∀ (r j : Nat) (σ : mS), j + r = N → mRow σ 85 0 (pours ρ p k b t j) → ∃ σ', frR 85 86 σ σ' ∧ mRow σ' 85 0 (pours ρ p k b t N) ∧ ∀ {Q : Option (Option Value) → Hp → Prop} {d : Nat}, 1 ≤ d → Q (some none) (mW w σ') → Wp 182 16 [.ref 81, .int (Int32.ofNat p), .int (Int32.ofNat l), .int (Int32.ofNat a), .int (Int32.ofNat b'), .int (Int32.ofNat t), .int (Int32.ofNat k), .int (Int32.ofNat (b + j))] [] (mW w σ) Q d := by
  have g := pours_g (ρ := ρ) (p := p) (k := k) (lo' := b) (t := t) hp hk (by omega)
  rw [hlo] at g
  have mx := max_2 (a := a) (b := b') (by omega) (by omega)
  rw [← hhi] at mx
  intro r
  induction r with
  | zero =>
    intro j σ hj hρ
    have hj' : j = N := by omega
    subst hj'
    refine ⟨σ, frR_rf, hρ, fun hd hQ => ?_⟩
    have l1 : (Int32.ofNat hi < Int32.ofNat (b + j)) ↔ True := iff_true_intro ((on_lt (by omega) (by omega)).mpr (by omega))
    refine b182_16 ?_
    simp only [mx]
    simp only [↓br_pos, ↓br_neg, ↓rF_I, ↓rF_L, ↓rF_R, ↓rF_N, rO_m, rB_m, ↓rI_m, wI_m, ↓rB2_m, ↓rB3_m, wB2_m, wB3_m, ↓rL_m, wL_m, ↓rQ_m, wQ_m, ↓lI_m, pI_m, pL_m, pR_m, sI_m, sBy_m, sBo_m, sL_m, sQ_m, fst_m, true_and, and_true, tg_some, ln_some, uI_1, uI_2, uL_1, uL_2, uL_3, uQ_1, uQ_2, uQ_3, rv_i, rv_l, rv_n, rv_b0, rv_b1, RMR, ne_eq, reduceCtorEq, not_false_eq_true, Option.getD_some, if_true, if_false, and_self, false_and, and_false, Nat.add_left_cancel_iff, Nat.add_eq_left, Nat.left_eq_add, Nat.one_ne_zero, Nat.reduceAdd, Nat.reduceLT, Nat.reduceLeDiff, Nat.reduceEqDiff, true_implies, false_implies, implies_true, Option.some.injEq, forall_eq', forall_eq, reduceCtorEq, brT, brF, br_s, i_10, i_01, ib_0_2, ib_1_2, tn_0, tn_1, Int32.le_refl, eq_self, rv_bN, rv_iM, l1]
    exact hQ
  | succ r ih =>
    intro j σ hj hρ
    have hle1 : (j + 1) * t ≤ N * t := Nat.mul_le_mul_right _ (by omega)
    rw [Nat.succ_mul] at hle1
    have el : pours ρ p k b t j (lo p k) = l := by rw [g j |>.1 _ (by unfold lo; omega)]; exact hlo
    have ez : pours ρ p k b t j (li p k (b + j)) = 0 := by rw [pours_li hp hk (by omega) j (Nat.le_refl _) (by omega)]; exact hz _ (by omega)
    have e12 := (g j).2
    have l1 : (Int32.ofNat hi < Int32.ofNat (b + j)) ↔ False := iff_false_intro (fun q => absurd ((on_lt (by omega) (by omega)).mp q) (by omega))
    have ρ1 : mRow (uI (uI σ 85 (li p k (b + j)) (Int32.ofNat t)) 85 (12 + l) (Int32.ofNat (pours ρ p k b t j (12 + l) - t))) 85 0 (pours ρ p k b t (j + 1)) := mR_e (mR_w (mR_w hρ)) (fun i hi => by
      show sPour (pours ρ p k b t j) p k (b + j) t i = _
      rw [sPour_1, el, ez, Nat.zero_add, rSet_1, rSet_1])
    obtain ⟨σ2, f2, t2, e2⟩ := ih (j + 1) _ (by omega) ρ1
    refine ⟨σ2, frR_tr (frR_tr (frR_I (by omega)) (frR_I (by omega))) f2, t2, fun hd hQ => ?_⟩
    have nx := e2 hd hQ
    rw [← of_sub (by omega)] at nx
    have x1 : ((12 + l : Nat) = li p k (b + j)) ↔ False := iff_false_intro (by unfold li; omega)
    refine b182_16 ?_
    simp only [mx]
    simp only [↓br_pos, ↓br_neg, ↓rF_I, ↓rF_L, ↓rF_R, ↓rF_N, rO_m, rB_m, ↓rI_m, wI_m, ↓rB2_m, ↓rB3_m, wB2_m, wB3_m, ↓rL_m, wL_m, ↓rQ_m, wQ_m, ↓lI_m, pI_m, pL_m, pR_m, sI_m, sBy_m, sBo_m, sL_m, sQ_m, fst_m, true_and, and_true, tg_some, ln_some, uI_1, uI_2, uL_1, uL_2, uL_3, uQ_1, uQ_2, uQ_3, rv_i, rv_l, rv_n, rv_b0, rv_b1, RMR, ne_eq, reduceCtorEq, not_false_eq_true, Option.getD_some, if_true, if_false, and_self, false_and, and_false, Nat.add_left_cancel_iff, Nat.add_eq_left, Nat.left_eq_add, Nat.one_ne_zero, Nat.reduceAdd, Nat.reduceLT, Nat.reduceLeDiff, Nat.reduceEqDiff, true_implies, false_implies, implies_true, Option.some.injEq, forall_eq', forall_eq, reduceCtorEq, brT, brF, br_s, i_10, i_01, ib_0_2, ib_1_2, tn_0, tn_1, Int32.le_refl, eq_self, rv_bN, rv_iM, RCM 81, RLY, lit_at hw, l1, g_156 hd, ix (by unfold li; omega : li p k (b + j) < 2471) (by omega), mr hρ (by omega : 12 + l < 2471), ad_2, ad_4, ad_6, ad_8, ad_10, ad_12, ad_16, ad_24, ad_27, ad_28, ad_31, ad_35, ad_43, ad_51, ad_107, ad_131, ad_311, ml_3, ml_6, ml_7, ml_60, ml_100, ml_2471, mq_12, ar_2, ar_3, ar_4, ar_5, ar_6, of_add, of_mul, on_succ, x1]
    exact nx
theorem o_182 {w : mT} {σ : mS} {τ ρ : Rw} {p l a b t : Nat} (hw : lit w) (hρ : mRow σ 85 0 ρ) (hv : vTold τ) (hr : vRow τ ρ) (hp : p < 3) (hl : l < τ 0) (ha : a < 12) (hb : b < 12) (hk : ρ (24 + p) < 60) (ht : t * (dist b a + 1) ≤ ρ (12 + l)) : ∃ σ', frR 85 86 σ σ' ∧ mRow σ' 85 0 (pours (sAdd ρ p l) p (ρ (24 + p)) (min a b) t (dist b a + 1)) ∧ ∀ {D : Nat} {K : Hp → Prop}, 2 ≤ D → (wpV D 182 [.ref 81, .int (Int32.ofNat p), .int (Int32.ofNat l), .int (Int32.ofNat a), .int (Int32.ofNat b), .int (Int32.ofNat t)] (mW w σ) K ↔ K (mW w σ')) := by
  have v0 := hv.1
  have rA := vRow_add hv hr hp hl hk
  have lf := left_lt hr hl
  obtain ⟨σ1, f1, r1, e1⟩ := o_181 (l := l) hw hρ hp hk
  have elo : sAdd ρ p l (lo p (ρ (24 + p))) = l := by rw [sAdd_1, if_neg (by unfold lo; omega), if_pos rfl]
  have el : sAdd ρ p l (12 + l) = ρ (12 + l) := by rw [sAdd_1, if_neg (by omega), if_neg (by unfold lo; omega)]
  have ez : ∀ c, c < 12 → sAdd ρ p l (li p (ρ (24 + p)) c) = 0 := fun c hc => by
    rw [sAdd_1, if_neg (by unfold li; omega), if_neg (by unfold li lo; omega)]
    exact vR_z hr p hp _ (Nat.le_refl _) hk c hc
  obtain ⟨σ2, f2, r2, e2⟩ := lp_182 (w := w) (τ := τ) (k := ρ (24 + p)) (b := min a b) (t := t) (N := dist b a + 1) (hi := max a b) (a := a) (b' := b) hw rA hv hp hk elo (by omega) (by unfold dist; omega) (by unfold dist; omega) (by rw [el, Nat.mul_comm]; exact ht) ez rfl ha hb (by rw [el]; omega) (dist b a + 1) 0 σ1 (by omega) r1
  refine ⟨σ2, frR_tr f1 f2, r2, fun hD => cV_of (m := 1) (fun d hd Q hQ => ?_) rfl hD⟩
  refine b182_0 ?_
  have mn := min_of (a := b) (b := a) (by omega) (by omega)
  simp only [↓br_pos, ↓br_neg, ↓rF_I, ↓rF_L, ↓rF_R, ↓rF_N, rO_m, rB_m, ↓rI_m, wI_m, ↓rB2_m, ↓rB3_m, wB2_m, wB3_m, ↓rL_m, wL_m, ↓rQ_m, wQ_m, ↓lI_m, pI_m, pL_m, pR_m, sI_m, sBy_m, sBo_m, sL_m, sQ_m, fst_m, true_and, and_true, tg_some, ln_some, uI_1, uI_2, uL_1, uL_2, uL_3, uQ_1, uQ_2, uQ_3, rv_i, rv_l, rv_n, rv_b0, rv_b1, RMR, ne_eq, reduceCtorEq, not_false_eq_true, Option.getD_some, if_true, if_false, and_self, false_and, and_false, Nat.add_left_cancel_iff, Nat.add_eq_left, Nat.left_eq_add, Nat.one_ne_zero, Nat.reduceAdd, Nat.reduceLT, Nat.reduceLeDiff, Nat.reduceEqDiff, true_implies, false_implies, implies_true, Option.some.injEq, forall_eq', forall_eq, reduceCtorEq, brT, brF, br_s, i_10, i_01, ib_0_2, ib_1_2, tn_0, tn_1, Int32.le_refl, eq_self, rv_bN, rv_iM, RCM 81, RLY, lit_at hw, e1 hd]
  simp only [mn]
  exact e2 hd hQ
theorem wl_ex {τ ρ : Rw} {p l a b c : Nat} (h : wlN τ ρ p l a b c = 0) : c * (dist b a + 1) ≤ ρ (12 + l) ∧ apP τ ρ 0 p a b ∧ ρ (24 + p) < 60 := by
  unfold wlN at h
  by_cases z : ρ (12 + l) < c * (dist b a + 1)
  · rw [if_pos z] at h; omega
  · rw [if_neg z] at h
    by_cases y : apP τ ρ 0 p a b
    · rw [if_neg (fun q => q y)] at h
      by_cases x : 60 ≤ ρ (24 + p)
      · rw [if_pos x] at h; omega
      · exact ⟨by omega, y, by omega⟩
    · rw [if_pos y] at h; omega
theorem tn4 : (4 : Int32).toNatClampNeg = 4 := by decide
theorem tn5 : (5 : Int32).toNatClampNeg = 5 := by decide
theorem tn6 : (6 : Int32).toNatClampNeg = 6 := by decide
theorem tn7 : (7 : Int32).toNatClampNeg = 7 := by decide
theorem vRow_layA {τ ρ : Rw} {p l a b c : Nat} (hv : vTold τ) (hr : vRow τ ρ) (hp : p < τ 1) (hl : l < τ 0) (ha : a < τ (28 + p)) (hb' : b < τ (28 + p)) (hc : 1 ≤ c ∧ c ≤ 99) (hn : wlN τ ρ p l a b c = 0) : vRow τ (sLayA ρ p l a b c) := by
  obtain ⟨hle, _, h60⟩ := wl_ex hn
  have v0 := hv.1
  have v1 := hv.2.1
  have v3 := (hv.2.2.2.2.2.1 p hp).2
  have r1 := vRow_go (m := 0) hv hr (by omega) hp ha
  have r2 := vRow_go (m := 0) hv r1 (by omega) hp hb'
  have gg : ∀ j, j ≠ 2 → j ≠ 4 → sGo (sGo ρ 0 p a) 0 p b j = ρ j := fun j j2 j4 => by rw [sGo_g (by omega) (by omega), sGo_g (by omega) (by omega)]
  have r3 : vRow τ (sTo ρ p l a b) := vRow_add hv r2 (by omega) hl (by rw [gg _ (by omega) (by omega)]; exact h60)
  have a24 : sTo ρ p l a b (24 + p) = ρ (24 + p) + 1 := by
    unfold sTo
    rw [sAdd_1, if_pos rfl, gg _ (by omega) (by omega)]
  have alo : sTo ρ p l a b (lo p (ρ (24 + p))) = l := by
    unfold sTo
    rw [sAdd_1, if_neg (by unfold lo; omega), gg (24 + p) (by omega) (by omega), if_pos rfl]
  have al : sTo ρ p l a b (12 + l) = ρ (12 + l) := by
    unfold sTo
    rw [sAdd_1, if_neg (by omega), if_neg (by unfold lo; omega), gg _ (by omega) (by omega)]
  have hmc : (dist b a + 1) * c ≤ sTo ρ p l a b (12 + sTo ρ p l a b (lo p (ρ (24 + p)))) := by rw [alo, al, Nat.mul_comm]; exact hle
  exact vRow_s hv (vRow_ps hv r3 (by omega) (by rw [a24]; omega) (by unfold dist; omega) hmc _ (Nat.le_refl _)) (by omega)
theorem m_180z {w : mT} {σ : mS} {tp n : Nat} {t : Nat → Nat} {τ ρ : Rw} {bk : Nat → Rw} {has : Nat → Bool} {im : Nat → Rw} {p l a b c : Int32} {D : Nat} {K : Int32 → Hp → Prop} (h : mIn w σ tp t τ ρ n bk has im) (ha : ¬ cbP τ p l a b c) (hD : 6 ≤ D) : wpI D 180 [.ref 81, .int p, .int l, .int a, .int b, .int c] (mW w σ) K ↔ K 1 (mW w (uI σ 81 0 0)) := by
  have M := h
  obtain ⟨hw, hτ, hρ, hv, hr, hp2, htp, htb, htl, hn, hn12, hbk, him⟩ := h
  have M0 := mIn_Z M (frZ_0 (j := 0) (x := 0) (by omega))
  obtain ⟨_, hτ0, hρ0, _, _, hp20, _, htb0, _, hn0, _, hbk0, him0⟩ := M0
  have M0 := mIn_Z M (frZ_0 (j := 0) (x := 0) (by omega))
  refine cI_of (m := 5) (fun d hd Q hQ => ?_) rfl hD
  refine b180_0 ?_
  simp only [↓br_pos, ↓br_neg, ↓rF_I, ↓rF_L, ↓rF_R, ↓rF_N, rO_m, rB_m, ↓rI_m, wI_m, ↓rB2_m, ↓rB3_m, wB2_m, wB3_m, ↓rL_m, wL_m, ↓rQ_m, wQ_m, ↓lI_m, pI_m, pL_m, pR_m, sI_m, sBy_m, sBo_m, sL_m, sQ_m, fst_m, true_and, and_true, tg_some, ln_some, uI_1, uI_2, uL_1, uL_2, uL_3, uQ_1, uQ_2, uQ_3, rv_i, rv_l, rv_n, rv_b0, rv_b1, RMR, ne_eq, reduceCtorEq, not_false_eq_true, Option.getD_some, if_true, if_false, and_self, false_and, and_false, Nat.add_left_cancel_iff, Nat.add_eq_left, Nat.left_eq_add, Nat.one_ne_zero, Nat.reduceAdd, Nat.reduceLT, Nat.reduceLeDiff, Nat.reduceEqDiff, true_implies, false_implies, implies_true, Option.some.injEq, forall_eq', forall_eq, reduceCtorEq, brT, brF, br_s, i_10, i_01, ib_0_2, ib_1_2, tn_0, tn_1, Int32.le_refl, eq_self, rv_bN, rv_iM, RCM 81, RLY, lit_at hw, g_179z hw hτ0 hv ha hd]
  exact hQ
theorem m_180 {w : mT} {σ : mS} {tp n : Nat} {t : Nat → Nat} {τ ρ : Rw} {bk : Nat → Rw} {has : Nat → Bool} {im : Nat → Rw} {p l a b c : Nat} {D : Nat} {K : Int32 → Hp → Prop} (h : mIn w σ tp t τ ρ n bk has im) (hp : p < τ 1) (hl : l < τ 0) (ha : a < τ (28 + p)) (hb : b < τ (28 + p)) (hc : 1 ≤ c ∧ c ≤ 99) (hD : 6 ≤ D) : wpI D 180 [.ref 81, .int (Int32.ofNat p), .int (Int32.ofNat l), .int (Int32.ofNat a), .int (Int32.ofNat b), .int (Int32.ofNat c)] (mW w σ) K ↔ K (Int32.ofNat (wlN τ ρ p l a b c)) (mW w (uI σ 81 0 0)) := by
  have M := h
  obtain ⟨hw, hτ, hρ, hv, hr, hp2, htp, htb, htl, hn, hn12, hbk, him⟩ := h
  have M0 := mIn_Z M (frZ_0 (j := 0) (x := 0) (by omega))
  obtain ⟨_, hτ0, hρ0, _, _, hp20, _, htb0, _, hn0, _, hbk0, him0⟩ := M0
  have M0 := mIn_Z M (frZ_0 (j := 0) (x := 0) (by omega))
  refine cI_of (m := 5) (fun d hd Q hQ => ?_) rfl hD
  refine b180_0 ?_
  simp only [↓br_pos, ↓br_neg, ↓rF_I, ↓rF_L, ↓rF_R, ↓rF_N, rO_m, rB_m, ↓rI_m, wI_m, ↓rB2_m, ↓rB3_m, wB2_m, wB3_m, ↓rL_m, wL_m, ↓rQ_m, wQ_m, ↓lI_m, pI_m, pL_m, pR_m, sI_m, sBy_m, sBo_m, sL_m, sQ_m, fst_m, true_and, and_true, tg_some, ln_some, uI_1, uI_2, uL_1, uL_2, uL_3, uQ_1, uQ_2, uQ_3, rv_i, rv_l, rv_n, rv_b0, rv_b1, RMR, ne_eq, reduceCtorEq, not_false_eq_true, Option.getD_some, if_true, if_false, and_self, false_and, and_false, Nat.add_left_cancel_iff, Nat.add_eq_left, Nat.left_eq_add, Nat.one_ne_zero, Nat.reduceAdd, Nat.reduceLT, Nat.reduceLeDiff, Nat.reduceEqDiff, true_implies, false_implies, implies_true, Option.some.injEq, forall_eq', forall_eq, reduceCtorEq, brT, brF, br_s, i_10, i_01, ib_0_2, ib_1_2, tn_0, tn_1, Int32.le_refl, eq_self, rv_bN, rv_iM, RCM 81, RLY, lit_at hw, g_179 hw hτ0 hρ0 hv hr (cbP_of hv hp hl ha hb hc) hp hl ha hb hc.2 hd]
  exact hQ
theorem m_183z {w : mT} {σ : mS} {tp n : Nat} {t : Nat → Nat} {τ ρ : Rw} {bk : Nat → Rw} {has : Nat → Bool} {im : Nat → Rw} {p l a b c : Int32} {D : Nat} {K : Int32 → Hp → Prop} (h : mIn w σ tp t τ ρ n bk has im) (ha : ¬ cbP τ p l a b c) (hD : 6 ≤ D) : wpI D 183 [.ref 81, .int p, .int l, .int a, .int b, .int c] (mW w σ) K ↔ K (-1) (mW w (uI σ 81 0 0)) := by
  have M := h
  obtain ⟨hw, hτ, hρ, hv, hr, hp2, htp, htb, htl, hn, hn12, hbk, him⟩ := h
  have M0 := mIn_Z M (frZ_0 (j := 0) (x := 0) (by omega))
  obtain ⟨_, hτ0, hρ0, _, _, hp20, _, htb0, _, hn0, _, hbk0, him0⟩ := M0
  have M0 := mIn_Z M (frZ_0 (j := 0) (x := 0) (by omega))
  refine cI_of (m := 5) (fun d hd Q hQ => ?_) rfl hD
  refine b183_0 ?_
  have c1 : ((1 : Int32) ≤ 0) ↔ False := by decide
  simp only [↓br_pos, ↓br_neg, ↓rF_I, ↓rF_L, ↓rF_R, ↓rF_N, rO_m, rB_m, ↓rI_m, wI_m, ↓rB2_m, ↓rB3_m, wB2_m, wB3_m, ↓rL_m, wL_m, ↓rQ_m, wQ_m, ↓lI_m, pI_m, pL_m, pR_m, sI_m, sBy_m, sBo_m, sL_m, sQ_m, fst_m, true_and, and_true, tg_some, ln_some, uI_1, uI_2, uL_1, uL_2, uL_3, uQ_1, uQ_2, uQ_3, rv_i, rv_l, rv_n, rv_b0, rv_b1, RMR, ne_eq, reduceCtorEq, not_false_eq_true, Option.getD_some, if_true, if_false, and_self, false_and, and_false, Nat.add_left_cancel_iff, Nat.add_eq_left, Nat.left_eq_add, Nat.one_ne_zero, Nat.reduceAdd, Nat.reduceLT, Nat.reduceLeDiff, Nat.reduceEqDiff, true_implies, false_implies, implies_true, Option.some.injEq, forall_eq', forall_eq, reduceCtorEq, brT, brF, br_s, i_10, i_01, ib_0_2, ib_1_2, tn_0, tn_1, Int32.le_refl, eq_self, rv_bN, rv_iM, RCM 81, RLY, lit_at hw, g_179z hw hτ0 hv ha hd, c1]
  exact hQ
theorem m_183n {w : mT} {σ : mS} {tp n : Nat} {t : Nat → Nat} {τ ρ : Rw} {bk : Nat → Rw} {has : Nat → Bool} {im : Nat → Rw} {p l a b c : Nat} {D : Nat} {K : Int32 → Hp → Prop} (h : mIn w σ tp t τ ρ n bk has im) (hp : p < τ 1) (hl : l < τ 0) (ha : a < τ (28 + p)) (hb : b < τ (28 + p)) (hc : 1 ≤ c ∧ c ≤ 99) (hy0 : wlN τ ρ p l a b c ≠ 0) (hD : 6 ≤ D) : wpI D 183 [.ref 81, .int (Int32.ofNat p), .int (Int32.ofNat l), .int (Int32.ofNat a), .int (Int32.ofNat b), .int (Int32.ofNat c)] (mW w σ) K ↔ K (-1) (mW w (uI σ 81 0 0)) := by
  have M := h
  obtain ⟨hw, hτ, hρ, hv, hr, hp2, htp, htb, htl, hn, hn12, hbk, him⟩ := h
  have M0 := mIn_Z M (frZ_0 (j := 0) (x := 0) (by omega))
  obtain ⟨_, hτ0, hρ0, _, _, hp20, _, htb0, _, hn0, _, hbk0, him0⟩ := M0
  have M0 := mIn_Z M (frZ_0 (j := 0) (x := 0) (by omega))
  refine cI_of (m := 5) (fun d hd Q hQ => ?_) rfl hD
  have lt := wl_lt (τ := τ) (ρ := ρ) (p := p) (l := l) (a := a) (b := b) (t := c)
  refine b183_0 ?_
  have c1 : (Int32.ofNat (wlN τ ρ p l a b c) ≤ 0) ↔ False := iff_false_intro (fun q => hy0 ((of_le0 (by omega)).mp q))
  simp only [↓br_pos, ↓br_neg, ↓rF_I, ↓rF_L, ↓rF_R, ↓rF_N, rO_m, rB_m, ↓rI_m, wI_m, ↓rB2_m, ↓rB3_m, wB2_m, wB3_m, ↓rL_m, wL_m, ↓rQ_m, wQ_m, ↓lI_m, pI_m, pL_m, pR_m, sI_m, sBy_m, sBo_m, sL_m, sQ_m, fst_m, true_and, and_true, tg_some, ln_some, uI_1, uI_2, uL_1, uL_2, uL_3, uQ_1, uQ_2, uQ_3, rv_i, rv_l, rv_n, rv_b0, rv_b1, RMR, ne_eq, reduceCtorEq, not_false_eq_true, Option.getD_some, if_true, if_false, and_self, false_and, and_false, Nat.add_left_cancel_iff, Nat.add_eq_left, Nat.left_eq_add, Nat.one_ne_zero, Nat.reduceAdd, Nat.reduceLT, Nat.reduceLeDiff, Nat.reduceEqDiff, true_implies, false_implies, implies_true, Option.some.injEq, forall_eq', forall_eq, reduceCtorEq, brT, brF, br_s, i_10, i_01, ib_0_2, ib_1_2, tn_0, tn_1, Int32.le_refl, eq_self, rv_bN, rv_iM, RCM 81, RLY, lit_at hw, g_179 hw hτ0 hρ0 hv hr (cbP_of hv hp hl ha hb hc) hp hl ha hb hc.2 hd, c1]
  exact hQ
theorem m_183 {w : mT} {σ : mS} {tp n : Nat} {t : Nat → Nat} {τ ρ : Rw} {bk : Nat → Rw} {has : Nat → Bool} {im : Nat → Rw} {p l a b c : Nat} (h : mIn w σ tp t τ ρ n bk has im) (hp : p < τ 1) (hl : l < τ 0) (ha : a < τ (28 + p)) (hb : b < τ (28 + p)) (hc : 1 ≤ c ∧ c ≤ 99) (hy0 : wlN τ ρ p l a b c = 0) : ∃ σ', frA σ σ' ∧ mIn w σ' tp t τ (sLayA ρ p l a b c) (nPh n) (bkPh n bk ρ) has im ∧ ∀ {D : Nat} {K : Int32 → Hp → Prop}, 6 ≤ D → (wpI D 183 [.ref 81, .int (Int32.ofNat p), .int (Int32.ofNat l), .int (Int32.ofNat a), .int (Int32.ofNat b), .int (Int32.ofNat c)] (mW w σ) K ↔ K (Int32.ofNat (sTo ρ p l a b 4) - Int32.ofNat (ρ 4)) (mW w σ')) := by
  have M := h
  obtain ⟨hw, hτ, hρ, hv, hr, hp2, htp, htb, htl, hn, hn12, hbk, him⟩ := h
  have M0 := mIn_Z M (frZ_0 (j := 0) (x := 0) (by omega))
  obtain ⟨_, hτ0, hρ0, _, _, hp20, _, htb0, _, hn0, _, hbk0, him0⟩ := M0
  have M0 := mIn_Z M (frZ_0 (j := 0) (x := 0) (by omega))
  obtain ⟨σ1, f1, M1, k1⟩ := k_177 M0
  have hρ1 := M1.2.2.1
  have hτ1 := M1.2.1
  have F1 := frA_tr (frA_I (σ := σ) (a := 81) (j := 0) (x := 0) (by omega)) f1
  obtain ⟨w1, w2, w3⟩ := wl_ex hy0
  have v0 := hv.1
  have v1 := hv.2.1
  have v3 := (hv.2.2.2.2.2.1 p hp).2
  have hs0 := onP_lt hv (vR_on hr (by omega : 0 < 2))
  obtain ⟨σ2, f2, r2, e2⟩ := o_182 (w := w) (t := c) hw hρ1 hv hr (by omega : p < 3) hl (by omega : a < 12) (by omega : b < 12) w3 w1
  have rA := vRow_add hv hr (by omega : p < 3) hl w3
  have g0 := pours_g (ρ := sAdd ρ p l) (p := p) (k := ρ (24 + p)) (lo' := min a b) (t := c) (by omega) w3 (by rw [sAdd_1, if_neg (by unfold lo; omega), if_pos rfl]; omega) (dist b a + 1)
  have e4 : pours (sAdd ρ p l) p (ρ (24 + p)) (min a b) c (dist b a + 1) 4 = ρ 4 := by rw [g0.1 4 (by omega), sAdd_1, if_neg (by omega), if_neg (by unfold lo; omega)]
  have q4 : sTo ρ p l a b 4 = ρ 4 + ((if onAtD ρ 0 p then dist (cellAt ρ 0) a else 10) + dist b a) := by
    unfold sTo
    rw [sAdd_1, if_neg (by omega), if_neg (by unfold lo; omega)]
    have o2 : onAtD (sGo ρ 0 p a) 0 p = true := decide_eq_true (by unfold sGo; rw [rS_eq]; omega)
    have c2 : cellAt (sGo ρ 0 p a) 0 = a := by unfold cellAt sGo; rw [rS_eq]; omega
    have s4 : sGo ρ 0 p a 4 = ρ 4 + (if onAtD ρ 0 p then dist (cellAt ρ 0) a else 10) := by
      unfold sGo
      rw [rS_ne (by omega)]
      exact rS_eq (j := 4)
    have y4 : sGo (sGo ρ 0 p a) 0 p b 4 = sGo ρ 0 p a 4 + (if onAtD (sGo ρ 0 p a) 0 p = true then dist (cellAt (sGo ρ 0 p a) 0) b else 10) := by
      unfold sGo
      rw [rS_ne (by omega)]
      exact rS_eq (j := 4)
    rw [y4, if_pos o2, c2, s4]
    have : dist a b = dist b a := by unfold dist; omega
    omega
  have vr : vRow τ (sLayA ρ p l a b c) := vRow_layA hv hr hp hl ha hb hc hy0
  have r3 := mR_w (j := 6) (x := 0) (mR_w (j := 4) (x := ρ 4 + ((if onAtD ρ 0 p then dist (cellAt ρ 0) a else 10) + dist b a)) (mR_w (j := 2 + 0) (x := 100 * p + b + 1) r2))
  refine ⟨uI (uI (uI σ2 85 (2 + 0) (Int32.ofNat (100 * p + b + 1))) 85 4 (Int32.ofNat (ρ 4 + ((if onAtD ρ 0 p then dist (cellAt ρ 0) a else 10) + dist b a)))) 85 6 0, frA_tr F1 (frA_tr (frA_R f2 (by omega)) (frA_tr (frA_I (by omega)) (frA_tr (frA_I (by omega)) (frA_I (by omega))))), mIn_row M1 (frR_tr f2 (frR_tr (frR_I (by omega)) (frR_tr (frR_I (by omega)) (frR_I (by omega))))) (mR_e r3 (fun j hj => ?_)) vr, fun hD => cI_of (m := 5) (fun d hd Q hQ => ?_) rfl hD⟩
  · have pc := pours_c (ρ := sAdd ρ p l) (ρ' := sTo ρ p l a b) (p := p) (k := ρ (24 + p)) (b := min a b) (t := c) (by omega) w3 (by rw [sAdd_1, if_neg (by unfold lo; omega), if_pos rfl]; omega) (fun j h2 h4 => by
      have gg : ∀ j, j ≠ 2 → j ≠ 4 → sGo (sGo ρ 0 p a) 0 p b j = ρ j := fun j j2 j4 => by rw [sGo_g (by omega) (by omega), sGo_g (by omega) (by omega)]
      unfold sTo
      rw [sAdd_1, sAdd_1, gg (24 + p) (by omega) (by omega), gg j h2 h4]) (dist b a + 1)
    have alo : sTo ρ p l a b (lo p (ρ (24 + p))) = l := by
      unfold sTo
      rw [sAdd_1, if_neg (by unfold lo; omega), if_pos (by rw [sGo_g (by omega) (by omega), sGo_g (by omega) (by omega)])]
    have g1 := pours_g (ρ := sTo ρ p l a b) (p := p) (k := ρ (24 + p)) (lo' := min a b) (t := c) (by omega) w3 (by rw [alo]; omega) (dist b a + 1)
    unfold sLayA
    rw [rSet_1, rSet_1, rSet_1, rSet_1]
    by_cases c6 : j = 6
    · rw [if_pos c6, if_pos c6]
    · rw [if_neg c6, if_neg c6]
      by_cases c4 : j = 4
      · rw [if_pos c4, c4, g1.1 4 (by omega), q4]
      · rw [if_neg c4]
        by_cases c2 : j = 2
        · rw [if_pos c2, c2, g1.1 2 (by omega)]
          unfold sTo
          rw [sAdd_1, if_neg (by omega), if_neg (by unfold lo; omega)]
          exact rS_eq
        · rw [if_neg c2, pc j c2 c4]
  · have hd1 : 1 ≤ d := by omega
    have hd2 : 2 ≤ d := by omega
    have c1 : (Int32.ofNat (wlN τ ρ p l a b c) ≤ 0) ↔ True := iff_true_intro ((of_le0 (by omega)).mpr hy0)
    have g5 := fun {K : Int32 → Hp → Prop} => g_175 (K := K) (σ := σ1) (m := 0) (x := 0) (p := p) (c := a) hw hρ1 rfl (by omega) hs0 (by omega) (by omega) hd2
    have g6 := fun {K : Hp → Prop} => g_176 (K := K) (σ := σ2) (m := 0) (x := 0) (p := p) (c := b) hw rfl (by omega) hd1
    have m4 := (mr_4l r2).2.2
    rw [e4] at m4
    rw [q4, of_sub (by omega), Nat.add_sub_cancel_left] at hQ
    have x4 : (4 = 2 + 0) ↔ False := by decide
    refine b183_0 ?_
    simp only [↓br_pos, ↓br_neg, ↓rF_I, ↓rF_L, ↓rF_R, ↓rF_N, rO_m, rB_m, ↓rI_m, wI_m, ↓rB2_m, ↓rB3_m, wB2_m, wB3_m, ↓rL_m, wL_m, ↓rQ_m, wQ_m, ↓lI_m, pI_m, pL_m, pR_m, sI_m, sBy_m, sBo_m, sL_m, sQ_m, fst_m, true_and, and_true, tg_some, ln_some, uI_1, uI_2, uL_1, uL_2, uL_3, uQ_1, uQ_2, uQ_3, rv_i, rv_l, rv_n, rv_b0, rv_b1, RMR, ne_eq, reduceCtorEq, not_false_eq_true, Option.getD_some, if_true, if_false, and_self, false_and, and_false, Nat.add_left_cancel_iff, Nat.add_eq_left, Nat.left_eq_add, Nat.one_ne_zero, Nat.reduceAdd, Nat.reduceLT, Nat.reduceLeDiff, Nat.reduceEqDiff, true_implies, false_implies, implies_true, Option.some.injEq, forall_eq', forall_eq, reduceCtorEq, brT, brF, br_s, i_10, i_01, ib_0_2, ib_1_2, tn_0, tn_1, Int32.le_refl, eq_self, rv_bN, rv_iM, RCM 81, RLY, lit_at hw, g_179 hw hτ0 hρ0 hv hr (cbP_of hv hp hl ha hb hc) hp hl ha hb hc.2 hd, c1, k1 hd2, g5, e2 hd2, g6, inB_2471_4, inB_2471_6, tn4, tn6, x4, m4, abs_of (by omega : b < 2147483648) (by omega : a < 2147483648), ad_2, ad_4, ad_6, ad_8, ad_10, ad_12, ad_16, ad_24, ad_27, ad_28, ad_31, ad_35, ad_43, ad_51, ad_107, ad_131, ad_311, ml_3, ml_6, ml_7, ml_60, ml_100, ml_2471, mq_12, ar_2, ar_3, ar_4, ar_5, ar_6, of_add, of_mul, on_succ]
    exact hQ
end
section
/-! the model's calls: cut, sail -/
def mzK (ρ : Rw) (p c : Nat) : Nat → Rw
  | 0 => ρ
  | n + 1 => rSet (mzK ρ p c n) (li p n c) 0
theorem mzK_1 {ρ : Rw} {p c : Nat} (hp : p < 3) (hc : c < 12) {n : Nat} (hn : n ≤ 60) (j : Nat) : mzK ρ p c n j = if 311 ≤ j ∧ (j - 311) / 720 = p ∧ (j - 311) % 12 = c ∧ (j - 311) / 12 % 60 < n then 0 else ρ j := by
  induction n with
  | zero => rw [if_neg (by omega)]; rfl
  | succ n ih =>
    have ih := ih (by omega)
    show rSet (mzK ρ p c n) (li p n c) 0 j = _
    rw [rSet_1, ih]
    by_cases e : j = li p n c
    · rw [if_pos e, if_pos (by unfold li at e; omega)]
    · rw [if_neg e]
      by_cases y : 311 ≤ j ∧ (j - 311) / 720 = p ∧ (j - 311) % 12 = c ∧ (j - 311) / 12 % 60 < n
      · rw [if_pos y, if_pos (by omega)]
      · rw [if_neg y, if_neg (by unfold li at e; omega)]
theorem lp_187 {w : mT} {τ ρ : Rw} {p c s N : Nat} {T : Int32} (hw : lit w) (hp : p < 3) (hc : c < 12) (hN : N ≤ 60) (hL : ρ (24 + p) = N) : ∀ (r j : Nat) (σ : mS), j + r = N → σ.1 81 16 = T → mRow σ 85 0 (mzK ρ p c j) → ∃ σ', frR 85 86 σ σ' ∧ mRow σ' 85 0 (mzK ρ p c N) ∧ ∀ {Q : Option (Option Value) → Hp → Prop} {d : Nat}, 1 ≤ d → Q (some (some (.int T))) (mW w σ') → Wp 187 42 [.ref 81, .int (Int32.ofNat p), .int (Int32.ofNat c), .int (Int32.ofNat s), .int (Int32.ofNat j)] [] (mW w σ) Q d := by
  intro r
  induction r with
  | zero =>
    intro j σ hj hT hρ
    have hj' : j = N := by omega
    subst hj'
    have eL : mzK ρ p c j (24 + p) = ρ (24 + p) := by rw [mzK_1 hp hc hN, if_neg (by omega)]
    have m1 := mr hρ (by omega : 24 + p < 2471)
    rw [eL, hL] at m1
    refine ⟨σ, frR_rf, hρ, fun hd hQ => ?_⟩
    refine b187_42 ?_
    simp only [↓br_pos, ↓br_neg, ↓rF_I, ↓rF_L, ↓rF_R, ↓rF_N, rO_m, rB_m, ↓rI_m, wI_m, ↓rB2_m, ↓rB3_m, wB2_m, wB3_m, ↓rL_m, wL_m, ↓rQ_m, wQ_m, ↓lI_m, pI_m, pL_m, pR_m, sI_m, sBy_m, sBo_m, sL_m, sQ_m, fst_m, true_and, and_true, tg_some, ln_some, uI_1, uI_2, uL_1, uL_2, uL_3, uQ_1, uQ_2, uQ_3, rv_i, rv_l, rv_n, rv_b0, rv_b1, RMR, ne_eq, reduceCtorEq, not_false_eq_true, Option.getD_some, if_true, if_false, and_self, false_and, and_false, Nat.add_left_cancel_iff, Nat.add_eq_left, Nat.left_eq_add, Nat.one_ne_zero, Nat.reduceAdd, Nat.reduceLT, Nat.reduceLeDiff, Nat.reduceEqDiff, true_implies, false_implies, implies_true, Option.some.injEq, forall_eq', forall_eq, reduceCtorEq, brT, brF, br_s, i_10, i_01, ib_0_2, ib_1_2, tn_0, tn_1, Int32.le_refl, eq_self, rv_bN, rv_iM, RCM 81, RLY, lit_at hw, ad_2, ad_4, ad_6, ad_8, ad_10, ad_12, ad_16, ad_24, ad_27, ad_28, ad_31, ad_35, ad_43, ad_51, ad_107, ad_131, ad_311, ml_3, ml_6, ml_7, ml_60, ml_100, ml_2471, mq_12, ar_2, ar_3, ar_4, ar_5, ar_6, of_add, of_mul, on_succ, m1, Int32.le_refl, hT]
    exact hQ
  | succ r ih =>
    intro j σ hj hT hρ
    have eL : mzK ρ p c j (24 + p) = ρ (24 + p) := by rw [mzK_1 hp hc (by omega), if_neg (by omega)]
    have m1 := mr hρ (by omega : 24 + p < 2471)
    rw [eL, hL] at m1
    have l1 : (Int32.ofNat N ≤ Int32.ofNat j) ↔ False := iff_false_intro (fun q => absurd ((on_le (by omega) (by omega)).mp q) (by omega))
    obtain ⟨σ2, f2, t2, e2⟩ := ih (j + 1) (uI σ 85 (li p j c) 0) (by omega) (by rw [uI_1, if_neg (by omega)]; exact hT) (mR_w (x := 0) hρ)
    refine ⟨σ2, frR_tr (frR_I (by omega)) f2, t2, fun hd hQ => ?_⟩
    refine b187_42 ?_
    simp only [↓br_pos, ↓br_neg, ↓rF_I, ↓rF_L, ↓rF_R, ↓rF_N, rO_m, rB_m, ↓rI_m, wI_m, ↓rB2_m, ↓rB3_m, wB2_m, wB3_m, ↓rL_m, wL_m, ↓rQ_m, wQ_m, ↓lI_m, pI_m, pL_m, pR_m, sI_m, sBy_m, sBo_m, sL_m, sQ_m, fst_m, true_and, and_true, tg_some, ln_some, uI_1, uI_2, uL_1, uL_2, uL_3, uQ_1, uQ_2, uQ_3, rv_i, rv_l, rv_n, rv_b0, rv_b1, RMR, ne_eq, reduceCtorEq, not_false_eq_true, Option.getD_some, if_true, if_false, and_self, false_and, and_false, Nat.add_left_cancel_iff, Nat.add_eq_left, Nat.left_eq_add, Nat.one_ne_zero, Nat.reduceAdd, Nat.reduceLT, Nat.reduceLeDiff, Nat.reduceEqDiff, true_implies, false_implies, implies_true, Option.some.injEq, forall_eq', forall_eq, reduceCtorEq, brT, brF, br_s, i_10, i_01, ib_0_2, ib_1_2, tn_0, tn_1, Int32.le_refl, eq_self, rv_bN, rv_iM, RCM 81, RLY, lit_at hw, ad_2, ad_4, ad_6, ad_8, ad_10, ad_12, ad_16, ad_24, ad_27, ad_28, ad_31, ad_35, ad_43, ad_51, ad_107, ad_131, ad_311, ml_3, ml_6, ml_7, ml_60, ml_100, ml_2471, mq_12, ar_2, ar_3, ar_4, ar_5, ar_6, of_add, of_mul, on_succ, m1, l1, g_156 hd, ix (by unfold li; omega : li p j c < 2471) (by omega)]
    exact e2 hd hQ
theorem sMove_mz {τ ρ : Rw} {p c s : Nat} (hp : p < 3) (hc : c < 12) (hs : s < 8) (hN : ρ (24 + p) ≤ 60) (j : Nat) : sMove τ ρ p c s j = mzK (rSet (rSet ρ (27 + s) (ρ (27 + s) + tOn ρ p c)) (35 + s) (ρ (35 + s) + gOn τ ρ p c)) p c (ρ (24 + p)) j := by
  rw [mzK_1 hp hc hN]
  unfold sMove
  by_cases y : 311 ≤ j ∧ (j - 311) / 720 = p ∧ (j - 311) % 12 = c ∧ (j - 311) / 12 % 60 < ρ (24 + p)
  · rw [if_pos y, if_pos y]
  · rw [if_neg y, if_neg y, rSet_1, rSet_1]
theorem o_187 {w : mT} {σ : mS} {τ ρ : Rw} {p c s : Nat} (hw : lit w) (hτ : mTold σ τ) (hρ : mRow σ 85 0 ρ) (hv : vTold τ) (hr : vRow τ ρ) (hp : p < 3) (hc : c < 12) (hs : s < τ 2) : ∃ σ' T G, frR 85 86 (su σ T G) σ' ∧ mRow σ' 85 0 (sMove τ ρ p c s) ∧ ∀ {D : Nat} {K : Int32 → Hp → Prop}, 3 ≤ D → (wpI D 187 [.ref 81, .int (Int32.ofNat p), .int (Int32.ofNat c), .int (Int32.ofNat s)] (mW w σ) K ↔ K (Int32.ofNat (tOn ρ p c)) (mW w σ')) := by
  have v2 := hv.2.2.1
  have v60 := vR_la hr p hp
  have hρS := mR_c hρ (su_a (σ := σ) (T := tOn ρ p c) (G := gOn τ ρ p c) (by omega : (85 : Nat) ≠ 81))
  have hρ2 := mR_w (j := 35 + s) (x := ρ (35 + s) + gOn τ ρ p c) (mR_w (j := 27 + s) (x := ρ (27 + s) + tOn ρ p c) hρS)
  obtain ⟨σ2, f2, t2, e2⟩ := lp_187 (w := w) (τ := τ) (ρ := rSet (rSet ρ (27 + s) (ρ (27 + s) + tOn ρ p c)) (35 + s) (ρ (35 + s) + gOn τ ρ p c)) (s := s) (p := p) (c := c) (N := ρ (24 + p)) (T := Int32.ofNat (tOn ρ p c)) hw hp hc v60 (by rw [rS_ne (by omega), rS_ne (by omega)]) (ρ (24 + p)) 0 (uI (uI (su σ (tOn ρ p c) (gOn τ ρ p c)) 85 (27 + s) (Int32.ofNat (ρ (27 + s) + tOn ρ p c))) 85 (35 + s) (Int32.ofNat (ρ (35 + s) + gOn τ ρ p c))) (by omega) (by rw [uI_1, if_neg (by omega), uI_1, if_neg (by omega)]; exact su_16) hρ2
  refine ⟨σ2, tOn ρ p c, gOn τ ρ p c, frR_tr (frR_tr (frR_I (by omega)) (frR_I (by omega))) f2, mR_e t2 (fun j hj => sMove_mz hp hc (by omega) v60 j), fun hD => cI_of (m := 2) (fun d hd Q hQ => ?_) rfl hD⟩
  have hd1 : 1 ≤ d := by omega
  have x1 : ((35 + s : Nat) = 27 + s) ↔ False := iff_false_intro (by omega)
  refine b187_0 ?_
  simp only [↓br_pos, ↓br_neg, ↓rF_I, ↓rF_L, ↓rF_R, ↓rF_N, rO_m, rB_m, ↓rI_m, wI_m, ↓rB2_m, ↓rB3_m, wB2_m, wB3_m, ↓rL_m, wL_m, ↓rQ_m, wQ_m, ↓lI_m, pI_m, pL_m, pR_m, sI_m, sBy_m, sBo_m, sL_m, sQ_m, fst_m, true_and, and_true, tg_some, ln_some, uI_1, uI_2, uL_1, uL_2, uL_3, uQ_1, uQ_2, uQ_3, rv_i, rv_l, rv_n, rv_b0, rv_b1, RMR, ne_eq, reduceCtorEq, not_false_eq_true, Option.getD_some, if_true, if_false, and_self, false_and, and_false, Nat.add_left_cancel_iff, Nat.add_eq_left, Nat.left_eq_add, Nat.one_ne_zero, Nat.reduceAdd, Nat.reduceLT, Nat.reduceLeDiff, Nat.reduceEqDiff, true_implies, false_implies, implies_true, Option.some.injEq, forall_eq', forall_eq, reduceCtorEq, brT, brF, br_s, i_10, i_01, ib_0_2, ib_1_2, tn_0, tn_1, Int32.le_refl, eq_self, rv_bN, rv_iM, RCM 81, RLY, lit_at hw, g_158c hw hτ hρ hv hr hp hc hd, ad_2, ad_4, ad_6, ad_8, ad_10, ad_12, ad_16, ad_24, ad_27, ad_28, ad_31, ad_35, ad_43, ad_51, ad_107, ad_131, ad_311, ml_3, ml_6, ml_7, ml_60, ml_100, ml_2471, mq_12, ar_2, ar_3, ar_4, ar_5, ar_6, of_add, of_mul, on_succ, mr hρS (by omega : 27 + s < 2471), mr hρS (by omega : 35 + s < 2471), su_16, su_17, x1]
  exact e2 hd1 hQ
theorem g_185 {w : mT} {σ : mS} {τ ρ : Rw} {p c s : Nat} {D : Nat} {K : Int32 → Hp → Prop} (hw : lit w) (hτ : mTold σ τ) (hρ : mRow σ 85 0 ρ) (hv : vTold τ) (hr : vRow τ ρ) (hp : p < τ 1) (hc : c < τ (28 + p)) (hs : s < τ 2) (hD : 5 ≤ D) : wpI D 185 [.ref 81, .int (Int32.ofNat p), .int (Int32.ofNat c), .int (Int32.ofNat s)] (mW w σ) K ↔ K (Int32.ofNat (wcN τ ρ p c s)) (mW w (su σ (tOn ρ p c) (gOn τ ρ p c))) := by
  refine cI_of (m := 4) (fun d hd Q hQ => ?_) rfl hD
  have v1 := hv.2.1
  have v2 := hv.2.2.1
  have v3 := (hv.2.2.2.2.2.1 p hp).2
  have vn := (hv.2.2.2.2.2.2 s hs).1
  have hs0 := onP_lt hv (vR_on hr (by omega : 0 < 2))
  have hs1 := onP_lt hv (vR_on hr (by omega : 1 < 2))
  have tl := tOn_lt (c := c) hr (by omega : p < 3) (by omega)
  have rs := vR_sa hr s hs
  have hh := hold_lt hr hs
  have hd2 : 2 ≤ d := by omega
  have hcb : bC τ (Int32.ofNat p) (Int32.ofNat c) = 1 ∧ bN (Int32.ofNat s) (τ 2) = 1 := ⟨bC_t hp hv hc, bN_on hs (by omega)⟩
  have hρS := mR_c hρ (su_a (σ := σ) (T := tOn ρ p c) (G := gOn τ ρ p c) (by omega : (85 : Nat) ≠ 81))
  have hτS := mT_c hτ (su_a (σ := σ) (T := tOn ρ p c) (G := gOn τ ρ p c) (by omega : (83 : Nat) ≠ 81))
  have g1 := fun {K : Hp → Prop} => g_158c (K := K) (c := c) hw hτ hρ hv hr (by omega : p < 3) (by omega) hd2
  have g2 := fun {K : Int32 → Hp → Prop} => g_159 (K := K) (s := s) hw hτS hρS hv hs hh hd2
  have g3 := fun {K : Int32 → Hp → Prop} => g_174 (K := K) (m := 1) (x := 1) (p := p) (a := c) (b := c) hw hτS hρS hv rfl (by omega) hs1 hs0 (by omega) (by omega) (by omega) hd
  unfold wcN at hQ
  refine b185_0 ?_
  by_cases z : tOn ρ p c = 0
  · rw [if_pos z] at hQ
    have c1 : (Int32.ofNat (tOn ρ p c) = 0) ↔ True := iff_true_intro (by rw [z]; rfl)
    simp only [↓br_pos, ↓br_neg, ↓rF_I, ↓rF_L, ↓rF_R, ↓rF_N, rO_m, rB_m, ↓rI_m, wI_m, ↓rB2_m, ↓rB3_m, wB2_m, wB3_m, ↓rL_m, wL_m, ↓rQ_m, wQ_m, ↓lI_m, pI_m, pL_m, pR_m, sI_m, sBy_m, sBo_m, sL_m, sQ_m, fst_m, true_and, and_true, tg_some, ln_some, uI_1, uI_2, uL_1, uL_2, uL_3, uQ_1, uQ_2, uQ_3, rv_i, rv_l, rv_n, rv_b0, rv_b1, RMR, ne_eq, reduceCtorEq, not_false_eq_true, Option.getD_some, if_true, if_false, and_self, false_and, and_false, Nat.add_left_cancel_iff, Nat.add_eq_left, Nat.left_eq_add, Nat.one_ne_zero, Nat.reduceAdd, Nat.reduceLT, Nat.reduceLeDiff, Nat.reduceEqDiff, true_implies, false_implies, implies_true, Option.some.injEq, forall_eq', forall_eq, reduceCtorEq, brT, brF, br_s, i_10, i_01, ib_0_2, ib_1_2, tn_0, tn_1, Int32.le_refl, eq_self, rv_bN, rv_iM, RCM 81, RLY, lit_at hw, g_184 hw hτ hv hd, iB_t hcb, z10, g1, su_16, c1]
    exact hQ
  · rw [if_neg z] at hQ
    have c1 : (Int32.ofNat (tOn ρ p c) = 0) ↔ False := iff_false_intro (fun q => z ((of_eq0 (by omega)).mp q))
    by_cases y : ρ (43 + s) = 0
    · have c2 : (0 < Int32.ofNat (ρ (43 + s))) ↔ False := iff_false_intro (fun q => absurd ((on_lt (i := 0) (by omega) (by omega)).mp q) (by omega))
      by_cases x : τ (31 + 6 * s) ≤ ρ (27 + s)
      · rw [if_pos (fun q => by have := q.2; omega)] at hQ
        simp only [↓br_pos, ↓br_neg, ↓rF_I, ↓rF_L, ↓rF_R, ↓rF_N, rO_m, rB_m, ↓rI_m, wI_m, ↓rB2_m, ↓rB3_m, wB2_m, wB3_m, ↓rL_m, wL_m, ↓rQ_m, wQ_m, ↓lI_m, pI_m, pL_m, pR_m, sI_m, sBy_m, sBo_m, sL_m, sQ_m, fst_m, true_and, and_true, tg_some, ln_some, uI_1, uI_2, uL_1, uL_2, uL_3, uQ_1, uQ_2, uQ_3, rv_i, rv_l, rv_n, rv_b0, rv_b1, RMR, ne_eq, reduceCtorEq, not_false_eq_true, Option.getD_some, if_true, if_false, and_self, false_and, and_false, Nat.add_left_cancel_iff, Nat.add_eq_left, Nat.left_eq_add, Nat.one_ne_zero, Nat.reduceAdd, Nat.reduceLT, Nat.reduceLeDiff, Nat.reduceEqDiff, true_implies, false_implies, implies_true, Option.some.injEq, forall_eq', forall_eq, reduceCtorEq, brT, brF, br_s, i_10, i_01, ib_0_2, ib_1_2, tn_0, tn_1, Int32.le_refl, eq_self, rv_bN, rv_iM, RCM 81, RLY, lit_at hw, g_184 hw hτ hv hd, iB_t hcb, z10, g1, su_16, c1, mr hρS (by omega : 43 + s < 2471), ad_2, ad_4, ad_6, ad_8, ad_10, ad_12, ad_16, ad_24, ad_27, ad_28, ad_31, ad_35, ad_43, ad_51, ad_107, ad_131, ad_311, ml_3, ml_6, ml_7, ml_60, ml_100, ml_2471, mq_12, ar_2, ar_3, ar_4, ar_5, ar_6, of_add, of_mul, on_succ, c2, g2, iB_t x]
        exact hQ
      · rw [if_neg (fun q => q ⟨y, by omega⟩)] at hQ
        by_cases u : apP τ ρ 1 p c c
        · rw [if_neg (fun q => q u)] at hQ
          simp only [↓br_pos, ↓br_neg, ↓rF_I, ↓rF_L, ↓rF_R, ↓rF_N, rO_m, rB_m, ↓rI_m, wI_m, ↓rB2_m, ↓rB3_m, wB2_m, wB3_m, ↓rL_m, wL_m, ↓rQ_m, wQ_m, ↓lI_m, pI_m, pL_m, pR_m, sI_m, sBy_m, sBo_m, sL_m, sQ_m, fst_m, true_and, and_true, tg_some, ln_some, uI_1, uI_2, uL_1, uL_2, uL_3, uQ_1, uQ_2, uQ_3, rv_i, rv_l, rv_n, rv_b0, rv_b1, RMR, ne_eq, reduceCtorEq, not_false_eq_true, Option.getD_some, if_true, if_false, and_self, false_and, and_false, Nat.add_left_cancel_iff, Nat.add_eq_left, Nat.left_eq_add, Nat.one_ne_zero, Nat.reduceAdd, Nat.reduceLT, Nat.reduceLeDiff, Nat.reduceEqDiff, true_implies, false_implies, implies_true, Option.some.injEq, forall_eq', forall_eq, reduceCtorEq, brT, brF, br_s, i_10, i_01, ib_0_2, ib_1_2, tn_0, tn_1, Int32.le_refl, eq_self, rv_bN, rv_iM, RCM 81, RLY, lit_at hw, g_184 hw hτ hv hd, iB_t hcb, z10, z00, g1, su_16, c1, mr hρS (by omega : 43 + s < 2471), ad_2, ad_4, ad_6, ad_8, ad_10, ad_12, ad_16, ad_24, ad_27, ad_28, ad_31, ad_35, ad_43, ad_51, ad_107, ad_131, ad_311, ml_3, ml_6, ml_7, ml_60, ml_100, ml_2471, mq_12, ar_2, ar_3, ar_4, ar_5, ar_6, of_add, of_mul, on_succ, c2, g2, iB_f x, g3, iB_t u]
          exact hQ
        · rw [if_pos u] at hQ
          simp only [↓br_pos, ↓br_neg, ↓rF_I, ↓rF_L, ↓rF_R, ↓rF_N, rO_m, rB_m, ↓rI_m, wI_m, ↓rB2_m, ↓rB3_m, wB2_m, wB3_m, ↓rL_m, wL_m, ↓rQ_m, wQ_m, ↓lI_m, pI_m, pL_m, pR_m, sI_m, sBy_m, sBo_m, sL_m, sQ_m, fst_m, true_and, and_true, tg_some, ln_some, uI_1, uI_2, uL_1, uL_2, uL_3, uQ_1, uQ_2, uQ_3, rv_i, rv_l, rv_n, rv_b0, rv_b1, RMR, ne_eq, reduceCtorEq, not_false_eq_true, Option.getD_some, if_true, if_false, and_self, false_and, and_false, Nat.add_left_cancel_iff, Nat.add_eq_left, Nat.left_eq_add, Nat.one_ne_zero, Nat.reduceAdd, Nat.reduceLT, Nat.reduceLeDiff, Nat.reduceEqDiff, true_implies, false_implies, implies_true, Option.some.injEq, forall_eq', forall_eq, reduceCtorEq, brT, brF, br_s, i_10, i_01, ib_0_2, ib_1_2, tn_0, tn_1, Int32.le_refl, eq_self, rv_bN, rv_iM, RCM 81, RLY, lit_at hw, g_184 hw hτ hv hd, iB_t hcb, z10, z00, g1, su_16, c1, mr hρS (by omega : 43 + s < 2471), ad_2, ad_4, ad_6, ad_8, ad_10, ad_12, ad_16, ad_24, ad_27, ad_28, ad_31, ad_35, ad_43, ad_51, ad_107, ad_131, ad_311, ml_3, ml_6, ml_7, ml_60, ml_100, ml_2471, mq_12, ar_2, ar_3, ar_4, ar_5, ar_6, of_add, of_mul, on_succ, c2, g2, iB_f x, g3, iB_f u]
          exact hQ
    · rw [if_pos (fun q => y q.1)] at hQ
      have c2 : (0 < Int32.ofNat (ρ (43 + s))) ↔ True := iff_true_intro ((on_lt (i := 0) (by omega) (by omega)).mpr (by omega))
      simp only [↓br_pos, ↓br_neg, ↓rF_I, ↓rF_L, ↓rF_R, ↓rF_N, rO_m, rB_m, ↓rI_m, wI_m, ↓rB2_m, ↓rB3_m, wB2_m, wB3_m, ↓rL_m, wL_m, ↓rQ_m, wQ_m, ↓lI_m, pI_m, pL_m, pR_m, sI_m, sBy_m, sBo_m, sL_m, sQ_m, fst_m, true_and, and_true, tg_some, ln_some, uI_1, uI_2, uL_1, uL_2, uL_3, uQ_1, uQ_2, uQ_3, rv_i, rv_l, rv_n, rv_b0, rv_b1, RMR, ne_eq, reduceCtorEq, not_false_eq_true, Option.getD_some, if_true, if_false, and_self, false_and, and_false, Nat.add_left_cancel_iff, Nat.add_eq_left, Nat.left_eq_add, Nat.one_ne_zero, Nat.reduceAdd, Nat.reduceLT, Nat.reduceLeDiff, Nat.reduceEqDiff, true_implies, false_implies, implies_true, Option.some.injEq, forall_eq', forall_eq, reduceCtorEq, brT, brF, br_s, i_10, i_01, ib_0_2, ib_1_2, tn_0, tn_1, Int32.le_refl, eq_self, rv_bN, rv_iM, RCM 81, RLY, lit_at hw, g_184 hw hτ hv hd, iB_t hcb, z10, g1, su_16, c1, mr hρS (by omega : 43 + s < 2471), ad_2, ad_4, ad_6, ad_8, ad_10, ad_12, ad_16, ad_24, ad_27, ad_28, ad_31, ad_35, ad_43, ad_51, ad_107, ad_131, ad_311, ml_3, ml_6, ml_7, ml_60, ml_100, ml_2471, mq_12, ar_2, ar_3, ar_4, ar_5, ar_6, of_add, of_mul, on_succ, c2]
      exact hQ
theorem g_185z {w : mT} {σ : mS} {τ : Rw} {p c s : Int32} {D : Nat} {K : Int32 → Hp → Prop} (hw : lit w) (hτ : mTold σ τ) (hv : vTold τ) (ha : ¬ (bC τ p c = 1 ∧ bN s (τ 2) = 1)) (hD : 5 ≤ D) : wpI D 185 [.ref 81, .int p, .int c, .int s] (mW w σ) K ↔ K 1 (mW w σ) := by
  refine cI_of (m := 4) (fun d hd Q hQ => ?_) rfl hD
  refine b185_0 ?_
  simp only [↓br_pos, ↓br_neg, ↓rF_I, ↓rF_L, ↓rF_R, ↓rF_N, rO_m, rB_m, ↓rI_m, wI_m, ↓rB2_m, ↓rB3_m, wB2_m, wB3_m, ↓rL_m, wL_m, ↓rQ_m, wQ_m, ↓lI_m, pI_m, pL_m, pR_m, sI_m, sBy_m, sBo_m, sL_m, sQ_m, fst_m, true_and, and_true, tg_some, ln_some, uI_1, uI_2, uL_1, uL_2, uL_3, uQ_1, uQ_2, uQ_3, rv_i, rv_l, rv_n, rv_b0, rv_b1, RMR, ne_eq, reduceCtorEq, not_false_eq_true, Option.getD_some, if_true, if_false, and_self, false_and, and_false, Nat.add_left_cancel_iff, Nat.add_eq_left, Nat.left_eq_add, Nat.one_ne_zero, Nat.reduceAdd, Nat.reduceLT, Nat.reduceLeDiff, Nat.reduceEqDiff, true_implies, false_implies, implies_true, Option.some.injEq, forall_eq', forall_eq, reduceCtorEq, brT, brF, br_s, i_10, i_01, ib_0_2, ib_1_2, tn_0, tn_1, Int32.le_refl, eq_self, rv_bN, rv_iM, RCM 81, RLY, lit_at hw, g_184 hw hτ hv hd, iB_f ha, z00]
  exact hQ
theorem uI_0s {σ : mS} {T G : Nat} : frZ σ (su (uI σ 81 0 0) T G) := frZ_tr (frZ_0 (by omega)) frZ_su
theorem m_186z {w : mT} {σ : mS} {tp n : Nat} {t : Nat → Nat} {τ ρ : Rw} {bk : Nat → Rw} {has : Nat → Bool} {im : Nat → Rw} {p c s : Int32} {D : Nat} {K : Int32 → Hp → Prop} (h : mIn w σ tp t τ ρ n bk has im) (ha : ¬ (bC τ p c = 1 ∧ bN s (τ 2) = 1)) (hD : 6 ≤ D) : wpI D 186 [.ref 81, .int p, .int c, .int s] (mW w σ) K ↔ K 1 (mW w (uI σ 81 0 0)) := by
  have M := h
  obtain ⟨hw, hτ, hρ, hv, hr, hp2, htp, htb, htl, hn, hn12, hbk, him⟩ := h
  have M0 := mIn_Z M (frZ_0 (j := 0) (x := 0) (by omega))
  obtain ⟨_, hτ0, hρ0, _, _, hp20, _, htb0, _, hn0, _, hbk0, him0⟩ := M0
  have M0 := mIn_Z M (frZ_0 (j := 0) (x := 0) (by omega))
  refine cI_of (m := 5) (fun d hd Q hQ => ?_) rfl hD
  refine b186_0 ?_
  simp only [↓br_pos, ↓br_neg, ↓rF_I, ↓rF_L, ↓rF_R, ↓rF_N, rO_m, rB_m, ↓rI_m, wI_m, ↓rB2_m, ↓rB3_m, wB2_m, wB3_m, ↓rL_m, wL_m, ↓rQ_m, wQ_m, ↓lI_m, pI_m, pL_m, pR_m, sI_m, sBy_m, sBo_m, sL_m, sQ_m, fst_m, true_and, and_true, tg_some, ln_some, uI_1, uI_2, uL_1, uL_2, uL_3, uQ_1, uQ_2, uQ_3, rv_i, rv_l, rv_n, rv_b0, rv_b1, RMR, ne_eq, reduceCtorEq, not_false_eq_true, Option.getD_some, if_true, if_false, and_self, false_and, and_false, Nat.add_left_cancel_iff, Nat.add_eq_left, Nat.left_eq_add, Nat.one_ne_zero, Nat.reduceAdd, Nat.reduceLT, Nat.reduceLeDiff, Nat.reduceEqDiff, true_implies, false_implies, implies_true, Option.some.injEq, forall_eq', forall_eq, reduceCtorEq, brT, brF, br_s, i_10, i_01, ib_0_2, ib_1_2, tn_0, tn_1, Int32.le_refl, eq_self, rv_bN, rv_iM, RCM 81, RLY, lit_at hw, g_185z hw hτ0 hv ha hd]
  exact hQ
theorem m_186 {w : mT} {σ : mS} {tp n : Nat} {t : Nat → Nat} {τ ρ : Rw} {bk : Nat → Rw} {has : Nat → Bool} {im : Nat → Rw} {p c s : Nat} (h : mIn w σ tp t τ ρ n bk has im) (hp : p < τ 1) (hc : c < τ (28 + p)) (hs : s < τ 2) : ∃ σ', frA σ σ' ∧ mIn w σ' tp t τ ρ n bk has im ∧ ∀ {D : Nat} {K : Int32 → Hp → Prop}, 6 ≤ D → (wpI D 186 [.ref 81, .int (Int32.ofNat p), .int (Int32.ofNat c), .int (Int32.ofNat s)] (mW w σ) K ↔ K (Int32.ofNat (wcN τ ρ p c s)) (mW w σ')) := by
  have M := h
  obtain ⟨hw, hτ, hρ, hv, hr, hp2, htp, htb, htl, hn, hn12, hbk, him⟩ := h
  have M0 := mIn_Z M (frZ_0 (j := 0) (x := 0) (by omega))
  obtain ⟨_, hτ0, hρ0, _, _, hp20, _, htb0, _, hn0, _, hbk0, him0⟩ := M0
  have M0 := mIn_Z M (frZ_0 (j := 0) (x := 0) (by omega))
  refine ⟨su (uI σ 81 0 0) (tOn ρ p c) (gOn τ ρ p c), frZ_A uI_0s, mIn_Z M uI_0s, fun hD => cI_of (m := 5) (fun d hd Q hQ => ?_) rfl hD⟩
  refine b186_0 ?_
  simp only [↓br_pos, ↓br_neg, ↓rF_I, ↓rF_L, ↓rF_R, ↓rF_N, rO_m, rB_m, ↓rI_m, wI_m, ↓rB2_m, ↓rB3_m, wB2_m, wB3_m, ↓rL_m, wL_m, ↓rQ_m, wQ_m, ↓lI_m, pI_m, pL_m, pR_m, sI_m, sBy_m, sBo_m, sL_m, sQ_m, fst_m, true_and, and_true, tg_some, ln_some, uI_1, uI_2, uL_1, uL_2, uL_3, uQ_1, uQ_2, uQ_3, rv_i, rv_l, rv_n, rv_b0, rv_b1, RMR, ne_eq, reduceCtorEq, not_false_eq_true, Option.getD_some, if_true, if_false, and_self, false_and, and_false, Nat.add_left_cancel_iff, Nat.add_eq_left, Nat.left_eq_add, Nat.one_ne_zero, Nat.reduceAdd, Nat.reduceLT, Nat.reduceLeDiff, Nat.reduceEqDiff, true_implies, false_implies, implies_true, Option.some.injEq, forall_eq', forall_eq, reduceCtorEq, brT, brF, br_s, i_10, i_01, ib_0_2, ib_1_2, tn_0, tn_1, Int32.le_refl, eq_self, rv_bN, rv_iM, RCM 81, RLY, lit_at hw, g_185 hw hτ0 hρ0 hv hr hp hc hs hd]
  exact hQ
theorem m_188z {w : mT} {σ : mS} {tp n : Nat} {t : Nat → Nat} {τ ρ : Rw} {bk : Nat → Rw} {has : Nat → Bool} {im : Nat → Rw} {p c s : Int32} {D : Nat} {K : Int32 → Hp → Prop} (h : mIn w σ tp t τ ρ n bk has im) (ha : ¬ (bC τ p c = 1 ∧ bN s (τ 2) = 1)) (hD : 6 ≤ D) : wpI D 188 [.ref 81, .int p, .int c, .int s] (mW w σ) K ↔ K (-1) (mW w (uI σ 81 0 0)) := by
  have M := h
  obtain ⟨hw, hτ, hρ, hv, hr, hp2, htp, htb, htl, hn, hn12, hbk, him⟩ := h
  have M0 := mIn_Z M (frZ_0 (j := 0) (x := 0) (by omega))
  obtain ⟨_, hτ0, hρ0, _, _, hp20, _, htb0, _, hn0, _, hbk0, him0⟩ := M0
  have M0 := mIn_Z M (frZ_0 (j := 0) (x := 0) (by omega))
  refine cI_of (m := 5) (fun d hd Q hQ => ?_) rfl hD
  have c1 : ((1 : Int32) ≤ 0) ↔ False := by decide
  refine b188_0 ?_
  simp only [↓br_pos, ↓br_neg, ↓rF_I, ↓rF_L, ↓rF_R, ↓rF_N, rO_m, rB_m, ↓rI_m, wI_m, ↓rB2_m, ↓rB3_m, wB2_m, wB3_m, ↓rL_m, wL_m, ↓rQ_m, wQ_m, ↓lI_m, pI_m, pL_m, pR_m, sI_m, sBy_m, sBo_m, sL_m, sQ_m, fst_m, true_and, and_true, tg_some, ln_some, uI_1, uI_2, uL_1, uL_2, uL_3, uQ_1, uQ_2, uQ_3, rv_i, rv_l, rv_n, rv_b0, rv_b1, RMR, ne_eq, reduceCtorEq, not_false_eq_true, Option.getD_some, if_true, if_false, and_self, false_and, and_false, Nat.add_left_cancel_iff, Nat.add_eq_left, Nat.left_eq_add, Nat.one_ne_zero, Nat.reduceAdd, Nat.reduceLT, Nat.reduceLeDiff, Nat.reduceEqDiff, true_implies, false_implies, implies_true, Option.some.injEq, forall_eq', forall_eq, reduceCtorEq, brT, brF, br_s, i_10, i_01, ib_0_2, ib_1_2, tn_0, tn_1, Int32.le_refl, eq_self, rv_bN, rv_iM, RCM 81, RLY, lit_at hw, g_185z hw hτ0 hv ha hd, c1]
  exact hQ
theorem m_188n {w : mT} {σ : mS} {tp n : Nat} {t : Nat → Nat} {τ ρ : Rw} {bk : Nat → Rw} {has : Nat → Bool} {im : Nat → Rw} {p c s : Nat} (h : mIn w σ tp t τ ρ n bk has im) (hp : p < τ 1) (hc : c < τ (28 + p)) (hs : s < τ 2) (hy0 : wcN τ ρ p c s ≠ 0) : ∃ σ', frA σ σ' ∧ mIn w σ' tp t τ ρ n bk has im ∧ ∀ {D : Nat} {K : Int32 → Hp → Prop}, 6 ≤ D → (wpI D 188 [.ref 81, .int (Int32.ofNat p), .int (Int32.ofNat c), .int (Int32.ofNat s)] (mW w σ) K ↔ K (-1) (mW w σ')) := by
  have M := h
  obtain ⟨hw, hτ, hρ, hv, hr, hp2, htp, htb, htl, hn, hn12, hbk, him⟩ := h
  have M0 := mIn_Z M (frZ_0 (j := 0) (x := 0) (by omega))
  obtain ⟨_, hτ0, hρ0, _, _, hp20, _, htb0, _, hn0, _, hbk0, him0⟩ := M0
  have M0 := mIn_Z M (frZ_0 (j := 0) (x := 0) (by omega))
  refine ⟨su (uI σ 81 0 0) (tOn ρ p c) (gOn τ ρ p c), frZ_A uI_0s, mIn_Z M uI_0s, fun hD => cI_of (m := 5) (fun d hd Q hQ => ?_) rfl hD⟩
  have lt := wc_lt (τ := τ) (ρ := ρ) (p := p) (c := c) (s := s)
  have c1 : (Int32.ofNat (wcN τ ρ p c s) ≤ 0) ↔ False := iff_false_intro (fun q => hy0 ((of_le0 (by omega)).mp q))
  refine b188_0 ?_
  simp only [↓br_pos, ↓br_neg, ↓rF_I, ↓rF_L, ↓rF_R, ↓rF_N, rO_m, rB_m, ↓rI_m, wI_m, ↓rB2_m, ↓rB3_m, wB2_m, wB3_m, ↓rL_m, wL_m, ↓rQ_m, wQ_m, ↓lI_m, pI_m, pL_m, pR_m, sI_m, sBy_m, sBo_m, sL_m, sQ_m, fst_m, true_and, and_true, tg_some, ln_some, uI_1, uI_2, uL_1, uL_2, uL_3, uQ_1, uQ_2, uQ_3, rv_i, rv_l, rv_n, rv_b0, rv_b1, RMR, ne_eq, reduceCtorEq, not_false_eq_true, Option.getD_some, if_true, if_false, and_self, false_and, and_false, Nat.add_left_cancel_iff, Nat.add_eq_left, Nat.left_eq_add, Nat.one_ne_zero, Nat.reduceAdd, Nat.reduceLT, Nat.reduceLeDiff, Nat.reduceEqDiff, true_implies, false_implies, implies_true, Option.some.injEq, forall_eq', forall_eq, reduceCtorEq, brT, brF, br_s, i_10, i_01, ib_0_2, ib_1_2, tn_0, tn_1, Int32.le_refl, eq_self, rv_bN, rv_iM, RCM 81, RLY, lit_at hw, g_185 hw hτ0 hρ0 hv hr hp hc hs hd, c1]
  exact hQ
theorem m_188 {w : mT} {σ : mS} {tp n : Nat} {t : Nat → Nat} {τ ρ : Rw} {bk : Nat → Rw} {has : Nat → Bool} {im : Nat → Rw} {p c s : Nat} (h : mIn w σ tp t τ ρ n bk has im) (hp : p < τ 1) (hc : c < τ (28 + p)) (hs : s < τ 2) (hy0 : wcN τ ρ p c s = 0) : ∃ σ', frA σ σ' ∧ mIn w σ' tp t τ (sCutA τ ρ p c s) (nPh n) (bkPh n bk ρ) has im ∧ ∀ {D : Nat} {K : Int32 → Hp → Prop}, 6 ≤ D → (wpI D 188 [.ref 81, .int (Int32.ofNat p), .int (Int32.ofNat c), .int (Int32.ofNat s)] (mW w σ) K ↔ K (Int32.ofNat (tOn ρ p c)) (mW w σ')) := by
  have M := h
  obtain ⟨hw, hτ, hρ, hv, hr, hp2, htp, htb, htl, hn, hn12, hbk, him⟩ := h
  have M0 := mIn_Z M (frZ_0 (j := 0) (x := 0) (by omega))
  obtain ⟨_, hτ0, hρ0, _, _, hp20, _, htb0, _, hn0, _, hbk0, him0⟩ := M0
  have M0 := mIn_Z M (frZ_0 (j := 0) (x := 0) (by omega))
  have v1 := hv.2.1
  have v3 := (hv.2.2.2.2.2.1 p hp).2
  have hs1 := onP_lt hv (vR_on hr (by omega : 1 < 2))
  have M0' := mIn_Z (σ' := su (uI σ 81 0 0) (tOn ρ p c) (gOn τ ρ p c)) M uI_0s
  obtain ⟨σ1, f1, M1, k1⟩ := k_177 M0'
  have hρ1 := M1.2.2.1
  have hτ1 := M1.2.1
  have r2 : vRow τ (rSet (sGo ρ 1 p c) 7 0) := vRow_s hv (vRow_go hv hr (by omega) hp hc) (by omega)
  have eD : ∀ j, j < 2471 → rSet (sGo ρ 1 p c) 7 0 j = rSet (rSet (rSet ρ 5 (ρ 5 + if onAtD ρ 1 p then dist (cellAt ρ 1) c else 10)) (2 + 1) (100 * p + c + 1)) 7 0 j := fun j _ => rfl
  have hρ2 := mR_e (mR_w (j := 7) (x := 0) (mR_w (j := 2 + 1) (x := 100 * p + c + 1) (mR_w (j := 5) (x := ρ 5 + if onAtD ρ 1 p then dist (cellAt ρ 1) c else 10) hρ1))) eD
  have hτ2 : mTold (uI (uI (uI σ1 85 5 (Int32.ofNat (ρ 5 + if onAtD ρ 1 p then dist (cellAt ρ 1) c else 10))) 85 (2 + 1) (Int32.ofNat (100 * p + c + 1))) 85 7 0) τ := mT_c hτ1 (by rw [uI_o (by omega), uI_o (by omega), uI_o (by omega)])
  obtain ⟨σ3, T, G, f3, r3, e3⟩ := o_187 (s := s) hw hτ2 hρ2 hv r2 (by omega : p < 3) (by omega : c < 12) hs
  have et : tOn (rSet (sGo ρ 1 p c) 7 0) p c = tOn ρ p c := tOn_c (by rw [rS_ne (by omega)]; unfold sGo; rw [rS_ne (by omega), rS_ne (by omega)]) (fun k _ => by rw [rS_ne (by unfold li; omega)]; unfold sGo; rw [rS_ne (by unfold li; omega), rS_ne (by unfold li; omega)])
  rw [et] at e3
  have f4 : frR 85 86 σ1 (uI (uI (uI σ1 85 5 (Int32.ofNat (ρ 5 + if onAtD ρ 1 p then dist (cellAt ρ 1) c else 10))) 85 (2 + 1) (Int32.ofNat (100 * p + c + 1))) 85 7 0) := frR_tr (frR_I (by omega)) (frR_tr (frR_I (by omega)) (frR_I (by omega)))
  have M4 := mIn_row M1 f4 hρ2 r2
  have M5 := mIn_Z (σ' := su (uI (uI (uI σ1 85 5 (Int32.ofNat (ρ 5 + if onAtD ρ 1 p then dist (cellAt ρ 1) c else 10))) 85 (2 + 1) (Int32.ofNat (100 * p + c + 1))) 85 7 0) T G) M4 frZ_su
  refine ⟨σ3, frA_tr (frZ_A uI_0s) (frA_tr f1 (frA_tr (frA_R f4 (by omega)) (frA_tr (frZ_A frZ_su) (frA_R f3 (by omega))))), mIn_row M5 f3 r3 (vRow_move hv r2 (by omega) (by omega) hs), fun hD => cI_of (m := 5) (fun d hd Q hQ => ?_) rfl hD⟩
  have hd1 : 1 ≤ d := by omega
  have hd2 : 2 ≤ d := by omega
  have hd3 : 3 ≤ d := by omega
  have lt := wc_lt (τ := τ) (ρ := ρ) (p := p) (c := c) (s := s)
  have c1 : (Int32.ofNat (wcN τ ρ p c s) ≤ 0) ↔ True := iff_true_intro ((of_le0 (by omega)).mpr hy0)
  have g5 := fun {K : Int32 → Hp → Prop} => g_175 (K := K) (σ := σ1) (m := 1) (x := 1) (p := p) (c := c) hw hρ1 rfl (by omega) hs1 (by omega) (by omega) hd2
  have g6 := fun {y : Int32} {K : Hp → Prop} => g_176 (K := K) (σ := uI σ1 85 5 y) (m := 1) (x := 1) (p := p) (c := c) hw rfl (by omega) hd1
  refine b188_0 ?_
  simp only [↓br_pos, ↓br_neg, ↓rF_I, ↓rF_L, ↓rF_R, ↓rF_N, rO_m, rB_m, ↓rI_m, wI_m, ↓rB2_m, ↓rB3_m, wB2_m, wB3_m, ↓rL_m, wL_m, ↓rQ_m, wQ_m, ↓lI_m, pI_m, pL_m, pR_m, sI_m, sBy_m, sBo_m, sL_m, sQ_m, fst_m, true_and, and_true, tg_some, ln_some, uI_1, uI_2, uL_1, uL_2, uL_3, uQ_1, uQ_2, uQ_3, rv_i, rv_l, rv_n, rv_b0, rv_b1, RMR, ne_eq, reduceCtorEq, not_false_eq_true, Option.getD_some, if_true, if_false, and_self, false_and, and_false, Nat.add_left_cancel_iff, Nat.add_eq_left, Nat.left_eq_add, Nat.one_ne_zero, Nat.reduceAdd, Nat.reduceLT, Nat.reduceLeDiff, Nat.reduceEqDiff, true_implies, false_implies, implies_true, Option.some.injEq, forall_eq', forall_eq, reduceCtorEq, brT, brF, br_s, i_10, i_01, ib_0_2, ib_1_2, tn_0, tn_1, Int32.le_refl, eq_self, rv_bN, rv_iM, RCM 81, RLY, lit_at hw, g_185 hw hτ0 hρ0 hv hr hp hc hs hd, c1, k1 hd2, mr_5l hρ1, g5, g6, inB_2471_7, tn7, ad_2, ad_4, ad_6, ad_8, ad_10, ad_12, ad_16, ad_24, ad_27, ad_28, ad_31, ad_35, ad_43, ad_51, ad_107, ad_131, ad_311, ml_3, ml_6, ml_7, ml_60, ml_100, ml_2471, mq_12, ar_2, ar_3, ar_4, ar_5, ar_6, of_add, of_mul, on_succ]
  exact (e3 hd3).mpr hQ
theorem lg0n {a b : Nat} (ha : a < 9223372036854775808) (hb : b < 9223372036854775808) : (0 < lg_cmp (Int64.ofNat a) (Int64.ofNat b)) ↔ b < a := by
  rw [← Int32.not_le, lgq ha hb, Nat.not_le]
theorem g_190 {w : mT} {σ : mS} {τ : Rw} {s T O : Nat} {D : Nat} {K : Int32 → Hp → Prop} (hw : lit w) (hτ : mTold σ τ) (hv : vTold τ) (hs : s < τ 2) (hT : T ≤ 2000000) (hO : O < 2147483648) (hD : 2 ≤ D) : wpI D 190 [.ref 81, .int (Int32.ofNat s), .int (Int32.ofNat T), .int (Int32.ofNat O)] (mW w σ) K ↔ K (iB (wiP τ s T O)) (mW w σ) := by
  refine cI_of (m := 1) (fun d hd Q hQ => ?_) rfl hD
  have v2 := hv.2.2.1
  obtain ⟨_, v3, v4, _⟩ := hv.2.2.2.2.2.2 s hs
  have g1 := fun {K : Int32 → Hp → Prop} => g_155 (K := K) (s := s) (x := 1) (a := 1) hw hτ rfl (by omega) hd
  have g2 := fun {K : Int32 → Hp → Prop} => g_155 (K := K) (s := s) (x := 2) (a := 2) hw hτ rfl (by omega) hd
  have m1 : τ (31 + 6 * s + 1) * T ≤ 999 * 2000000 := Nat.mul_le_mul v3 hT
  have m2 : τ (31 + 6 * s + 2) * T ≤ 999 * 2000000 := Nat.mul_le_mul v4 hT
  have c1 := lg0n (a := τ (31 + 6 * s + 1) * T) (b := O) (by omega) (by omega)
  have c2 := lg0n (a := O) (b := τ (31 + 6 * s + 2) * T) (by omega) (by omega)
  refine b190_0 ?_
  by_cases z : τ (31 + 6 * s + 1) * T ≤ O
  · have c1' := iff_false_intro (fun q => absurd (c1.mp q) (by omega))
    by_cases y : O ≤ τ (31 + 6 * s + 2) * T
    · have c2' := iff_false_intro (fun q => absurd (c2.mp q) (by omega))
      rw [iB_t ⟨z, y⟩] at hQ
      simp only [↓br_pos, ↓br_neg, ↓rF_I, ↓rF_L, ↓rF_R, ↓rF_N, rO_m, rB_m, ↓rI_m, wI_m, ↓rB2_m, ↓rB3_m, wB2_m, wB3_m, ↓rL_m, wL_m, ↓rQ_m, wQ_m, ↓lI_m, pI_m, pL_m, pR_m, sI_m, sBy_m, sBo_m, sL_m, sQ_m, fst_m, true_and, and_true, tg_some, ln_some, uI_1, uI_2, uL_1, uL_2, uL_3, uQ_1, uQ_2, uQ_3, rv_i, rv_l, rv_n, rv_b0, rv_b1, RMR, ne_eq, reduceCtorEq, not_false_eq_true, Option.getD_some, if_true, if_false, and_self, false_and, and_false, Nat.add_left_cancel_iff, Nat.add_eq_left, Nat.left_eq_add, Nat.one_ne_zero, Nat.reduceAdd, Nat.reduceLT, Nat.reduceLeDiff, Nat.reduceEqDiff, true_implies, false_implies, implies_true, Option.some.injEq, forall_eq', forall_eq, reduceCtorEq, brT, brF, br_s, i_10, i_01, ib_0_2, ib_1_2, tn_0, tn_1, Int32.le_refl, eq_self, rv_bN, rv_iM, RCM 81, RLY, lit_at hw, g1, g2, i64_of (by omega : τ (31 + 6 * s + 1) < 2147483648), i64_of (by omega : τ (31 + 6 * s + 2) < 2147483648), i64_of (by omega : T < 2147483648), i64_of hO, ol_mul, c1', c2']
      exact hQ
    · have c2' := iff_true_intro (c2.mpr (by omega))
      rw [iB_f (fun q => y q.2)] at hQ
      simp only [↓br_pos, ↓br_neg, ↓rF_I, ↓rF_L, ↓rF_R, ↓rF_N, rO_m, rB_m, ↓rI_m, wI_m, ↓rB2_m, ↓rB3_m, wB2_m, wB3_m, ↓rL_m, wL_m, ↓rQ_m, wQ_m, ↓lI_m, pI_m, pL_m, pR_m, sI_m, sBy_m, sBo_m, sL_m, sQ_m, fst_m, true_and, and_true, tg_some, ln_some, uI_1, uI_2, uL_1, uL_2, uL_3, uQ_1, uQ_2, uQ_3, rv_i, rv_l, rv_n, rv_b0, rv_b1, RMR, ne_eq, reduceCtorEq, not_false_eq_true, Option.getD_some, if_true, if_false, and_self, false_and, and_false, Nat.add_left_cancel_iff, Nat.add_eq_left, Nat.left_eq_add, Nat.one_ne_zero, Nat.reduceAdd, Nat.reduceLT, Nat.reduceLeDiff, Nat.reduceEqDiff, true_implies, false_implies, implies_true, Option.some.injEq, forall_eq', forall_eq, reduceCtorEq, brT, brF, br_s, i_10, i_01, ib_0_2, ib_1_2, tn_0, tn_1, Int32.le_refl, eq_self, rv_bN, rv_iM, RCM 81, RLY, lit_at hw, g1, g2, i64_of (by omega : τ (31 + 6 * s + 1) < 2147483648), i64_of (by omega : τ (31 + 6 * s + 2) < 2147483648), i64_of (by omega : T < 2147483648), i64_of hO, ol_mul, c1', c2']
      exact hQ
  · have c1' := iff_true_intro (c1.mpr (by omega))
    rw [iB_f (fun q => z q.1)] at hQ
    simp only [↓br_pos, ↓br_neg, ↓rF_I, ↓rF_L, ↓rF_R, ↓rF_N, rO_m, rB_m, ↓rI_m, wI_m, ↓rB2_m, ↓rB3_m, wB2_m, wB3_m, ↓rL_m, wL_m, ↓rQ_m, wQ_m, ↓lI_m, pI_m, pL_m, pR_m, sI_m, sBy_m, sBo_m, sL_m, sQ_m, fst_m, true_and, and_true, tg_some, ln_some, uI_1, uI_2, uL_1, uL_2, uL_3, uQ_1, uQ_2, uQ_3, rv_i, rv_l, rv_n, rv_b0, rv_b1, RMR, ne_eq, reduceCtorEq, not_false_eq_true, Option.getD_some, if_true, if_false, and_self, false_and, and_false, Nat.add_left_cancel_iff, Nat.add_eq_left, Nat.left_eq_add, Nat.one_ne_zero, Nat.reduceAdd, Nat.reduceLT, Nat.reduceLeDiff, Nat.reduceEqDiff, true_implies, false_implies, implies_true, Option.some.injEq, forall_eq', forall_eq, reduceCtorEq, brT, brF, br_s, i_10, i_01, ib_0_2, ib_1_2, tn_0, tn_1, Int32.le_refl, eq_self, rv_bN, rv_iM, RCM 81, RLY, lit_at hw, g1, i64_of (by omega : τ (31 + 6 * s + 1) < 2147483648), i64_of (by omega : T < 2147483648), i64_of hO, ol_mul, c1']
    exact hQ
theorem m_191z {w : mT} {σ : mS} {tp n : Nat} {t : Nat → Nat} {τ ρ : Rw} {bk : Nat → Rw} {has : Nat → Bool} {im : Nat → Rw} {a : Int32} {D : Nat} {K : Int32 → Hp → Prop} (h : mIn w σ tp t τ ρ n bk has im) (ha : ¬ (bN a (τ 2) = 1 ∧ saP τ ρ a.toNatClampNeg)) (hD : 3 ≤ D) : wpI D 191 [.ref 81, .int a] (mW w σ) K ↔ K (-1) (mW w (uI σ 81 0 0)) := by
  have M := h
  obtain ⟨hw, hτ, hρ, hv, hr, hp2, htp, htb, htl, hn, hn12, hbk, him⟩ := h
  have M0 := mIn_Z M (frZ_0 (j := 0) (x := 0) (by omega))
  obtain ⟨_, hτ0, hρ0, _, _, hp20, _, htb0, _, hn0, _, hbk0, him0⟩ := M0
  have M0 := mIn_Z M (frZ_0 (j := 0) (x := 0) (by omega))
  refine cI_of (m := 2) (fun d hd Q hQ => ?_) rfl hD
  have v2 := hv.2.2.1
  refine b191_0 ?_
  by_cases z : bN a (τ 2) = 1
  · obtain ⟨s, rfl, hs⟩ := bN_ex z
    rw [on_nat (by omega)] at ha
    have rs := vR_sa hr s hs
    have hh := hold_lt hr hs
    have ho := vR_ore hr s hs
    by_cases y : ρ (43 + s) = 0
    · have c2 : (0 < Int32.ofNat (ρ (43 + s))) ↔ False := iff_false_intro (fun q => absurd ((on_lt (i := 0) (by omega) (by omega)).mp q) (by omega))
      by_cases x : τ (31 + 6 * s) ≤ ρ (27 + s)
      · have u : ¬ wiP τ s (ρ (27 + s)) (ρ (35 + s)) := fun q => ha ⟨z, y, fun r => by have := r.2; omega, q⟩
        simp only [↓br_pos, ↓br_neg, ↓rF_I, ↓rF_L, ↓rF_R, ↓rF_N, rO_m, rB_m, ↓rI_m, wI_m, ↓rB2_m, ↓rB3_m, wB2_m, wB3_m, ↓rL_m, wL_m, ↓rQ_m, wQ_m, ↓lI_m, pI_m, pL_m, pR_m, sI_m, sBy_m, sBo_m, sL_m, sQ_m, fst_m, true_and, and_true, tg_some, ln_some, uI_1, uI_2, uL_1, uL_2, uL_3, uQ_1, uQ_2, uQ_3, rv_i, rv_l, rv_n, rv_b0, rv_b1, RMR, ne_eq, reduceCtorEq, not_false_eq_true, Option.getD_some, if_true, if_false, and_self, false_and, and_false, Nat.add_left_cancel_iff, Nat.add_eq_left, Nat.left_eq_add, Nat.one_ne_zero, Nat.reduceAdd, Nat.reduceLT, Nat.reduceLeDiff, Nat.reduceEqDiff, true_implies, false_implies, implies_true, Option.some.injEq, forall_eq', forall_eq, reduceCtorEq, brT, brF, br_s, i_10, i_01, ib_0_2, ib_1_2, tn_0, tn_1, Int32.le_refl, eq_self, rv_bN, rv_iM, RCM 81, RLY, lit_at hw, g_153 hw hτ0 hv hd, z, z10, z00, mr hρ (by omega : 43 + s < 2471), ad_2, ad_4, ad_6, ad_8, ad_10, ad_12, ad_16, ad_24, ad_27, ad_28, ad_31, ad_35, ad_43, ad_51, ad_107, ad_131, ad_311, ml_3, ml_6, ml_7, ml_60, ml_100, ml_2471, mq_12, ar_2, ar_3, ar_4, ar_5, ar_6, of_add, of_mul, on_succ, c2, g_159 hw hτ0 hρ0 hv hs hh hd, iB_t x, mr hρ (by omega : 27 + s < 2471), mr hρ (by omega : 35 + s < 2471), g_190 hw hτ0 hv hs (by omega : ρ (27 + s) ≤ 2000000) (by omega : ρ (35 + s) < 2147483648) hd, iB_f u]
        exact hQ
      · simp only [↓br_pos, ↓br_neg, ↓rF_I, ↓rF_L, ↓rF_R, ↓rF_N, rO_m, rB_m, ↓rI_m, wI_m, ↓rB2_m, ↓rB3_m, wB2_m, wB3_m, ↓rL_m, wL_m, ↓rQ_m, wQ_m, ↓lI_m, pI_m, pL_m, pR_m, sI_m, sBy_m, sBo_m, sL_m, sQ_m, fst_m, true_and, and_true, tg_some, ln_some, uI_1, uI_2, uL_1, uL_2, uL_3, uQ_1, uQ_2, uQ_3, rv_i, rv_l, rv_n, rv_b0, rv_b1, RMR, ne_eq, reduceCtorEq, not_false_eq_true, Option.getD_some, if_true, if_false, and_self, false_and, and_false, Nat.add_left_cancel_iff, Nat.add_eq_left, Nat.left_eq_add, Nat.one_ne_zero, Nat.reduceAdd, Nat.reduceLT, Nat.reduceLeDiff, Nat.reduceEqDiff, true_implies, false_implies, implies_true, Option.some.injEq, forall_eq', forall_eq, reduceCtorEq, brT, brF, br_s, i_10, i_01, ib_0_2, ib_1_2, tn_0, tn_1, Int32.le_refl, eq_self, rv_bN, rv_iM, RCM 81, RLY, lit_at hw, g_153 hw hτ0 hv hd, z, z10, z00, mr hρ (by omega : 43 + s < 2471), ad_2, ad_4, ad_6, ad_8, ad_10, ad_12, ad_16, ad_24, ad_27, ad_28, ad_31, ad_35, ad_43, ad_51, ad_107, ad_131, ad_311, ml_3, ml_6, ml_7, ml_60, ml_100, ml_2471, mq_12, ar_2, ar_3, ar_4, ar_5, ar_6, of_add, of_mul, on_succ, c2, g_159 hw hτ0 hρ0 hv hs hh hd, iB_f x]
        exact hQ
    · have c2 : (0 < Int32.ofNat (ρ (43 + s))) ↔ True := iff_true_intro ((on_lt (i := 0) (by omega) (by omega)).mpr (by omega))
      simp only [↓br_pos, ↓br_neg, ↓rF_I, ↓rF_L, ↓rF_R, ↓rF_N, rO_m, rB_m, ↓rI_m, wI_m, ↓rB2_m, ↓rB3_m, wB2_m, wB3_m, ↓rL_m, wL_m, ↓rQ_m, wQ_m, ↓lI_m, pI_m, pL_m, pR_m, sI_m, sBy_m, sBo_m, sL_m, sQ_m, fst_m, true_and, and_true, tg_some, ln_some, uI_1, uI_2, uL_1, uL_2, uL_3, uQ_1, uQ_2, uQ_3, rv_i, rv_l, rv_n, rv_b0, rv_b1, RMR, ne_eq, reduceCtorEq, not_false_eq_true, Option.getD_some, if_true, if_false, and_self, false_and, and_false, Nat.add_left_cancel_iff, Nat.add_eq_left, Nat.left_eq_add, Nat.one_ne_zero, Nat.reduceAdd, Nat.reduceLT, Nat.reduceLeDiff, Nat.reduceEqDiff, true_implies, false_implies, implies_true, Option.some.injEq, forall_eq', forall_eq, reduceCtorEq, brT, brF, br_s, i_10, i_01, ib_0_2, ib_1_2, tn_0, tn_1, Int32.le_refl, eq_self, rv_bN, rv_iM, RCM 81, RLY, lit_at hw, g_153 hw hτ0 hv hd, z, z10, mr hρ (by omega : 43 + s < 2471), ad_2, ad_4, ad_6, ad_8, ad_10, ad_12, ad_16, ad_24, ad_27, ad_28, ad_31, ad_35, ad_43, ad_51, ad_107, ad_131, ad_311, ml_3, ml_6, ml_7, ml_60, ml_100, ml_2471, mq_12, ar_2, ar_3, ar_4, ar_5, ar_6, of_add, of_mul, on_succ, c2]
      exact hQ
  · have z' : bN a (τ 2) = 0 := bN_01.resolve_right z
    simp only [↓br_pos, ↓br_neg, ↓rF_I, ↓rF_L, ↓rF_R, ↓rF_N, rO_m, rB_m, ↓rI_m, wI_m, ↓rB2_m, ↓rB3_m, wB2_m, wB3_m, ↓rL_m, wL_m, ↓rQ_m, wQ_m, ↓lI_m, pI_m, pL_m, pR_m, sI_m, sBy_m, sBo_m, sL_m, sQ_m, fst_m, true_and, and_true, tg_some, ln_some, uI_1, uI_2, uL_1, uL_2, uL_3, uQ_1, uQ_2, uQ_3, rv_i, rv_l, rv_n, rv_b0, rv_b1, RMR, ne_eq, reduceCtorEq, not_false_eq_true, Option.getD_some, if_true, if_false, and_self, false_and, and_false, Nat.add_left_cancel_iff, Nat.add_eq_left, Nat.left_eq_add, Nat.one_ne_zero, Nat.reduceAdd, Nat.reduceLT, Nat.reduceLeDiff, Nat.reduceEqDiff, true_implies, false_implies, implies_true, Option.some.injEq, forall_eq', forall_eq, reduceCtorEq, brT, brF, br_s, i_10, i_01, ib_0_2, ib_1_2, tn_0, tn_1, Int32.le_refl, eq_self, rv_bN, rv_iM, RCM 81, RLY, lit_at hw, g_153 hw hτ0 hv hd, z', z00]
    exact hQ
theorem m_191 {w : mT} {σ : mS} {tp n : Nat} {t : Nat → Nat} {τ ρ : Rw} {bk : Nat → Rw} {has : Nat → Bool} {im : Nat → Rw} {s : Nat} (h : mIn w σ tp t τ ρ n bk has im) (hs : s < τ 2) (hy : saP τ ρ s) : ∃ σ', frA σ σ' ∧ mIn w σ' tp t τ (rSet ρ (43 + s) (ρ 0 + 1)) (nPh n) (bkPh n bk ρ) has im ∧ ∀ {D : Nat} {K : Int32 → Hp → Prop}, 3 ≤ D → (wpI D 191 [.ref 81, .int (Int32.ofNat s)] (mW w σ) K ↔ K (Int32.ofNat (lateD τ (rSet ρ (43 + s) (ρ 0 + 1)) s)) (mW w σ')) := by
  have M := h
  obtain ⟨hw, hτ, hρ, hv, hr, hp2, htp, htb, htl, hn, hn12, hbk, him⟩ := h
  have M0 := mIn_Z M (frZ_0 (j := 0) (x := 0) (by omega))
  obtain ⟨_, hτ0, hρ0, _, _, hp20, _, htb0, _, hn0, _, hbk0, him0⟩ := M0
  have M0 := mIn_Z M (frZ_0 (j := 0) (x := 0) (by omega))
  obtain ⟨σ1, f1, M1, k1⟩ := k_177 M0
  have hρ1 := M1.2.2.1
  have hτ1 := M1.2.1
  have F1 := frA_tr (frA_I (σ := σ) (a := 81) (j := 0) (x := 0) (by omega)) f1
  have v2 := hv.2.2.1
  have v0 := vR_day hr
  have rs := vR_sa hr s hs
  have hh := hold_lt hr hs
  have ho := vR_ore hr s hs
  have vr : vRow τ (rSet ρ (43 + s) (ρ 0 + 1)) := vRow_sa hv hr hs (by omega)
  have hρ2 := mR_w (j := 43 + s) (x := ρ 0 + 1) hρ1
  have hτ2 : mTold (uI σ1 85 (43 + s) (Int32.ofNat (ρ 0 + 1))) τ := mT_c hτ1 (uI_o (by omega))
  refine ⟨uI σ1 85 (43 + s) (Int32.ofNat (ρ 0 + 1)), frA_tr F1 (frA_I (by omega)), mIn_row M1 (frR_I (by omega)) hρ2 vr, fun hD => cI_of (m := 2) (fun d hd Q hQ => ?_) rfl hD⟩
  obtain ⟨y1, y2, y3⟩ := hy
  have z := bN_on hs (by omega)
  have x : τ (31 + 6 * s) ≤ ρ (27 + s) := by
    apply Decidable.byContradiction
    intro q
    exact y2 ⟨y1, by omega⟩
  have c2 : (0 < Int32.ofNat (ρ (43 + s))) ↔ False := iff_false_intro (fun q => absurd ((on_lt (i := 0) (by omega) (by omega)).mp q) (by omega))
  refine b191_0 ?_
  simp only [↓br_pos, ↓br_neg, ↓rF_I, ↓rF_L, ↓rF_R, ↓rF_N, rO_m, rB_m, ↓rI_m, wI_m, ↓rB2_m, ↓rB3_m, wB2_m, wB3_m, ↓rL_m, wL_m, ↓rQ_m, wQ_m, ↓lI_m, pI_m, pL_m, pR_m, sI_m, sBy_m, sBo_m, sL_m, sQ_m, fst_m, true_and, and_true, tg_some, ln_some, uI_1, uI_2, uL_1, uL_2, uL_3, uQ_1, uQ_2, uQ_3, rv_i, rv_l, rv_n, rv_b0, rv_b1, RMR, ne_eq, reduceCtorEq, not_false_eq_true, Option.getD_some, if_true, if_false, and_self, false_and, and_false, Nat.add_left_cancel_iff, Nat.add_eq_left, Nat.left_eq_add, Nat.one_ne_zero, Nat.reduceAdd, Nat.reduceLT, Nat.reduceLeDiff, Nat.reduceEqDiff, true_implies, false_implies, implies_true, Option.some.injEq, forall_eq', forall_eq, reduceCtorEq, brT, brF, br_s, i_10, i_01, ib_0_2, ib_1_2, tn_0, tn_1, Int32.le_refl, eq_self, rv_bN, rv_iM, RCM 81, RLY, lit_at hw, g_153 hw hτ0 hv hd, z, z10, z00, mr hρ (by omega : 43 + s < 2471), ad_2, ad_4, ad_6, ad_8, ad_10, ad_12, ad_16, ad_24, ad_27, ad_28, ad_31, ad_35, ad_43, ad_51, ad_107, ad_131, ad_311, ml_3, ml_6, ml_7, ml_60, ml_100, ml_2471, mq_12, ar_2, ar_3, ar_4, ar_5, ar_6, of_add, of_mul, on_succ, c2, g_159 hw hτ0 hρ0 hv hs hh hd, iB_t x, mr hρ (by omega : 27 + s < 2471), mr hρ (by omega : 35 + s < 2471), g_190 hw hτ0 hv hs (by omega : ρ (27 + s) ≤ 2000000) (by omega : ρ (35 + s) < 2147483648) hd, iB_t y3, k1 hd, mr_0l hρ1, ix (by omega : 43 + s < 2471) (by omega), g_160 hw hτ2 hρ2 hv vr hs hd]
  exact hQ
end
section
/-! the model: a machine's step -/
def shK (R : Rw) (b e n : Nat) : Rw := fun j => if b ≤ j ∧ j < b + n then R (j + e) else R j
theorem shK_s {R : Rw} {b e n : Nat} (j : Nat) : rSet (shK R b e n) (b + n) (R (b + e + n)) j = shK R b e (n + 1) j := by
  unfold shK
  rw [rSet_1]
  by_cases c : j = b + n
  · rw [if_pos c, if_pos (by omega), c, show b + n + e = b + e + n by omega]
  · rw [if_neg c]
    by_cases y : b ≤ j ∧ j < b + n
    · rw [if_pos y, if_pos (by omega)]
    · rw [if_neg y, if_neg (by omega)]
theorem shK_e {R : Rw} {b e n : Nat} : shK R b e n (b + e + n) = R (b + e + n) ∨ e = 0 := by
  by_cases z : e = 0
  · exact Or.inr z
  · exact Or.inl (if_neg (by omega))
theorem lp_196 {w : mT} {R : Rw} {m e b N : Nat} (hw : lit w) (hm : m < 2) (he : 0 < e) (hb : b + e + N ≤ 2471) (hb2 : 12 ≤ b) (hN : N = e * R (10 + m)) : ∀ (r i : Nat) (σ : mS), i + r = N → mRow σ 85 0 (shK R b e i) → ∃ σ', frR 85 86 σ σ' ∧ mRow σ' 85 0 (rSet (shK R b e N) (6 + m) 0) ∧ ∀ {Q : Option (Option Value) → Hp → Prop} {d : Nat}, Q (some none) (mW w σ') → Wp 196 39 [.ref 81, .int (Int32.ofNat m), .int (Int32.ofNat e), .int (Int32.ofNat b), .int (Int32.ofNat i)] [] (mW w σ) Q d := by
  have eM : ∀ i, shK R b e i (10 + m) = R (10 + m) := fun i => if_neg (by omega)
  intro r
  induction r with
  | zero =>
    intro i σ hi hρ
    have hi' : i = N := by omega
    subst hi'
    have m1 := mr hρ (by omega : 10 + m < 2471)
    rw [eM] at m1
    refine ⟨uI σ 85 (6 + m) 0, frR_I (by omega), mR_w (x := 0) hρ, fun hQ => ?_⟩
    refine b196_39 ?_
    simp only [↓br_pos, ↓br_neg, ↓rF_I, ↓rF_L, ↓rF_R, ↓rF_N, rO_m, rB_m, ↓rI_m, wI_m, ↓rB2_m, ↓rB3_m, wB2_m, wB3_m, ↓rL_m, wL_m, ↓rQ_m, wQ_m, ↓lI_m, pI_m, pL_m, pR_m, sI_m, sBy_m, sBo_m, sL_m, sQ_m, fst_m, true_and, and_true, tg_some, ln_some, uI_1, uI_2, uL_1, uL_2, uL_3, uQ_1, uQ_2, uQ_3, rv_i, rv_l, rv_n, rv_b0, rv_b1, RMR, ne_eq, reduceCtorEq, not_false_eq_true, Option.getD_some, if_true, if_false, and_self, false_and, and_false, Nat.add_left_cancel_iff, Nat.add_eq_left, Nat.left_eq_add, Nat.one_ne_zero, Nat.reduceAdd, Nat.reduceLT, Nat.reduceLeDiff, Nat.reduceEqDiff, true_implies, false_implies, implies_true, Option.some.injEq, forall_eq', forall_eq, reduceCtorEq, brT, brF, br_s, i_10, i_01, ib_0_2, ib_1_2, tn_0, tn_1, Int32.le_refl, eq_self, rv_bN, rv_iM, RCM 81, RLY, lit_at hw, ad_2, ad_4, ad_6, ad_8, ad_10, ad_12, ad_16, ad_24, ad_27, ad_28, ad_31, ad_35, ad_43, ad_51, ad_107, ad_131, ad_311, ml_3, ml_6, ml_7, ml_60, ml_100, ml_2471, mq_12, ar_2, ar_3, ar_4, ar_5, ar_6, of_add, of_mul, on_succ, m1, ← hN, Int32.le_refl, ix (by omega : 6 + m < 2471) (by omega)]
    exact hQ
  | succ r ih =>
    intro i σ hi hρ
    have m1 := mr hρ (by omega : 10 + m < 2471)
    rw [eM] at m1
    have l1 : (Int32.ofNat N ≤ Int32.ofNat i) ↔ False := iff_false_intro (fun q => absurd ((on_le (by omega) (by omega)).mp q) (by omega))
    have m2 := mr hρ (by omega : b + e + i < 2471)
    rw [shK_e.resolve_right (by omega)] at m2
    obtain ⟨σ2, f2, t2, e2⟩ := ih (i + 1) (uI σ 85 (b + i) (Int32.ofNat (R (b + e + i)))) (by omega) (mR_e (mR_w hρ) (fun j hj => (shK_s j).symm))
    refine ⟨σ2, frR_tr (frR_I (by omega)) f2, t2, fun hQ => ?_⟩
    refine b196_39 ?_
    simp only [↓br_pos, ↓br_neg, ↓rF_I, ↓rF_L, ↓rF_R, ↓rF_N, rO_m, rB_m, ↓rI_m, wI_m, ↓rB2_m, ↓rB3_m, wB2_m, wB3_m, ↓rL_m, wL_m, ↓rQ_m, wQ_m, ↓lI_m, pI_m, pL_m, pR_m, sI_m, sBy_m, sBo_m, sL_m, sQ_m, fst_m, true_and, and_true, tg_some, ln_some, uI_1, uI_2, uL_1, uL_2, uL_3, uQ_1, uQ_2, uQ_3, rv_i, rv_l, rv_n, rv_b0, rv_b1, RMR, ne_eq, reduceCtorEq, not_false_eq_true, Option.getD_some, if_true, if_false, and_self, false_and, and_false, Nat.add_left_cancel_iff, Nat.add_eq_left, Nat.left_eq_add, Nat.one_ne_zero, Nat.reduceAdd, Nat.reduceLT, Nat.reduceLeDiff, Nat.reduceEqDiff, true_implies, false_implies, implies_true, Option.some.injEq, forall_eq', forall_eq, reduceCtorEq, brT, brF, br_s, i_10, i_01, ib_0_2, ib_1_2, tn_0, tn_1, Int32.le_refl, eq_self, rv_bN, rv_iM, RCM 81, RLY, lit_at hw, ad_2, ad_4, ad_6, ad_8, ad_10, ad_12, ad_16, ad_24, ad_27, ad_28, ad_31, ad_35, ad_43, ad_51, ad_107, ad_131, ad_311, ml_3, ml_6, ml_7, ml_60, ml_100, ml_2471, mq_12, ar_2, ar_3, ar_4, ar_5, ar_6, of_add, of_mul, on_succ, m1, ← hN, l1, m2, ix (by omega : b + i < 2471) (by omega)]
    exact e2 hQ
theorem o_196_0 {w : mT} {σ : mS} {ρ : Rw} (hw : lit w) (hρ : mRow σ 85 0 ρ) (hn : 0 < ρ 10) (hn8 : ρ 10 ≤ 8) : ∃ σ', frR 85 86 σ σ' ∧ mRow σ' 85 0 (sE0 ρ) ∧ ∀ {D : Nat} {K : Hp → Prop}, 1 ≤ D → (wpV D 196 [.ref 81, .int (0 : Int32)] (mW w σ) K ↔ K (mW w σ')) := by
  obtain ⟨σ2, f2, t2, e2⟩ := lp_196 (w := w) (R := rSet ρ 10 (ρ 10 - 1)) (m := 0) (e := 7) (b := 51) (N := 7 * (ρ 10 - 1)) hw (by omega) (by omega) (by omega) (by omega) (by rw [show (10 : Nat) + 0 = 10 from rfl, rS_eq]) (7 * (ρ 10 - 1)) 0 (uI σ 85 10 (Int32.ofNat (ρ 10 - 1))) (by omega) (mR_e (mR_w hρ) (fun j hj => by unfold shK; rw [if_neg (by omega)]))
  refine ⟨σ2, frR_tr (frR_I (by omega)) f2, mR_e t2 (fun j hj => ?_), fun hD => cV_of (m := 0) (fun d hd Q hQ => ?_) rfl hD⟩
  · unfold sE0 shK
    rw [rSet_1, rSet_1, rSet_1]
    by_cases c6 : j = 6
    · rw [if_neg (by omega), if_pos c6, if_pos (by omega)]
    · rw [if_neg (by omega : ¬ j = 6 + 0)]
      by_cases c10 : j = 10
      · rw [if_pos c10, if_neg (by omega : ¬ (51 ≤ j ∧ j < 51 + 7 * (ρ 10 - 1))), if_pos c10, if_neg (by omega : ¬ j = 6 + 0)]
      · rw [if_neg c10, if_neg c6]
        by_cases y : 51 ≤ j ∧ j < 51 + 7 * (ρ 10 - 1)
        · rw [if_pos y, if_pos y, if_neg (by omega)]
        · rw [if_neg y, if_neg y, if_neg c10]
  · have a10 : (10 : Int32) + 0 = 10 := by decide
    refine b196_0 ?_
    simp only [↓br_pos, ↓br_neg, ↓rF_I, ↓rF_L, ↓rF_R, ↓rF_N, rO_m, rB_m, ↓rI_m, wI_m, ↓rB2_m, ↓rB3_m, wB2_m, wB3_m, ↓rL_m, wL_m, ↓rQ_m, wQ_m, ↓lI_m, pI_m, pL_m, pR_m, sI_m, sBy_m, sBo_m, sL_m, sQ_m, fst_m, true_and, and_true, tg_some, ln_some, uI_1, uI_2, uL_1, uL_2, uL_3, uQ_1, uQ_2, uQ_3, rv_i, rv_l, rv_n, rv_b0, rv_b1, RMR, ne_eq, reduceCtorEq, not_false_eq_true, Option.getD_some, if_true, if_false, and_self, false_and, and_false, Nat.add_left_cancel_iff, Nat.add_eq_left, Nat.left_eq_add, Nat.one_ne_zero, Nat.reduceAdd, Nat.reduceLT, Nat.reduceLeDiff, Nat.reduceEqDiff, true_implies, false_implies, implies_true, Option.some.injEq, forall_eq', forall_eq, reduceCtorEq, brT, brF, br_s, i_10, i_01, ib_0_2, ib_1_2, tn_0, tn_1, Int32.le_refl, eq_self, rv_bN, rv_iM, RCM 81, RLY, lit_at hw, z00, a10, mr_10l hρ, on_pred hn]
    exact e2 hQ
theorem o_196_1 {w : mT} {σ : mS} {ρ : Rw} (hw : lit w) (hρ : mRow σ 85 0 ρ) (hn : 0 < ρ 11) (hn8 : ρ 11 ≤ 8) : ∃ σ', frR 85 86 σ σ' ∧ mRow σ' 85 0 (sE1 ρ) ∧ ∀ {D : Nat} {K : Hp → Prop}, 1 ≤ D → (wpV D 196 [.ref 81, .int (1 : Int32)] (mW w σ) K ↔ K (mW w σ')) := by
  obtain ⟨σ2, f2, t2, e2⟩ := lp_196 (w := w) (R := rSet ρ 11 (ρ 11 - 1)) (m := 1) (e := 3) (b := 107) (N := 3 * (ρ 11 - 1)) hw (by omega) (by omega) (by omega) (by omega) (by rw [show (10 : Nat) + 1 = 11 from rfl, rS_eq]) (3 * (ρ 11 - 1)) 0 (uI σ 85 11 (Int32.ofNat (ρ 11 - 1))) (by omega) (mR_e (mR_w hρ) (fun j hj => by unfold shK; rw [if_neg (by omega)]))
  refine ⟨σ2, frR_tr (frR_I (by omega)) f2, mR_e t2 (fun j hj => ?_), fun hD => cV_of (m := 0) (fun d hd Q hQ => ?_) rfl hD⟩
  · unfold sE1 shK
    rw [rSet_1, rSet_1, rSet_1]
    by_cases c6 : j = 7
    · rw [if_neg (by omega), if_pos c6, if_pos (by omega)]
    · rw [if_neg (by omega : ¬ j = 6 + 1)]
      by_cases c10 : j = 11
      · rw [if_pos c10, if_neg (by omega : ¬ (107 ≤ j ∧ j < 107 + 3 * (ρ 11 - 1))), if_pos c10, if_neg (by omega : ¬ j = 6 + 1)]
      · rw [if_neg c10, if_neg c6]
        by_cases y : 107 ≤ j ∧ j < 107 + 3 * (ρ 11 - 1)
        · rw [if_pos y, if_pos y, if_neg (by omega)]
        · rw [if_neg y, if_neg y, if_neg c10]
  · have a10 : (10 : Int32) + 1 = 11 := by decide
    refine b196_0 ?_
    simp only [↓br_pos, ↓br_neg, ↓rF_I, ↓rF_L, ↓rF_R, ↓rF_N, rO_m, rB_m, ↓rI_m, wI_m, ↓rB2_m, ↓rB3_m, wB2_m, wB3_m, ↓rL_m, wL_m, ↓rQ_m, wQ_m, ↓lI_m, pI_m, pL_m, pR_m, sI_m, sBy_m, sBo_m, sL_m, sQ_m, fst_m, true_and, and_true, tg_some, ln_some, uI_1, uI_2, uL_1, uL_2, uL_3, uQ_1, uQ_2, uQ_3, rv_i, rv_l, rv_n, rv_b0, rv_b1, RMR, ne_eq, reduceCtorEq, not_false_eq_true, Option.getD_some, if_true, if_false, and_self, false_and, and_false, Nat.add_left_cancel_iff, Nat.add_eq_left, Nat.left_eq_add, Nat.one_ne_zero, Nat.reduceAdd, Nat.reduceLT, Nat.reduceLeDiff, Nat.reduceEqDiff, true_implies, false_implies, implies_true, Option.some.injEq, forall_eq', forall_eq, reduceCtorEq, brT, brF, br_s, i_10, i_01, ib_0_2, ib_1_2, tn_0, tn_1, Int32.le_refl, eq_self, rv_bN, rv_iM, RCM 81, RLY, lit_at hw, z10, a10, mr_11l hρ, on_pred hn]
    exact e2 hQ
theorem g_197 {w : mT} {σ : mS} {ρ : Rw} {m : Nat} {D : Nat} {K : Int32 → Hp → Prop} (hw : lit w) (hρ : mRow σ 85 0 ρ) (hm : m < 2) (hD : 1 ≤ D) : wpI D 197 [.ref 81, .int (Int32.ofNat m)] (mW w σ) K ↔ K 1 (mW w (uI σ 85 (8 + m) (Int32.ofNat (ρ (8 + m) + 1)))) := by
  refine cI_of (m := 0) (fun d hd Q hQ => ?_) rfl hD
  refine b197_0 ?_
  simp only [↓br_pos, ↓br_neg, ↓rF_I, ↓rF_L, ↓rF_R, ↓rF_N, rO_m, rB_m, ↓rI_m, wI_m, ↓rB2_m, ↓rB3_m, wB2_m, wB3_m, ↓rL_m, wL_m, ↓rQ_m, wQ_m, ↓lI_m, pI_m, pL_m, pR_m, sI_m, sBy_m, sBo_m, sL_m, sQ_m, fst_m, true_and, and_true, tg_some, ln_some, uI_1, uI_2, uL_1, uL_2, uL_3, uQ_1, uQ_2, uQ_3, rv_i, rv_l, rv_n, rv_b0, rv_b1, RMR, ne_eq, reduceCtorEq, not_false_eq_true, Option.getD_some, if_true, if_false, and_self, false_and, and_false, Nat.add_left_cancel_iff, Nat.add_eq_left, Nat.left_eq_add, Nat.one_ne_zero, Nat.reduceAdd, Nat.reduceLT, Nat.reduceLeDiff, Nat.reduceEqDiff, true_implies, false_implies, implies_true, Option.some.injEq, forall_eq', forall_eq, reduceCtorEq, brT, brF, br_s, i_10, i_01, ib_0_2, ib_1_2, tn_0, tn_1, Int32.le_refl, eq_self, rv_bN, rv_iM, RCM 81, RLY, lit_at hw, ad_2, ad_4, ad_6, ad_8, ad_10, ad_12, ad_16, ad_24, ad_27, ad_28, ad_31, ad_35, ad_43, ad_51, ad_107, ad_131, ad_311, ml_3, ml_6, ml_7, ml_60, ml_100, ml_2471, mq_12, ar_2, ar_3, ar_4, ar_5, ar_6, of_add, of_mul, on_succ, mr hρ (by omega : 8 + m < 2471)]
  exact hQ
/-- to the next cell -/
theorem o_198 {w : mT} {σ : mS} {ρ : Rw} {m p c : Nat} {x : Int32} (hw : lit w) (hρ : mRow σ 85 0 ρ) (hx : x = Int32.ofNat m) (hm : m < 2) (ho : onAtD ρ m p = true) (hd1 : dist (cellAt ρ m) c = 1) : ∃ σ', frR 85 86 σ σ' ∧ mRow σ' 85 0 (sGo ρ m p c) ∧ ∀ {D : Nat} {K : Hp → Prop}, 2 ≤ D → (wpV D 198 [.ref 81, .int x, .int (Int32.ofNat p), .int (Int32.ofNat c)] (mW w σ) K ↔ K (mW w σ')) := by
  subst hx
  refine ⟨uI (uI σ 85 (4 + m) (Int32.ofNat (ρ (4 + m) + 1))) 85 (2 + m) (Int32.ofNat (100 * p + c + 1)), frR_tr (frR_I (by omega)) (frR_I (by omega)), ?_, fun hD => cV_of (m := 1) (fun d hd Q hQ => ?_) rfl hD⟩
  · have := mR_w (j := 2 + m) (x := 100 * p + c + 1) (mR_w (j := 4 + m) (x := ρ (4 + m) + 1) hρ)
    unfold sGo
    rw [if_pos ho, hd1]
    exact this
  · refine b198_0 ?_
    have g := fun {y : Int32} {K : Hp → Prop} => g_176 (K := K) (σ := uI σ 85 (4 + m) y) (m := m) (x := Int32.ofNat m) (p := p) (c := c) hw rfl hm hd
    simp only [↓br_pos, ↓br_neg, ↓rF_I, ↓rF_L, ↓rF_R, ↓rF_N, rO_m, rB_m, ↓rI_m, wI_m, ↓rB2_m, ↓rB3_m, wB2_m, wB3_m, ↓rL_m, wL_m, ↓rQ_m, wQ_m, ↓lI_m, pI_m, pL_m, pR_m, sI_m, sBy_m, sBo_m, sL_m, sQ_m, fst_m, true_and, and_true, tg_some, ln_some, uI_1, uI_2, uL_1, uL_2, uL_3, uQ_1, uQ_2, uQ_3, rv_i, rv_l, rv_n, rv_b0, rv_b1, RMR, ne_eq, reduceCtorEq, not_false_eq_true, Option.getD_some, if_true, if_false, and_self, false_and, and_false, Nat.add_left_cancel_iff, Nat.add_eq_left, Nat.left_eq_add, Nat.one_ne_zero, Nat.reduceAdd, Nat.reduceLT, Nat.reduceLeDiff, Nat.reduceEqDiff, true_implies, false_implies, implies_true, Option.some.injEq, forall_eq', forall_eq, reduceCtorEq, brT, brF, br_s, i_10, i_01, ib_0_2, ib_1_2, tn_0, tn_1, Int32.le_refl, eq_self, rv_bN, rv_iM, RCM 81, RLY, lit_at hw, ad_2, ad_4, ad_6, ad_8, ad_10, ad_12, ad_16, ad_24, ad_27, ad_28, ad_31, ad_35, ad_43, ad_51, ad_107, ad_131, ad_311, ml_3, ml_6, ml_7, ml_60, ml_100, ml_2471, mq_12, ar_2, ar_3, ar_4, ar_5, ar_6, of_add, of_mul, on_succ, mr hρ (by omega : 4 + m < 2471), g]
    exact hQ
/-- the ways of nears: it stands there; it waits; it comes nearer -/
theorem n_199r {w : mT} {σ : mS} {τ ρ : Rw} {m p g : Nat} {x : Int32} {D : Nat} {K : Int32 → Hp → Prop} (hw : lit w) (hρ : mRow σ 85 0 ρ) (hv : vTold τ) (hr : vRow τ ρ) (hx : x = Int32.ofNat m) (hm : m < 2) (hp : p < 1000) (ho : onAtD ρ m p = true) (hg : cellAt ρ m = g) (hD : 2 ≤ D) : wpI D 199 [.ref 81, .int x, .int (Int32.ofNat p), .int (Int32.ofNat g)] (mW w σ) K ↔ K 3 (mW w σ) := by
  subst hx
  subst hg
  refine cI_of (m := 1) (fun d hd Q hQ => ?_) rfl hD
  have hs := onP_lt hv (vR_on hr hm)
  have y0 := (of_decide_eq_true ho).1
  have g0 := fun {K : Int32 → Hp → Prop} => g_170 (K := K) (m := m) (p := p) hw hρ hm hs hp hd
  refine b199_0 ?_
  simp only [↓br_pos, ↓br_neg, ↓rF_I, ↓rF_L, ↓rF_R, ↓rF_N, rO_m, rB_m, ↓rI_m, wI_m, ↓rB2_m, ↓rB3_m, wB2_m, wB3_m, ↓rL_m, wL_m, ↓rQ_m, wQ_m, ↓lI_m, pI_m, pL_m, pR_m, sI_m, sBy_m, sBo_m, sL_m, sQ_m, fst_m, true_and, and_true, tg_some, ln_some, uI_1, uI_2, uL_1, uL_2, uL_3, uQ_1, uQ_2, uQ_3, rv_i, rv_l, rv_n, rv_b0, rv_b1, RMR, ne_eq, reduceCtorEq, not_false_eq_true, Option.getD_some, if_true, if_false, and_self, false_and, and_false, Nat.add_left_cancel_iff, Nat.add_eq_left, Nat.left_eq_add, Nat.one_ne_zero, Nat.reduceAdd, Nat.reduceLT, Nat.reduceLeDiff, Nat.reduceEqDiff, true_implies, false_implies, implies_true, Option.some.injEq, forall_eq', forall_eq, reduceCtorEq, brT, brF, br_s, i_10, i_01, ib_0_2, ib_1_2, tn_0, tn_1, Int32.le_refl, eq_self, rv_bN, rv_iM, RCM 81, RLY, lit_at hw, g0, iB_t ho, z10, g_171 hw hρ hm y0 hs hd]
  exact hQ
theorem n_199 {w : mT} {σ : mS} {τ ρ : Rw} {m p g : Nat} {x : Int32} (hw : lit w) (hτ : mTold σ τ) (hρ : mRow σ 85 0 ρ) (hv : vTold τ) (hr : vRow τ ρ) (hx : x = Int32.ofNat m) (hm : m < 2) (hp : p < τ 1) (hg : g < τ (28 + p)) (hn : ¬ (onAtD ρ m p = true ∧ cellAt ρ m = g)) : ∃ σ' W, frR 85 86 σ σ' ∧ (W = if onAtD ρ m p = true then decide (¬ frP τ ρ m p (nx (cellAt ρ m) g)) else decide (¬ ρ (6 + m) < 10 ∧ ¬ frP τ ρ m p g)) ∧ mRow σ' 85 0 (if W = true then rSet ρ (8 + m) (ρ (8 + m) + 1) else if onAtD ρ m p = true then sMv τ ρ m p (nx (cellAt ρ m) g) else sTr τ ρ m p g) ∧ ∀ {D : Nat} {K : Int32 → Hp → Prop}, 3 ≤ D → (wpI D 199 [.ref 81, .int x, .int (Int32.ofNat p), .int (Int32.ofNat g)] (mW w σ) K ↔ K (if W = true then 1 else 0) (mW w σ')) := by
  subst hx
  have v1 := hv.2.1
  have v2 := (hv.2.2.2.2.2.1 p hp).2
  have hs := onP_lt hv (vR_on hr hm)
  have hs' := onP_lt hv (vR_on hr (by omega : 1 - m < 2))
  have l100 := cAt_lt (ρ := ρ) (m := m)
  by_cases ho : onAtD ρ m p = true
  · have hc : cellAt ρ m ≠ g := fun q => hn ⟨ho, q⟩
    have oc := (on_cell hv hr hm ho).2
    have nl := nx_lt oc hg
    have y0 := (of_decide_eq_true ho).1
    have dn : dist (cellAt ρ m) (nx (cellAt ρ m) g) = 1 := by unfold nx dist; split <;> omega
    obtain ⟨σ2, f2, t2, e2⟩ := o_198 (x := Int32.ofNat m) (p := p) (c := nx (cellAt ρ m) g) hw hρ rfl hm ho dn
    have c1 : (Int32.ofNat (cellAt ρ m) = Int32.ofNat g) ↔ False := iff_false_intro (fun q => hc ((of_inj (by omega) (by omega)).mp q))
    by_cases hf : frP τ ρ m p (nx (cellAt ρ m) g)
    · refine ⟨σ2, false, f2, by rw [if_pos ho, decide_eq_false (fun q => q hf)], ?_, fun hD => cI_of (m := 2) (fun d hd Q hQ => ?_) rfl hD⟩
      · rw [if_neg (by decide), if_pos ho]
        unfold sMv
        rw [if_pos hf]
        exact t2
      · have hd1 : 1 ≤ d := by omega
        rw [if_neg (by decide)] at hQ
        have g0 := fun {K : Int32 → Hp → Prop} => g_170 (K := K) (m := m) (p := p) hw hρ hm hs (by omega) hd1
        have g2 := fun {K : Int32 → Hp → Prop} => g_172 (K := K) (m := m) (p := p) (c := nx (cellAt ρ m) g) hw hτ hρ hv hm hs' (by omega) (by omega) hd
        refine b199_0 ?_
        by_cases z : cellAt ρ m < g
        · have c2 : (Int32.ofNat g ≤ Int32.ofNat (cellAt ρ m)) ↔ False := iff_false_intro (fun q => absurd ((on_le (by omega) (by omega)).mp q) (by omega))
          have en : nx (cellAt ρ m) g = cellAt ρ m + 1 := if_pos z
          rw [en] at g2 hf e2
          simp only [↓br_pos, ↓br_neg, ↓rF_I, ↓rF_L, ↓rF_R, ↓rF_N, rO_m, rB_m, ↓rI_m, wI_m, ↓rB2_m, ↓rB3_m, wB2_m, wB3_m, ↓rL_m, wL_m, ↓rQ_m, wQ_m, ↓lI_m, pI_m, pL_m, pR_m, sI_m, sBy_m, sBo_m, sL_m, sQ_m, fst_m, true_and, and_true, tg_some, ln_some, uI_1, uI_2, uL_1, uL_2, uL_3, uQ_1, uQ_2, uQ_3, rv_i, rv_l, rv_n, rv_b0, rv_b1, RMR, ne_eq, reduceCtorEq, not_false_eq_true, Option.getD_some, if_true, if_false, and_self, false_and, and_false, Nat.add_left_cancel_iff, Nat.add_eq_left, Nat.left_eq_add, Nat.one_ne_zero, Nat.reduceAdd, Nat.reduceLT, Nat.reduceLeDiff, Nat.reduceEqDiff, true_implies, false_implies, implies_true, Option.some.injEq, forall_eq', forall_eq, reduceCtorEq, brT, brF, br_s, i_10, i_01, ib_0_2, ib_1_2, tn_0, tn_1, Int32.le_refl, eq_self, rv_bN, rv_iM, RCM 81, RLY, lit_at hw, g0, iB_t ho, z10, g_171 hw hρ hm y0 hs hd1, c1, c2, on_succ, g2, iB_t hf, e2 hd]
          exact hQ
        · have c2 : (Int32.ofNat g ≤ Int32.ofNat (cellAt ρ m)) ↔ True := iff_true_intro ((on_le (by omega) (by omega)).mpr (by omega))
          have en : nx (cellAt ρ m) g = cellAt ρ m - 1 := if_neg z
          rw [en] at g2 hf e2
          simp only [↓br_pos, ↓br_neg, ↓rF_I, ↓rF_L, ↓rF_R, ↓rF_N, rO_m, rB_m, ↓rI_m, wI_m, ↓rB2_m, ↓rB3_m, wB2_m, wB3_m, ↓rL_m, wL_m, ↓rQ_m, wQ_m, ↓lI_m, pI_m, pL_m, pR_m, sI_m, sBy_m, sBo_m, sL_m, sQ_m, fst_m, true_and, and_true, tg_some, ln_some, uI_1, uI_2, uL_1, uL_2, uL_3, uQ_1, uQ_2, uQ_3, rv_i, rv_l, rv_n, rv_b0, rv_b1, RMR, ne_eq, reduceCtorEq, not_false_eq_true, Option.getD_some, if_true, if_false, and_self, false_and, and_false, Nat.add_left_cancel_iff, Nat.add_eq_left, Nat.left_eq_add, Nat.one_ne_zero, Nat.reduceAdd, Nat.reduceLT, Nat.reduceLeDiff, Nat.reduceEqDiff, true_implies, false_implies, implies_true, Option.some.injEq, forall_eq', forall_eq, reduceCtorEq, brT, brF, br_s, i_10, i_01, ib_0_2, ib_1_2, tn_0, tn_1, Int32.le_refl, eq_self, rv_bN, rv_iM, RCM 81, RLY, lit_at hw, g0, iB_t ho, z10, g_171 hw hρ hm y0 hs hd1, c1, c2, on_pred (by omega : 0 < cellAt ρ m), g2, iB_t hf, e2 hd]
          exact hQ
    · refine ⟨_, true, frR_I (a := 85) (j := 8 + m) (x := Int32.ofNat (ρ (8 + m) + 1)) (by omega), by rw [if_pos ho, decide_eq_true hf], ?_, fun hD => cI_of (m := 2) (fun d hd Q hQ => ?_) rfl hD⟩
      · rw [if_pos rfl]
        exact mR_w hρ
      · have hd1 : 1 ≤ d := by omega
        rw [if_pos rfl] at hQ
        have g0 := fun {K : Int32 → Hp → Prop} => g_170 (K := K) (m := m) (p := p) hw hρ hm hs (by omega) hd1
        have g2 := fun {K : Int32 → Hp → Prop} => g_172 (K := K) (m := m) (p := p) (c := nx (cellAt ρ m) g) hw hτ hρ hv hm hs' (by omega) (by omega) hd
        refine b199_0 ?_
        by_cases z : cellAt ρ m < g
        · have c2 : (Int32.ofNat g ≤ Int32.ofNat (cellAt ρ m)) ↔ False := iff_false_intro (fun q => absurd ((on_le (by omega) (by omega)).mp q) (by omega))
          have en : nx (cellAt ρ m) g = cellAt ρ m + 1 := if_pos z
          rw [en] at g2 hf
          simp only [↓br_pos, ↓br_neg, ↓rF_I, ↓rF_L, ↓rF_R, ↓rF_N, rO_m, rB_m, ↓rI_m, wI_m, ↓rB2_m, ↓rB3_m, wB2_m, wB3_m, ↓rL_m, wL_m, ↓rQ_m, wQ_m, ↓lI_m, pI_m, pL_m, pR_m, sI_m, sBy_m, sBo_m, sL_m, sQ_m, fst_m, true_and, and_true, tg_some, ln_some, uI_1, uI_2, uL_1, uL_2, uL_3, uQ_1, uQ_2, uQ_3, rv_i, rv_l, rv_n, rv_b0, rv_b1, RMR, ne_eq, reduceCtorEq, not_false_eq_true, Option.getD_some, if_true, if_false, and_self, false_and, and_false, Nat.add_left_cancel_iff, Nat.add_eq_left, Nat.left_eq_add, Nat.one_ne_zero, Nat.reduceAdd, Nat.reduceLT, Nat.reduceLeDiff, Nat.reduceEqDiff, true_implies, false_implies, implies_true, Option.some.injEq, forall_eq', forall_eq, reduceCtorEq, brT, brF, br_s, i_10, i_01, ib_0_2, ib_1_2, tn_0, tn_1, Int32.le_refl, eq_self, rv_bN, rv_iM, RCM 81, RLY, lit_at hw, g0, iB_t ho, z10, z00, g_171 hw hρ hm y0 hs hd1, c1, c2, on_succ, g2, iB_f hf, g_197 hw hρ hm hd1]
          exact hQ
        · have c2 : (Int32.ofNat g ≤ Int32.ofNat (cellAt ρ m)) ↔ True := iff_true_intro ((on_le (by omega) (by omega)).mpr (by omega))
          have en : nx (cellAt ρ m) g = cellAt ρ m - 1 := if_neg z
          rw [en] at g2 hf
          simp only [↓br_pos, ↓br_neg, ↓rF_I, ↓rF_L, ↓rF_R, ↓rF_N, rO_m, rB_m, ↓rI_m, wI_m, ↓rB2_m, ↓rB3_m, wB2_m, wB3_m, ↓rL_m, wL_m, ↓rQ_m, wQ_m, ↓lI_m, pI_m, pL_m, pR_m, sI_m, sBy_m, sBo_m, sL_m, sQ_m, fst_m, true_and, and_true, tg_some, ln_some, uI_1, uI_2, uL_1, uL_2, uL_3, uQ_1, uQ_2, uQ_3, rv_i, rv_l, rv_n, rv_b0, rv_b1, RMR, ne_eq, reduceCtorEq, not_false_eq_true, Option.getD_some, if_true, if_false, and_self, false_and, and_false, Nat.add_left_cancel_iff, Nat.add_eq_left, Nat.left_eq_add, Nat.one_ne_zero, Nat.reduceAdd, Nat.reduceLT, Nat.reduceLeDiff, Nat.reduceEqDiff, true_implies, false_implies, implies_true, Option.some.injEq, forall_eq', forall_eq, reduceCtorEq, brT, brF, br_s, i_10, i_01, ib_0_2, ib_1_2, tn_0, tn_1, Int32.le_refl, eq_self, rv_bN, rv_iM, RCM 81, RLY, lit_at hw, g0, iB_t ho, z10, z00, g_171 hw hρ hm y0 hs hd1, c1, c2, on_pred (by omega : 0 < cellAt ρ m), g2, iB_f hf, g_197 hw hρ hm hd1]
          exact hQ
  · have w6 := vR_way hr hm
    have eo2 : way1 ρ m (2 + (1 - m)) = ρ (2 + (1 - m)) := by unfold way1; split; exact rS_ne (by omega); rfl
    have eo : onAtD (way1 ρ m) m p = onAtD ρ m p := by
      have : way1 ρ m (2 + m) = ρ (2 + m) := by unfold way1; split; exact rS_ne (by omega); rfl
      unfold onAtD
      rw [this]
    have e4 : way1 ρ m (4 + m) = ρ (4 + m) := by unfold way1; split; exact rS_ne (by omega); rfl
    -- the row behind the way
    by_cases z : ρ (6 + m) = 10
    · have ew : way1 ρ m = ρ := by unfold way1; rw [if_neg (by omega)]
      have c10 : (Int32.ofNat (ρ (6 + m)) = (10 : Int32)) ↔ True := iff_true_intro (by rw [z]; rfl)
      have c11 : ((10 : Int32) ≤ Int32.ofNat (ρ (6 + m))) ↔ True := iff_true_intro (by rw [z]; decide)
      by_cases hf : frP τ ρ m p g
      · have hG := mR_w (j := 6 + m) (x := 0) (mR_w (j := 4 + m) (x := ρ (4 + m) + 10) (mR_w (j := 2 + m) (x := 100 * p + g + 1) hρ))
        refine ⟨_, false, frR_tr (frR_I (a := 85) (j := 2 + m) (x := Int32.ofNat (100 * p + g + 1)) (by omega)) (frR_tr (frR_I (a := 85) (j := 4 + m) (x := Int32.ofNat (ρ (4 + m) + 10)) (by omega)) (frR_I (a := 85) (j := 6 + m) (x := 0) (by omega))), by rw [if_neg ho, decide_eq_false (fun q => q.2 hf)], ?_, fun hD => cI_of (m := 2) (fun d hd Q hQ => ?_) rfl hD⟩
        · rw [if_neg (by decide), if_neg ho]
          unfold sTr
          rw [if_pos (show arrP τ ρ m p g from ⟨by rw [ew]; omega, hf⟩), ew]
          refine mR_e hG (fun j hj => ?_)
          unfold sGo
          rw [if_neg ho, rSet_1, rSet_1, rSet_1, rSet_1, rSet_1, rSet_1]
          by_cases k6 : j = 6 + m
          · rw [if_pos k6, if_pos k6]
          · rw [if_neg k6, if_neg k6]
            by_cases k2 : j = 2 + m
            · rw [if_pos k2, if_neg (by omega), if_pos k2]
            · rw [if_neg k2, if_neg k2]
        · have hd1 : 1 ≤ d := by omega
          rw [if_neg (by decide)] at hQ
          have x1 : ((4 + m : Nat) = 2 + m) ↔ False := iff_false_intro (by omega)
          have g0 := fun {K : Int32 → Hp → Prop} => g_170 (K := K) (m := m) (p := p) hw hρ hm hs (by omega) hd1
          have g2 := fun {K : Int32 → Hp → Prop} => g_172 (K := K) (m := m) (p := p) (c := g) hw hτ hρ hv hm hs' (by omega) (by omega) hd
          have g6 := fun {K : Hp → Prop} => g_176 (K := K) (σ := σ) (m := m) (x := Int32.ofNat m) (p := p) (c := g) hw rfl hm hd1
          have a10 : Int32.ofNat (ρ (4 + m)) + (10 : Int32) = Int32.ofNat (ρ (4 + m) + 10) := of_add (b := 10)
          refine b199_0 ?_
          simp only [↓br_pos, ↓br_neg, ↓rF_I, ↓rF_L, ↓rF_R, ↓rF_N, rO_m, rB_m, ↓rI_m, wI_m, ↓rB2_m, ↓rB3_m, wB2_m, wB3_m, ↓rL_m, wL_m, ↓rQ_m, wQ_m, ↓lI_m, pI_m, pL_m, pR_m, sI_m, sBy_m, sBo_m, sL_m, sQ_m, fst_m, true_and, and_true, tg_some, ln_some, uI_1, uI_2, uL_1, uL_2, uL_3, uQ_1, uQ_2, uQ_3, rv_i, rv_l, rv_n, rv_b0, rv_b1, RMR, ne_eq, reduceCtorEq, not_false_eq_true, Option.getD_some, if_true, if_false, and_self, false_and, and_false, Nat.add_left_cancel_iff, Nat.add_eq_left, Nat.left_eq_add, Nat.one_ne_zero, Nat.reduceAdd, Nat.reduceLT, Nat.reduceLeDiff, Nat.reduceEqDiff, true_implies, false_implies, implies_true, Option.some.injEq, forall_eq', forall_eq, reduceCtorEq, brT, brF, br_s, i_10, i_01, ib_0_2, ib_1_2, tn_0, tn_1, Int32.le_refl, eq_self, rv_bN, rv_iM, RCM 81, RLY, lit_at hw, g0, iB_f ho, z00, z10, ad_2, ad_4, ad_6, ad_8, ad_10, ad_12, ad_16, ad_24, ad_27, ad_28, ad_31, ad_35, ad_43, ad_51, ad_107, ad_131, ad_311, ml_3, ml_6, ml_7, ml_60, ml_100, ml_2471, mq_12, ar_2, ar_3, ar_4, ar_5, ar_6, of_add, of_mul, on_succ, mr hρ (by omega : 6 + m < 2471), c10]
          refine b199_48 ?_
          simp only [↓br_pos, ↓br_neg, ↓rF_I, ↓rF_L, ↓rF_R, ↓rF_N, rO_m, rB_m, ↓rI_m, wI_m, ↓rB2_m, ↓rB3_m, wB2_m, wB3_m, ↓rL_m, wL_m, ↓rQ_m, wQ_m, ↓lI_m, pI_m, pL_m, pR_m, sI_m, sBy_m, sBo_m, sL_m, sQ_m, fst_m, true_and, and_true, tg_some, ln_some, uI_1, uI_2, uL_1, uL_2, uL_3, uQ_1, uQ_2, uQ_3, rv_i, rv_l, rv_n, rv_b0, rv_b1, RMR, ne_eq, reduceCtorEq, not_false_eq_true, Option.getD_some, if_true, if_false, and_self, false_and, and_false, Nat.add_left_cancel_iff, Nat.add_eq_left, Nat.left_eq_add, Nat.one_ne_zero, Nat.reduceAdd, Nat.reduceLT, Nat.reduceLeDiff, Nat.reduceEqDiff, true_implies, false_implies, implies_true, Option.some.injEq, forall_eq', forall_eq, reduceCtorEq, brT, brF, br_s, i_10, i_01, ib_0_2, ib_1_2, tn_0, tn_1, Int32.le_refl, eq_self, rv_bN, rv_iM, RCM 81, RLY, lit_at hw, ad_2, ad_4, ad_6, ad_8, ad_10, ad_12, ad_16, ad_24, ad_27, ad_28, ad_31, ad_35, ad_43, ad_51, ad_107, ad_131, ad_311, ml_3, ml_6, ml_7, ml_60, ml_100, ml_2471, mq_12, ar_2, ar_3, ar_4, ar_5, ar_6, of_add, of_mul, on_succ, mr hρ (by omega : 6 + m < 2471), c11, g2, iB_t hf, z10, g6, mr hρ (by omega : 4 + m < 2471), x1, a10]
          exact hQ
      · refine ⟨_, true, frR_I (a := 85) (j := 8 + m) (x := Int32.ofNat (ρ (8 + m) + 1)) (by omega), by rw [if_neg ho, decide_eq_true ⟨by omega, hf⟩], ?_, fun hD => cI_of (m := 2) (fun d hd Q hQ => ?_) rfl hD⟩
        · rw [if_pos rfl]
          exact mR_w hρ
        · have hd1 : 1 ≤ d := by omega
          rw [if_pos rfl] at hQ
          have g0 := fun {K : Int32 → Hp → Prop} => g_170 (K := K) (m := m) (p := p) hw hρ hm hs (by omega) hd1
          have g2 := fun {K : Int32 → Hp → Prop} => g_172 (K := K) (m := m) (p := p) (c := g) hw hτ hρ hv hm hs' (by omega) (by omega) hd
          refine b199_0 ?_
          simp only [↓br_pos, ↓br_neg, ↓rF_I, ↓rF_L, ↓rF_R, ↓rF_N, rO_m, rB_m, ↓rI_m, wI_m, ↓rB2_m, ↓rB3_m, wB2_m, wB3_m, ↓rL_m, wL_m, ↓rQ_m, wQ_m, ↓lI_m, pI_m, pL_m, pR_m, sI_m, sBy_m, sBo_m, sL_m, sQ_m, fst_m, true_and, and_true, tg_some, ln_some, uI_1, uI_2, uL_1, uL_2, uL_3, uQ_1, uQ_2, uQ_3, rv_i, rv_l, rv_n, rv_b0, rv_b1, RMR, ne_eq, reduceCtorEq, not_false_eq_true, Option.getD_some, if_true, if_false, and_self, false_and, and_false, Nat.add_left_cancel_iff, Nat.add_eq_left, Nat.left_eq_add, Nat.one_ne_zero, Nat.reduceAdd, Nat.reduceLT, Nat.reduceLeDiff, Nat.reduceEqDiff, true_implies, false_implies, implies_true, Option.some.injEq, forall_eq', forall_eq, reduceCtorEq, brT, brF, br_s, i_10, i_01, ib_0_2, ib_1_2, tn_0, tn_1, Int32.le_refl, eq_self, rv_bN, rv_iM, RCM 81, RLY, lit_at hw, g0, iB_f ho, z00, z10, ad_2, ad_4, ad_6, ad_8, ad_10, ad_12, ad_16, ad_24, ad_27, ad_28, ad_31, ad_35, ad_43, ad_51, ad_107, ad_131, ad_311, ml_3, ml_6, ml_7, ml_60, ml_100, ml_2471, mq_12, ar_2, ar_3, ar_4, ar_5, ar_6, of_add, of_mul, on_succ, mr hρ (by omega : 6 + m < 2471), c10]
          refine b199_48 ?_
          simp only [↓br_pos, ↓br_neg, ↓rF_I, ↓rF_L, ↓rF_R, ↓rF_N, rO_m, rB_m, ↓rI_m, wI_m, ↓rB2_m, ↓rB3_m, wB2_m, wB3_m, ↓rL_m, wL_m, ↓rQ_m, wQ_m, ↓lI_m, pI_m, pL_m, pR_m, sI_m, sBy_m, sBo_m, sL_m, sQ_m, fst_m, true_and, and_true, tg_some, ln_some, uI_1, uI_2, uL_1, uL_2, uL_3, uQ_1, uQ_2, uQ_3, rv_i, rv_l, rv_n, rv_b0, rv_b1, RMR, ne_eq, reduceCtorEq, not_false_eq_true, Option.getD_some, if_true, if_false, and_self, false_and, and_false, Nat.add_left_cancel_iff, Nat.add_eq_left, Nat.left_eq_add, Nat.one_ne_zero, Nat.reduceAdd, Nat.reduceLT, Nat.reduceLeDiff, Nat.reduceEqDiff, true_implies, false_implies, implies_true, Option.some.injEq, forall_eq', forall_eq, reduceCtorEq, brT, brF, br_s, i_10, i_01, ib_0_2, ib_1_2, tn_0, tn_1, Int32.le_refl, eq_self, rv_bN, rv_iM, RCM 81, RLY, lit_at hw, ad_2, ad_4, ad_6, ad_8, ad_10, ad_12, ad_16, ad_24, ad_27, ad_28, ad_31, ad_35, ad_43, ad_51, ad_107, ad_131, ad_311, ml_3, ml_6, ml_7, ml_60, ml_100, ml_2471, mq_12, ar_2, ar_3, ar_4, ar_5, ar_6, of_add, of_mul, on_succ, mr hρ (by omega : 6 + m < 2471), c11, g2, iB_f hf, z00, z10, g_197 hw hρ hm hd1]
          exact b199_88 ⟨rfl, hQ⟩
    · have ew : way1 ρ m = rSet ρ (6 + m) (ρ (6 + m) + 1) := by unfold way1; rw [if_pos (by omega)]
      have c10 : (Int32.ofNat (ρ (6 + m)) = (10 : Int32)) ↔ False := iff_false_intro (fun q => z ((of_inj (b := 10) (by omega) (by omega)).mp q))
      have hρ1 : mRow (uI σ 85 (6 + m) (Int32.ofNat (ρ (6 + m) + 1))) 85 0 (way1 ρ m) := by rw [ew]; exact mR_w hρ
      have hτ1 : mTold (uI σ 85 (6 + m) (Int32.ofNat (ρ (6 + m) + 1))) τ := mT_c hτ (uI_o (by omega))
      have e6 : way1 ρ m (6 + m) = ρ (6 + m) + 1 := by rw [ew, rS_eq]
      have fW : (if onAtD ρ m p = true then decide (¬ frP τ ρ m p (nx (cellAt ρ m) g)) else decide (¬ ρ (6 + m) < 10 ∧ ¬ frP τ ρ m p g)) = false := by rw [if_neg ho, decide_eq_false (fun q => q.1 (by omega))]
      by_cases y : ρ (6 + m) + 1 = 10
      · have c11 : ((10 : Int32) ≤ Int32.ofNat (ρ (6 + m) + 1)) ↔ True := iff_true_intro (by rw [y]; decide)
        by_cases hf : frP τ ρ m p g
        · have hf1 : frP τ (way1 ρ m) m p g := (frP_w hm).mpr hf
          have hG := mR_w (j := 6 + m) (x := 0) (mR_w (j := 4 + m) (x := ρ (4 + m) + 10) (mR_w (j := 2 + m) (x := 100 * p + g + 1) hρ1))
          refine ⟨_, false, frR_tr (frR_I (a := 85) (j := 6 + m) (x := Int32.ofNat (ρ (6 + m) + 1)) (by omega)) (frR_tr (frR_I (a := 85) (j := 2 + m) (x := Int32.ofNat (100 * p + g + 1)) (by omega)) (frR_tr (frR_I (a := 85) (j := 4 + m) (x := Int32.ofNat (ρ (4 + m) + 10)) (by omega)) (frR_I (a := 85) (j := 6 + m) (x := 0) (by omega)))), fW.symm, ?_, fun hD => cI_of (m := 2) (fun d hd Q hQ => ?_) rfl hD⟩
          · rw [if_neg (by decide), if_neg ho]
            unfold sTr
            rw [if_pos (show arrP τ ρ m p g from ⟨by rw [e6]; omega, hf⟩)]
            refine mR_e hG (fun j hj => ?_)
            unfold sGo
            rw [eo, if_neg ho, e4, rSet_1, rSet_1, rSet_1, rSet_1, rSet_1, rSet_1]
            by_cases k6 : j = 6 + m
            · rw [if_pos k6, if_pos k6]
            · rw [if_neg k6, if_neg k6]
              by_cases k2 : j = 2 + m
              · rw [if_pos k2, if_neg (by omega), if_pos k2]
              · rw [if_neg k2, if_neg k2]
          · have hd1 : 1 ≤ d := by omega
            rw [if_neg (by decide)] at hQ
            have x1 : ((4 + m : Nat) = 2 + m) ↔ False := iff_false_intro (by omega)
            have x2 : ((4 + m : Nat) = 6 + m) ↔ False := iff_false_intro (by omega)
            have g0 := fun {K : Int32 → Hp → Prop} => g_170 (K := K) (m := m) (p := p) hw hρ hm hs (by omega) hd1
            have g2 := fun {K : Int32 → Hp → Prop} => g_172 (K := K) (m := m) (p := p) (c := g) hw hτ1 hρ1 hv hm (by rw [eo2]; exact hs') (by omega) (by omega) hd
            have g6 := fun {K : Hp → Prop} => g_176 (K := K) (σ := uI σ 85 (6 + m) (Int32.ofNat (ρ (6 + m) + 1))) (m := m) (x := Int32.ofNat m) (p := p) (c := g) hw rfl hm hd1
            have a10 : Int32.ofNat (ρ (4 + m)) + (10 : Int32) = Int32.ofNat (ρ (4 + m) + 10) := of_add (b := 10)
            refine b199_0 ?_
            simp only [↓br_pos, ↓br_neg, ↓rF_I, ↓rF_L, ↓rF_R, ↓rF_N, rO_m, rB_m, ↓rI_m, wI_m, ↓rB2_m, ↓rB3_m, wB2_m, wB3_m, ↓rL_m, wL_m, ↓rQ_m, wQ_m, ↓lI_m, pI_m, pL_m, pR_m, sI_m, sBy_m, sBo_m, sL_m, sQ_m, fst_m, true_and, and_true, tg_some, ln_some, uI_1, uI_2, uL_1, uL_2, uL_3, uQ_1, uQ_2, uQ_3, rv_i, rv_l, rv_n, rv_b0, rv_b1, RMR, ne_eq, reduceCtorEq, not_false_eq_true, Option.getD_some, if_true, if_false, and_self, false_and, and_false, Nat.add_left_cancel_iff, Nat.add_eq_left, Nat.left_eq_add, Nat.one_ne_zero, Nat.reduceAdd, Nat.reduceLT, Nat.reduceLeDiff, Nat.reduceEqDiff, true_implies, false_implies, implies_true, Option.some.injEq, forall_eq', forall_eq, reduceCtorEq, brT, brF, br_s, i_10, i_01, ib_0_2, ib_1_2, tn_0, tn_1, Int32.le_refl, eq_self, rv_bN, rv_iM, RCM 81, RLY, lit_at hw, g0, iB_f ho, z00, ad_2, ad_4, ad_6, ad_8, ad_10, ad_12, ad_16, ad_24, ad_27, ad_28, ad_31, ad_35, ad_43, ad_51, ad_107, ad_131, ad_311, ml_3, ml_6, ml_7, ml_60, ml_100, ml_2471, mq_12, ar_2, ar_3, ar_4, ar_5, ar_6, of_add, of_mul, on_succ, mr hρ (by omega : 6 + m < 2471), c10]
            refine b199_48 ?_
            simp only [↓br_pos, ↓br_neg, ↓rF_I, ↓rF_L, ↓rF_R, ↓rF_N, rO_m, rB_m, ↓rI_m, wI_m, ↓rB2_m, ↓rB3_m, wB2_m, wB3_m, ↓rL_m, wL_m, ↓rQ_m, wQ_m, ↓lI_m, pI_m, pL_m, pR_m, sI_m, sBy_m, sBo_m, sL_m, sQ_m, fst_m, true_and, and_true, tg_some, ln_some, uI_1, uI_2, uL_1, uL_2, uL_3, uQ_1, uQ_2, uQ_3, rv_i, rv_l, rv_n, rv_b0, rv_b1, RMR, ne_eq, reduceCtorEq, not_false_eq_true, Option.getD_some, if_true, if_false, and_self, false_and, and_false, Nat.add_left_cancel_iff, Nat.add_eq_left, Nat.left_eq_add, Nat.one_ne_zero, Nat.reduceAdd, Nat.reduceLT, Nat.reduceLeDiff, Nat.reduceEqDiff, true_implies, false_implies, implies_true, Option.some.injEq, forall_eq', forall_eq, reduceCtorEq, brT, brF, br_s, i_10, i_01, ib_0_2, ib_1_2, tn_0, tn_1, Int32.le_refl, eq_self, rv_bN, rv_iM, RCM 81, RLY, lit_at hw, ad_2, ad_4, ad_6, ad_8, ad_10, ad_12, ad_16, ad_24, ad_27, ad_28, ad_31, ad_35, ad_43, ad_51, ad_107, ad_131, ad_311, ml_3, ml_6, ml_7, ml_60, ml_100, ml_2471, mq_12, ar_2, ar_3, ar_4, ar_5, ar_6, of_add, of_mul, on_succ, ix (by omega : 6 + m < 2471) (by omega), c11, g2, iB_t hf1, z10, g6, mr hρ (by omega : 4 + m < 2471), x1, x2, a10]
            exact hQ
        · have hf1 : ¬ frP τ (way1 ρ m) m p g := fun q => hf ((frP_w hm).mp q)
          refine ⟨_, false, frR_I (a := 85) (j := 6 + m) (x := Int32.ofNat (ρ (6 + m) + 1)) (by omega), fW.symm, ?_, fun hD => cI_of (m := 2) (fun d hd Q hQ => ?_) rfl hD⟩
          · rw [if_neg (by decide), if_neg ho]
            unfold sTr
            rw [if_neg (fun q : arrP τ ρ m p g => hf q.2)]
            exact hρ1
          · have hd1 : 1 ≤ d := by omega
            rw [if_neg (by decide)] at hQ
            have g0 := fun {K : Int32 → Hp → Prop} => g_170 (K := K) (m := m) (p := p) hw hρ hm hs (by omega) hd1
            have g2 := fun {K : Int32 → Hp → Prop} => g_172 (K := K) (m := m) (p := p) (c := g) hw hτ1 hρ1 hv hm (by rw [eo2]; exact hs') (by omega) (by omega) hd
            refine b199_0 ?_
            simp only [↓br_pos, ↓br_neg, ↓rF_I, ↓rF_L, ↓rF_R, ↓rF_N, rO_m, rB_m, ↓rI_m, wI_m, ↓rB2_m, ↓rB3_m, wB2_m, wB3_m, ↓rL_m, wL_m, ↓rQ_m, wQ_m, ↓lI_m, pI_m, pL_m, pR_m, sI_m, sBy_m, sBo_m, sL_m, sQ_m, fst_m, true_and, and_true, tg_some, ln_some, uI_1, uI_2, uL_1, uL_2, uL_3, uQ_1, uQ_2, uQ_3, rv_i, rv_l, rv_n, rv_b0, rv_b1, RMR, ne_eq, reduceCtorEq, not_false_eq_true, Option.getD_some, if_true, if_false, and_self, false_and, and_false, Nat.add_left_cancel_iff, Nat.add_eq_left, Nat.left_eq_add, Nat.one_ne_zero, Nat.reduceAdd, Nat.reduceLT, Nat.reduceLeDiff, Nat.reduceEqDiff, true_implies, false_implies, implies_true, Option.some.injEq, forall_eq', forall_eq, reduceCtorEq, brT, brF, br_s, i_10, i_01, ib_0_2, ib_1_2, tn_0, tn_1, Int32.le_refl, eq_self, rv_bN, rv_iM, RCM 81, RLY, lit_at hw, g0, iB_f ho, z00, ad_2, ad_4, ad_6, ad_8, ad_10, ad_12, ad_16, ad_24, ad_27, ad_28, ad_31, ad_35, ad_43, ad_51, ad_107, ad_131, ad_311, ml_3, ml_6, ml_7, ml_60, ml_100, ml_2471, mq_12, ar_2, ar_3, ar_4, ar_5, ar_6, of_add, of_mul, on_succ, mr hρ (by omega : 6 + m < 2471), c10]
            refine b199_48 ?_
            simp only [↓br_pos, ↓br_neg, ↓rF_I, ↓rF_L, ↓rF_R, ↓rF_N, rO_m, rB_m, ↓rI_m, wI_m, ↓rB2_m, ↓rB3_m, wB2_m, wB3_m, ↓rL_m, wL_m, ↓rQ_m, wQ_m, ↓lI_m, pI_m, pL_m, pR_m, sI_m, sBy_m, sBo_m, sL_m, sQ_m, fst_m, true_and, and_true, tg_some, ln_some, uI_1, uI_2, uL_1, uL_2, uL_3, uQ_1, uQ_2, uQ_3, rv_i, rv_l, rv_n, rv_b0, rv_b1, RMR, ne_eq, reduceCtorEq, not_false_eq_true, Option.getD_some, if_true, if_false, and_self, false_and, and_false, Nat.add_left_cancel_iff, Nat.add_eq_left, Nat.left_eq_add, Nat.one_ne_zero, Nat.reduceAdd, Nat.reduceLT, Nat.reduceLeDiff, Nat.reduceEqDiff, true_implies, false_implies, implies_true, Option.some.injEq, forall_eq', forall_eq, reduceCtorEq, brT, brF, br_s, i_10, i_01, ib_0_2, ib_1_2, tn_0, tn_1, Int32.le_refl, eq_self, rv_bN, rv_iM, RCM 81, RLY, lit_at hw, ad_2, ad_4, ad_6, ad_8, ad_10, ad_12, ad_16, ad_24, ad_27, ad_28, ad_31, ad_35, ad_43, ad_51, ad_107, ad_131, ad_311, ml_3, ml_6, ml_7, ml_60, ml_100, ml_2471, mq_12, ar_2, ar_3, ar_4, ar_5, ar_6, of_add, of_mul, on_succ, ix (by omega : 6 + m < 2471) (by omega), c11, g2, iB_f hf1, z00]
            exact b199_88 ⟨rfl, hQ⟩
      · have c11 : ((10 : Int32) ≤ Int32.ofNat (ρ (6 + m) + 1)) ↔ False := iff_false_intro (fun q => absurd ((on_le (i := 10) (by omega) (by omega)).mp q) (by omega))
        refine ⟨_, false, frR_I (a := 85) (j := 6 + m) (x := Int32.ofNat (ρ (6 + m) + 1)) (by omega), fW.symm, ?_, fun hD => cI_of (m := 2) (fun d hd Q hQ => ?_) rfl hD⟩
        · rw [if_neg (by decide), if_neg ho]
          unfold sTr
          rw [if_neg (fun q : arrP τ ρ m p g => q.1 (by rw [e6]; omega))]
          exact hρ1
        · have hd1 : 1 ≤ d := by omega
          rw [if_neg (by decide)] at hQ
          have g0 := fun {K : Int32 → Hp → Prop} => g_170 (K := K) (m := m) (p := p) hw hρ hm hs (by omega) hd1
          refine b199_0 ?_
          simp only [↓br_pos, ↓br_neg, ↓rF_I, ↓rF_L, ↓rF_R, ↓rF_N, rO_m, rB_m, ↓rI_m, wI_m, ↓rB2_m, ↓rB3_m, wB2_m, wB3_m, ↓rL_m, wL_m, ↓rQ_m, wQ_m, ↓lI_m, pI_m, pL_m, pR_m, sI_m, sBy_m, sBo_m, sL_m, sQ_m, fst_m, true_and, and_true, tg_some, ln_some, uI_1, uI_2, uL_1, uL_2, uL_3, uQ_1, uQ_2, uQ_3, rv_i, rv_l, rv_n, rv_b0, rv_b1, RMR, ne_eq, reduceCtorEq, not_false_eq_true, Option.getD_some, if_true, if_false, and_self, false_and, and_false, Nat.add_left_cancel_iff, Nat.add_eq_left, Nat.left_eq_add, Nat.one_ne_zero, Nat.reduceAdd, Nat.reduceLT, Nat.reduceLeDiff, Nat.reduceEqDiff, true_implies, false_implies, implies_true, Option.some.injEq, forall_eq', forall_eq, reduceCtorEq, brT, brF, br_s, i_10, i_01, ib_0_2, ib_1_2, tn_0, tn_1, Int32.le_refl, eq_self, rv_bN, rv_iM, RCM 81, RLY, lit_at hw, g0, iB_f ho, z00, ad_2, ad_4, ad_6, ad_8, ad_10, ad_12, ad_16, ad_24, ad_27, ad_28, ad_31, ad_35, ad_43, ad_51, ad_107, ad_131, ad_311, ml_3, ml_6, ml_7, ml_60, ml_100, ml_2471, mq_12, ar_2, ar_3, ar_4, ar_5, ar_6, of_add, of_mul, on_succ, mr hρ (by omega : 6 + m < 2471), c10]
          refine b199_48 ?_
          simp only [↓br_pos, ↓br_neg, ↓rF_I, ↓rF_L, ↓rF_R, ↓rF_N, rO_m, rB_m, ↓rI_m, wI_m, ↓rB2_m, ↓rB3_m, wB2_m, wB3_m, ↓rL_m, wL_m, ↓rQ_m, wQ_m, ↓lI_m, pI_m, pL_m, pR_m, sI_m, sBy_m, sBo_m, sL_m, sQ_m, fst_m, true_and, and_true, tg_some, ln_some, uI_1, uI_2, uL_1, uL_2, uL_3, uQ_1, uQ_2, uQ_3, rv_i, rv_l, rv_n, rv_b0, rv_b1, RMR, ne_eq, reduceCtorEq, not_false_eq_true, Option.getD_some, if_true, if_false, and_self, false_and, and_false, Nat.add_left_cancel_iff, Nat.add_eq_left, Nat.left_eq_add, Nat.one_ne_zero, Nat.reduceAdd, Nat.reduceLT, Nat.reduceLeDiff, Nat.reduceEqDiff, true_implies, false_implies, implies_true, Option.some.injEq, forall_eq', forall_eq, reduceCtorEq, brT, brF, br_s, i_10, i_01, ib_0_2, ib_1_2, tn_0, tn_1, Int32.le_refl, eq_self, rv_bN, rv_iM, RCM 81, RLY, lit_at hw, ad_2, ad_4, ad_6, ad_8, ad_10, ad_12, ad_16, ad_24, ad_27, ad_28, ad_31, ad_35, ad_43, ad_51, ad_107, ad_131, ad_311, ml_3, ml_6, ml_7, ml_60, ml_100, ml_2471, mq_12, ar_2, ar_3, ar_4, ar_5, ar_6, of_add, of_mul, on_succ, ix (by omega : 6 + m < 2471) (by omega), c11]
          exact hQ
end
section
/-! the model: a MINUTE -/
theorem rSet_cm {ρ : Rw} {a b u v : Nat} (h : a ≠ b) : rSet (rSet ρ a u) b v = rSet (rSet ρ b v) a u := by
  funext j
  simp only [rSet_1]
  by_cases c : j = a
  · rw [if_pos c, if_pos c, if_neg (by omega)]
  · rw [if_neg c, if_neg c]
theorem rSet_id {ρ : Rw} {a : Nat} : rSet ρ a (ρ a) = ρ := by
  funext j
  rw [rSet_1]
  by_cases c : j = a
  · rw [if_pos c, c]
  · rw [if_neg c]
theorem rSet_id' {ρ : Rw} {a x : Nat} (h : x = ρ a) : rSet ρ a x = ρ := by rw [h]; exact rSet_id
/-- the stacker's step and the taker's waits -/
theorem c9_go {ρ : Rw} {x p c : Nat} : sGo (rSet ρ 9 x) 0 p c = rSet (sGo ρ 0 p c) 9 x := by
  have e : sGo (rSet ρ 9 x) 0 p c = rSet (rSet (rSet ρ 9 x) 4 (ρ 4 + if onAtD ρ 0 p then dist (cellAt ρ 0) c else 10)) 2 (100 * p + c + 1) := rfl
  rw [e, rSet_cm (a := 9) (b := 4) (by omega), rSet_cm (a := 9) (b := 2) (by omega)]
  rfl
theorem c9_fr {τ ρ : Rw} {x p c : Nat} : frP τ (rSet ρ 9 x) 0 p c ↔ frP τ ρ 0 p c := Iff.rfl
theorem c9_mv {τ ρ : Rw} {x p c : Nat} : sMv τ (rSet ρ 9 x) 0 p c = rSet (sMv τ ρ 0 p c) 9 x := by
  unfold sMv
  by_cases h : frP τ ρ 0 p c
  · rw [if_pos h, if_pos (show frP τ (rSet ρ 9 x) 0 p c from h)]
    exact c9_go
  · rw [if_neg h, if_neg (show ¬ frP τ (rSet ρ 9 x) 0 p c from h)]
theorem c9_w {ρ : Rw} {x : Nat} : way1 (rSet ρ 9 x) 0 = rSet (way1 ρ 0) 9 x := by
  have e : way1 (rSet ρ 9 x) 0 = if ρ 6 < 10 then rSet (rSet ρ 9 x) 6 (ρ 6 + 1) else rSet ρ 9 x := rfl
  have e' : way1 ρ 0 = if ρ 6 < 10 then rSet ρ 6 (ρ 6 + 1) else ρ := rfl
  rw [e, e']
  by_cases h : ρ 6 < 10
  · rw [if_pos h, if_pos h, rSet_cm (by omega)]
  · rw [if_neg h, if_neg h]
theorem c9_tr {τ ρ : Rw} {x p g : Nat} : sTr τ (rSet ρ 9 x) 0 p g = rSet (sTr τ ρ 0 p g) 9 x := by
  unfold sTr
  have ea : arrP τ (rSet ρ 9 x) 0 p g ↔ arrP τ ρ 0 p g := by
    unfold arrP
    rw [c9_w, rS_ne (by omega)]
    exact Iff.rfl
  by_cases h : arrP τ ρ 0 p g
  · rw [if_pos h, if_pos (ea.mpr h), c9_w, c9_go, rSet_cm (by omega)]
  · rw [if_neg h, if_neg (fun q => h (ea.mp q)), c9_w]
theorem c9_e0 {ρ : Rw} {x : Nat} : sE0 (rSet ρ 9 x) = rSet (sE0 ρ) 9 x := by
  funext j
  have e : sE0 (rSet ρ 9 x) j = if j = 10 then ρ 10 - 1 else if j = 6 then 0 else if 51 ≤ j ∧ j < 51 + 7 * (ρ 10 - 1) then rSet ρ 9 x (j + 7) else rSet ρ 9 x j := rfl
  have e2 : rSet (sE0 ρ) 9 x j = if j = 9 then x else sE0 ρ j := rfl
  rw [e, e2]
  unfold sE0
  by_cases c : j = 9
  · rw [if_pos c, if_neg (by omega : ¬ j = 10), if_neg (by omega : ¬ j = 6), if_neg (by omega : ¬ (51 ≤ j ∧ j < 51 + 7 * (ρ 10 - 1))), rSet_1, if_pos c]
  · rw [if_neg c, rS_ne c]
    by_cases y : 51 ≤ j ∧ j < 51 + 7 * (ρ 10 - 1)
    · rw [rS_ne (by omega : j + 7 ≠ 9)]
    · rw [if_neg y, if_neg y]
theorem c9_po {ρ : Rw} {x p k c t : Nat} : sPour (rSet ρ 9 x) p k c t = rSet (sPour ρ p k c t) 9 x := by
  unfold sPour
  rw [rS_ne (by unfold lo; omega : lo p k ≠ 9), rS_ne (by unfold li; omega : li p k c ≠ 9), rS_ne (by omega : 12 + ρ (lo p k) ≠ 9), rSet_cm (a := 9) (b := li p k c) (by unfold li; omega), rSet_cm (a := 9) (b := 12 + ρ (lo p k)) (by omega)]
theorem c9_new {ρ : Rw} {x p : Nat} : sNew (rSet ρ 9 x) p = rSet (sNew ρ p) 9 x := by
  unfold sNew sAdd
  rw [rS_ne (by omega : 24 + p ≠ 9), rS_ne (by omega : 52 ≠ 9), rSet_cm (a := 9) (b := lo p (ρ (24 + p))) (by unfold lo; omega), rSet_cm (a := 9) (b := 24 + p) (by omega), rSet_cm (a := 9) (b := 57) (by omega)]
theorem c9_aft {τ ρ : Rw} {x p g : Nat} : sAft τ (rSet ρ 9 x) p g = rSet (sAft τ ρ p g) 9 x := by
  have e : sAft τ (rSet ρ 9 x) p g = if g = ρ 54 then sE0 (rSet ρ 9 x) else sMv τ (rSet (rSet ρ 9 x) 56 (nx g (ρ 54))) 0 p (nx g (ρ 54)) := rfl
  rw [e]
  unfold sAft
  by_cases c : g = ρ 54
  · rw [if_pos c, if_pos c, c9_e0]
  · rw [if_neg c, if_neg c, rSet_cm (a := 9) (b := 56) (by omega), c9_mv]
theorem c9_lay {τ ρ : Rw} {x p g : Nat} : sLay τ (rSet ρ 9 x) p g = rSet (sLay τ ρ p g) 9 x := by
  have e1 : rSet ρ 9 x 52 = ρ 52 := rfl
  have e2 : rSet ρ 9 x (12 + ρ 52) = ρ (12 + ρ 52) := rS_ne (by omega)
  have e3 : rSet ρ 9 x 57 = ρ 57 := rfl
  have e4 : rSet ρ 9 x (24 + p) = ρ (24 + p) := rS_ne (by omega)
  have e5 : rSet ρ 9 x 55 = ρ 55 := rfl
  unfold sLay
  rw [e1, e2, e3, e4, e5]
  by_cases c : ρ (12 + ρ 52) = 0 ∨ (ρ 57 = 0 ∧ 60 ≤ ρ (24 + p))
  · rw [if_pos c, if_pos c, c9_e0]
  · rw [if_neg c, if_neg c]
    by_cases y : ρ 57 = 0
    · rw [if_pos y, if_pos y, c9_new, c9_po, c9_aft]
    · rw [if_neg y, if_neg y, c9_po, c9_aft]
theorem c9_k {τ ρ : Rw} {x : Nat} : kSt τ (rSet ρ 9 x) 0 = rSet (kSt τ ρ 0) 9 x := by
  have e : kSt τ (rSet ρ 9 x) 0 = if onAtD ρ 0 (ρ 51) = true then (if cellAt ρ 0 = ρ 56 then sLay τ (rSet ρ 9 x) (ρ 51) (ρ 56) else sMv τ (rSet ρ 9 x) 0 (ρ 51) (nx (cellAt ρ 0) (ρ 56))) else sTr τ (rSet ρ 9 x) 0 (ρ 51) (ρ 56) := rfl
  have e' : kSt τ ρ 0 = if onAtD ρ 0 (ρ 51) = true then (if cellAt ρ 0 = ρ 56 then sLay τ ρ (ρ 51) (ρ 56) else sMv τ ρ 0 (ρ 51) (nx (cellAt ρ 0) (ρ 56))) else sTr τ ρ 0 (ρ 51) (ρ 56) := rfl
  rw [e, e']
  by_cases c : onAtD ρ 0 (ρ 51) = true
  · rw [if_pos c, if_pos c]
    by_cases y : cellAt ρ 0 = ρ 56
    · rw [if_pos y, if_pos y, c9_lay]
    · rw [if_neg y, if_neg y, c9_mv]
  · rw [if_neg c, if_neg c, c9_tr]
theorem c9_kw {τ ρ : Rw} {x : Nat} : kW τ (rSet ρ 9 x) 0 = kW τ ρ 0 := rfl
theorem k0_9 {τ ρ : Rw} : kSt τ ρ 0 9 = ρ 9 := by
  have := c9_k (τ := τ) (ρ := ρ) (x := ρ 9)
  rw [rSet_id] at this
  rw [this]
  exact rS_eq
/-- who waits does nothing else -/
theorem kSt_w {τ ρ : Rw} {m : Nat} (h : kW τ ρ m = true) : kSt τ ρ m = ρ := by
  unfold kW at h
  unfold kSt
  by_cases c : onAtD ρ m (pO ρ m) = true
  · rw [if_pos c] at h ⊢
    by_cases y : cellAt ρ m = gO ρ m
    · rw [if_pos y] at h; exact absurd h (by decide)
    · rw [if_neg y] at h ⊢
      have := of_decide_eq_true h
      unfold sMv
      exact if_neg this
  · rw [if_neg c] at h ⊢
    have := of_decide_eq_true h
    unfold sTr
    rw [if_neg (fun q : arrP τ ρ m (pO ρ m) (gO ρ m) => this.2 q.2)]
    unfold way1
    exact if_neg this.1
/-- one machine's step in the model's row -/
def mS1 (τ ρ : Rw) (m : Nat) : Rw := if 0 < ρ (10 + m) then (if kW τ ρ m = true then rSet ρ (8 + m) (ρ (8 + m) + 1) else kSt τ ρ m) else ρ
def mV1 (τ ρ : Rw) (m : Nat) : Int32 := if 0 < ρ (10 + m) then (if kW τ ρ m = true then 1 else 0) else 2
theorem vRow_1 {τ ρ : Rw} {m : Nat} (hv : vTold τ) (h : vRow τ ρ) (hm : m < 2) : vRow τ (mS1 τ ρ m) := by
  unfold mS1
  by_cases c : 0 < ρ (10 + m)
  · rw [if_pos c]
    by_cases y : kW τ ρ m = true
    · rw [if_pos y]; exact vRow_s hv h (by omega)
    · rw [if_neg y]; exact vRow_k hv h hm c
  · rw [if_neg c]; exact h
theorem kW_n {τ ρ : Rw} {m : Nat} (h : ¬ (onAtD ρ m (pO ρ m) = true ∧ cellAt ρ m = gO ρ m)) : kW τ ρ m = (if onAtD ρ m (pO ρ m) = true then decide (¬ frP τ ρ m (pO ρ m) (nx (cellAt ρ m) (gO ρ m))) else decide (¬ ρ (6 + m) < 10 ∧ ¬ frP τ ρ m (pO ρ m) (gO ρ m))) ∧ kSt τ ρ m = (if onAtD ρ m (pO ρ m) = true then sMv τ ρ m (pO ρ m) (nx (cellAt ρ m) (gO ρ m)) else sTr τ ρ m (pO ρ m) (gO ρ m)) := by
  unfold kW kSt
  by_cases c : onAtD ρ m (pO ρ m) = true
  · have y : ¬ cellAt ρ m = gO ρ m := fun q => h ⟨c, q⟩
    exact ⟨by rw [if_pos c, if_neg y, if_pos c], by rw [if_pos c, if_neg y, if_pos c]⟩
  · exact ⟨by rw [if_neg c, if_neg c], by rw [if_neg c, if_neg c]⟩
theorem kW_y {τ ρ : Rw} {m : Nat} (h1 : onAtD ρ m (pO ρ m) = true) (h2 : cellAt ρ m = gO ρ m) : kW τ ρ m = false ∧ kSt τ ρ m = (if m = 1 then sCut τ ρ (pO ρ m) (gO ρ m) else sLay τ ρ (pO ρ m) (gO ρ m)) := by
  unfold kW kSt
  exact ⟨by rw [if_pos h1, if_pos h2], by rw [if_pos h1, if_pos h2]⟩
theorem A1_eq {τ ρ : Rw} : mS1 τ ρ 1 = rSet (mR1 τ ρ) 9 (mR1 τ ρ 9 + if mW1 τ ρ = true then 1 else 0) := by
  unfold mS1 mR1 mW1
  by_cases c : 0 < ρ 11
  · rw [if_pos (show 0 < ρ (10 + 1) from c), if_pos c, if_pos c]
    by_cases y : kW τ ρ 1 = true
    · rw [if_pos y, if_pos y, kSt_w y]
    · rw [if_neg y, if_neg y]
      exact rSet_id.symm
  · rw [if_neg (show ¬ 0 < ρ (10 + 1) from c), if_neg c, if_neg c]
    rw [if_neg (by decide)]
    exact rSet_id.symm
theorem R1_10 {τ ρ : Rw} (hv : vTold τ) (h : vRow τ ρ) : mR1 τ ρ 10 = ρ 10 := by
  unfold mR1
  by_cases c : 0 < ρ 11
  · rw [if_pos c]; exact k1_g hv h c (Or.inl rfl)
  · rw [if_neg c]
theorem A0_eq {τ ρ : Rw} (hv : vTold τ) (h : vRow τ ρ) : mS1 τ (mS1 τ ρ 1) 0 = rSet (rSet (mR0 τ ρ) 9 (mR0 τ ρ 9 + if mW1 τ ρ = true then 1 else 0)) 8 (mR0 τ ρ 8 + if mW0 τ ρ = true then 1 else 0) := by
  rw [A1_eq]
  have e10 := R1_10 hv h
  generalize hy : mR1 τ ρ 9 + (if mW1 τ ρ = true then 1 else 0) = y
  have e : mS1 τ (rSet (mR1 τ ρ) 9 y) 0 = if 0 < mR1 τ ρ 10 then (if kW τ (mR1 τ ρ) 0 = true then rSet (rSet (mR1 τ ρ) 9 y) 8 (mR1 τ ρ 8 + 1) else kSt τ (rSet (mR1 τ ρ) 9 y) 0) else rSet (mR1 τ ρ) 9 y := rfl
  rw [e, e10]
  unfold mR0 mW0
  by_cases c : 0 < ρ 10
  · rw [if_pos c, if_pos c, if_pos c]
    by_cases z : kW τ (mR1 τ ρ) 0 = true
    · rw [if_pos z, if_pos z, kSt_w z, hy]
    · rw [if_neg z, if_neg z, c9_k, k0_9, hy]
      exact (rSet_id' (by rw [rS_ne (by omega)]; rfl)).symm
  · rw [if_neg c, if_neg c, if_neg c]
    rw [hy]
    exact (rSet_id' (by rw [rS_ne (by omega)]; rfl)).symm
theorem Mn_eq {τ ρ : Rw} (hv : vTold τ) (h : vRow τ ρ) : rSet (mS1 τ (mS1 τ ρ 1) 0) 1 (mS1 τ (mS1 τ ρ 1) 0 1 + 1) = sMin τ ρ := by
  rw [A0_eq hv h]
  rfl
theorem V0_eq {τ ρ : Rw} (hv : vTold τ) (h : vRow τ ρ) : mV1 τ (mS1 τ ρ 1) 0 = if 0 < ρ 10 then (if kW τ (mR1 τ ρ) 0 = true then 1 else 0) else 2 := by
  rw [A1_eq, ← R1_10 hv h]
  rfl
/-- what is left as it was -/
def frB (σ σ' : mS) : Prop := (∀ a, a ≠ 81 → a ≠ 85 → σ'.1 a = σ.1 a) ∧ (∀ j, j ≠ 16 → j ≠ 17 → σ'.1 81 j = σ.1 81 j) ∧ σ'.2 = σ.2
theorem frB_rf {σ : mS} : frB σ σ := ⟨fun _ _ _ => rfl, fun _ _ _ => rfl, rfl⟩
theorem frB_tr {σ σ' σ'' : mS} (h : frB σ σ') (h' : frB σ' σ'') : frB σ σ'' := ⟨fun a q r => (h'.1 a q r).trans (h.1 a q r), fun j q r => (h'.2.1 j q r).trans (h.2.1 j q r), h'.2.2.trans h.2.2⟩
theorem frB_R {σ σ' : mS} (f : frR 85 86 σ σ') : frB σ σ' := ⟨fun a _ r => f.1 a (by omega), fun j _ _ => by rw [f.1 81 (by omega)], f.2⟩
theorem frB_su {σ : mS} {T G : Nat} : frB σ (su σ T G) := ⟨fun a q _ => su_a q, fun j q r => by unfold su; rw [uI_1, if_neg (by omega), uI_1, if_neg (by omega)], rfl⟩
theorem frB_A {σ σ' : mS} (f : frB σ σ') : frA σ σ' := ⟨fun a q => ⟨f.1 a (by omega) (by omega), by rw [f.2.2]⟩, by rw [f.2.2]⟩
theorem mIn_B {w : mT} {σ σ' : mS} {tp n : Nat} {t : Nat → Nat} {τ ρ : Rw} {bk : Nat → Rw} {has : Nat → Bool} {im : Nat → Rw} {ρ' : Rw} (h : mIn w σ tp t τ ρ n bk has im) (f : frB σ σ') (hρ' : mRow σ' 85 0 ρ') (hr' : vRow τ ρ') : mIn w σ' tp t τ ρ' n bk has im := by
  have M := h
  obtain ⟨hw, hτ, hρ, hv, hr, hp2, htp, htb, htl, hn, hn12, hbk, him⟩ := h
  refine ⟨hw, mT_c hτ (f.1 83 (by omega) (by omega)), hρ', hv, hr', by rw [f.2.1 2 (by omega) (by omega)]; exact hp2, htp, fun i hi => by rw [f.1 82 (by omega) (by omega)]; exact htb i hi, htl, by rw [f.2.1 18 (by omega) (by omega)]; exact hn, hn12, fun i hi => ⟨mR_c (hbk i hi).1 (f.1 86 (by omega) (by omega)), (hbk i hi).2⟩, fun k hk => ?_⟩
  obtain ⟨a, b⟩ := him k hk
  exact ⟨by rw [f.1 87 (by omega) (by omega)]; exact a, fun q => ⟨mR_c (b q).1 (f.1 88 (by omega) (by omega)), (b q).2⟩⟩
theorem W3 {W : Bool} : ((if W = true then (1 : Int32) else 0) = (3 : Int32)) ↔ False := by cases W <;> decide
theorem k_200 {w : mT} {σ : mS} {τ ρ : Rw} (hw : lit w) (hτ : mTold σ τ) (hρ : mRow σ 85 0 ρ) (hv : vTold τ) (hr : vRow τ ρ) : ∃ σ', frB σ σ' ∧ mRow σ' 85 0 (mS1 τ ρ 1) ∧ ∀ {D : Nat} {K : Int32 → Hp → Prop}, 4 ≤ D → (wpI D 200 [.ref 81] (mW w σ) K ↔ K (mV1 τ ρ 1) (mW w σ')) := by
  unfold mS1 mV1
  by_cases hn : 0 < ρ 11
  · rw [if_pos (show 0 < ρ (10 + 1) from hn), if_pos (show 0 < ρ (10 + 1) from hn)]
    obtain ⟨o1, o2, o3⟩ := vR_o1 hr 0 hn
    have o1 : ρ 107 < τ 1 := o1
    have o2 : ρ 108 < τ (28 + ρ 107) := o2
    have o3 : ρ 109 < τ 2 := o3
    have c8 := vR_c1 hr
    have v1 := hv.2.1
    have v2 := (hv.2.2.2.2.2.1 (ρ 107) o1).2
    have v3 := hv.2.2.1
    have c0 : (Int32.ofNat (ρ 11) = 0) ↔ False := iff_false_intro (fun q => by have := (of_eq0 (by omega)).mp q; omega)
    by_cases R : onAtD ρ 1 (ρ 107) = true ∧ cellAt ρ 1 = ρ 108
    · obtain ⟨kw, ks⟩ := kW_y (τ := τ) (m := 1) R.1 R.2
      rw [kw, ks, if_pos rfl, if_neg (by decide), if_neg (by decide)]
      show ∃ σ', frB σ σ' ∧ mRow σ' 85 0 (sCut τ ρ (ρ 107) (ρ 108)) ∧ _
      unfold sCut
      have e3 : ((3 : Int32) = 3) ↔ True := by decide
      have rs := vR_sa hr _ o3
      have hh := hold_lt hr o3
      have m43 := mr hρ (by omega : 43 + ρ 109 < 2471)
      by_cases y : tkP τ ρ (ρ 109)
      · rw [if_pos y]
        obtain ⟨σ1, T, Gs, f1, t1, e1⟩ := o_187 (s := ρ 109) hw hτ hρ hv hr (by omega : ρ 107 < 3) (by omega : ρ 108 < 12) o3
        have s11 : sMove τ ρ (ρ 107) (ρ 108) (ρ 109) 11 = ρ 11 := sMove_g (by omega) (by omega) (by omega)
        obtain ⟨σ2, f2, t2, e2⟩ := o_196_1 hw t1 (by omega) (by omega)
        refine ⟨σ2, frB_tr frB_su (frB_tr (frB_R f1) (frB_R f2)), t2, fun hD => cI_of (m := 3) (fun d hd Q hQ => ?_) rfl hD⟩
        have hd1 : 1 ≤ d := by omega
        have hd2 : 2 ≤ d := by omega
        have c1 : (Int32.ofNat (ρ (43 + ρ 109)) = 0) ↔ True := iff_true_intro (by rw [y.1]; rfl)
        have nf : ¬ τ (31 + 6 * ρ 109) ≤ ρ (27 + ρ 109) := by have := y.2; omega
        refine b200_0 ?_
        simp only [↓br_pos, ↓br_neg, ↓rF_I, ↓rF_L, ↓rF_R, ↓rF_N, rO_m, rB_m, ↓rI_m, wI_m, ↓rB2_m, ↓rB3_m, wB2_m, wB3_m, ↓rL_m, wL_m, ↓rQ_m, wQ_m, ↓lI_m, pI_m, pL_m, pR_m, sI_m, sBy_m, sBo_m, sL_m, sQ_m, fst_m, true_and, and_true, tg_some, ln_some, uI_1, uI_2, uL_1, uL_2, uL_3, uQ_1, uQ_2, uQ_3, rv_i, rv_l, rv_n, rv_b0, rv_b1, RMR, ne_eq, reduceCtorEq, not_false_eq_true, Option.getD_some, if_true, if_false, and_self, false_and, and_false, Nat.add_left_cancel_iff, Nat.add_eq_left, Nat.left_eq_add, Nat.one_ne_zero, Nat.reduceAdd, Nat.reduceLT, Nat.reduceLeDiff, Nat.reduceEqDiff, true_implies, false_implies, implies_true, Option.some.injEq, forall_eq', forall_eq, reduceCtorEq, brT, brF, br_s, i_10, i_01, ib_0_2, ib_1_2, tn_0, tn_1, Int32.le_refl, eq_self, rv_bN, rv_iM, RCM 81, RLY, lit_at hw, ad_2, ad_4, ad_6, ad_8, ad_10, ad_12, ad_16, ad_24, ad_27, ad_28, ad_31, ad_35, ad_43, ad_51, ad_107, ad_131, ad_311, ml_3, ml_6, ml_7, ml_60, ml_100, ml_2471, mq_12, ar_2, ar_3, ar_4, ar_5, ar_6, of_add, of_mul, on_succ, mr_11l hρ, c0, mr_107l hρ, mr_108l hρ, mr_109l hρ, n_199r (m := 1) (x := 1) hw hρ hv hr rfl (by omega) (by omega : ρ 107 < 1000) R.1 R.2 hd2, e3, m43, c1, g_159 hw hτ hρ hv o3 hh hd2, iB_f nf, z00, e1 hd, e2 hd1]
        exact hQ
      · rw [if_neg y]
        obtain ⟨σ2, f2, t2, e2⟩ := o_196_1 hw hρ hn c8
        refine ⟨σ2, frB_R f2, t2, fun hD => cI_of (m := 3) (fun d hd Q hQ => ?_) rfl hD⟩
        have hd1 : 1 ≤ d := by omega
        have hd2 : 2 ≤ d := by omega
        refine b200_0 ?_
        by_cases z : ρ (43 + ρ 109) = 0
        · have c1 : (Int32.ofNat (ρ (43 + ρ 109)) = 0) ↔ True := iff_true_intro (by rw [z]; rfl)
          have nf : τ (31 + 6 * ρ 109) ≤ ρ (27 + ρ 109) := by
            apply Decidable.byContradiction
            intro q
            exact y ⟨z, by omega⟩
          simp only [↓br_pos, ↓br_neg, ↓rF_I, ↓rF_L, ↓rF_R, ↓rF_N, rO_m, rB_m, ↓rI_m, wI_m, ↓rB2_m, ↓rB3_m, wB2_m, wB3_m, ↓rL_m, wL_m, ↓rQ_m, wQ_m, ↓lI_m, pI_m, pL_m, pR_m, sI_m, sBy_m, sBo_m, sL_m, sQ_m, fst_m, true_and, and_true, tg_some, ln_some, uI_1, uI_2, uL_1, uL_2, uL_3, uQ_1, uQ_2, uQ_3, rv_i, rv_l, rv_n, rv_b0, rv_b1, RMR, ne_eq, reduceCtorEq, not_false_eq_true, Option.getD_some, if_true, if_false, and_self, false_and, and_false, Nat.add_left_cancel_iff, Nat.add_eq_left, Nat.left_eq_add, Nat.one_ne_zero, Nat.reduceAdd, Nat.reduceLT, Nat.reduceLeDiff, Nat.reduceEqDiff, true_implies, false_implies, implies_true, Option.some.injEq, forall_eq', forall_eq, reduceCtorEq, brT, brF, br_s, i_10, i_01, ib_0_2, ib_1_2, tn_0, tn_1, Int32.le_refl, eq_self, rv_bN, rv_iM, RCM 81, RLY, lit_at hw, ad_2, ad_4, ad_6, ad_8, ad_10, ad_12, ad_16, ad_24, ad_27, ad_28, ad_31, ad_35, ad_43, ad_51, ad_107, ad_131, ad_311, ml_3, ml_6, ml_7, ml_60, ml_100, ml_2471, mq_12, ar_2, ar_3, ar_4, ar_5, ar_6, of_add, of_mul, on_succ, mr_11l hρ, c0, mr_107l hρ, mr_108l hρ, mr_109l hρ, n_199r (m := 1) (x := 1) hw hρ hv hr rfl (by omega) (by omega : ρ 107 < 1000) R.1 R.2 hd2, e3, m43, c1, g_159 hw hτ hρ hv o3 hh hd2, iB_t nf, z10, e2 hd1]
          exact hQ
        · have c1 : (Int32.ofNat (ρ (43 + ρ 109)) = 0) ↔ False := iff_false_intro (fun q => z ((of_eq0 (by omega)).mp q))
          simp only [↓br_pos, ↓br_neg, ↓rF_I, ↓rF_L, ↓rF_R, ↓rF_N, rO_m, rB_m, ↓rI_m, wI_m, ↓rB2_m, ↓rB3_m, wB2_m, wB3_m, ↓rL_m, wL_m, ↓rQ_m, wQ_m, ↓lI_m, pI_m, pL_m, pR_m, sI_m, sBy_m, sBo_m, sL_m, sQ_m, fst_m, true_and, and_true, tg_some, ln_some, uI_1, uI_2, uL_1, uL_2, uL_3, uQ_1, uQ_2, uQ_3, rv_i, rv_l, rv_n, rv_b0, rv_b1, RMR, ne_eq, reduceCtorEq, not_false_eq_true, Option.getD_some, if_true, if_false, and_self, false_and, and_false, Nat.add_left_cancel_iff, Nat.add_eq_left, Nat.left_eq_add, Nat.one_ne_zero, Nat.reduceAdd, Nat.reduceLT, Nat.reduceLeDiff, Nat.reduceEqDiff, true_implies, false_implies, implies_true, Option.some.injEq, forall_eq', forall_eq, reduceCtorEq, brT, brF, br_s, i_10, i_01, ib_0_2, ib_1_2, tn_0, tn_1, Int32.le_refl, eq_self, rv_bN, rv_iM, RCM 81, RLY, lit_at hw, ad_2, ad_4, ad_6, ad_8, ad_10, ad_12, ad_16, ad_24, ad_27, ad_28, ad_31, ad_35, ad_43, ad_51, ad_107, ad_131, ad_311, ml_3, ml_6, ml_7, ml_60, ml_100, ml_2471, mq_12, ar_2, ar_3, ar_4, ar_5, ar_6, of_add, of_mul, on_succ, mr_11l hρ, c0, mr_107l hρ, mr_108l hρ, mr_109l hρ, n_199r (m := 1) (x := 1) hw hρ hv hr rfl (by omega) (by omega : ρ 107 < 1000) R.1 R.2 hd2, e3, m43, c1, e2 hd1]
          exact hQ
    · obtain ⟨kw, ks⟩ := kW_n (τ := τ) (m := 1) R
      obtain ⟨σ1, W, f1, eW, t1, e1⟩ := n_199 (x := 1) (p := ρ 107) (g := ρ 108) hw hτ hρ hv hr rfl (by omega : 1 < 2) o1 o2 R
      rw [kw, ks]
      show ∃ σ', frB σ σ' ∧ mRow σ' 85 0 (if (if onAtD ρ 1 (ρ 107) = true then decide (¬ frP τ ρ 1 (ρ 107) (nx (cellAt ρ 1) (ρ 108))) else decide (¬ ρ (6 + 1) < 10 ∧ ¬ frP τ ρ 1 (ρ 107) (ρ 108))) = true then rSet ρ (8 + 1) (ρ (8 + 1) + 1) else if onAtD ρ 1 (ρ 107) = true then sMv τ ρ 1 (ρ 107) (nx (cellAt ρ 1) (ρ 108)) else sTr τ ρ 1 (ρ 107) (ρ 108)) ∧ ∀ {D : Nat} {K : Int32 → Hp → Prop}, 4 ≤ D → (wpI D 200 [.ref 81] (mW w σ) K ↔ K (if (if onAtD ρ 1 (ρ 107) = true then decide (¬ frP τ ρ 1 (ρ 107) (nx (cellAt ρ 1) (ρ 108))) else decide (¬ ρ (6 + 1) < 10 ∧ ¬ frP τ ρ 1 (ρ 107) (ρ 108))) = true then 1 else 0) (mW w σ'))
      rw [← eW]
      refine ⟨σ1, frB_R f1, t1, fun hD => cI_of (m := 3) (fun d hd Q hQ => ?_) rfl hD⟩
      refine b200_0 ?_
      simp only [↓br_pos, ↓br_neg, ↓rF_I, ↓rF_L, ↓rF_R, ↓rF_N, rO_m, rB_m, ↓rI_m, wI_m, ↓rB2_m, ↓rB3_m, wB2_m, wB3_m, ↓rL_m, wL_m, ↓rQ_m, wQ_m, ↓lI_m, pI_m, pL_m, pR_m, sI_m, sBy_m, sBo_m, sL_m, sQ_m, fst_m, true_and, and_true, tg_some, ln_some, uI_1, uI_2, uL_1, uL_2, uL_3, uQ_1, uQ_2, uQ_3, rv_i, rv_l, rv_n, rv_b0, rv_b1, RMR, ne_eq, reduceCtorEq, not_false_eq_true, Option.getD_some, if_true, if_false, and_self, false_and, and_false, Nat.add_left_cancel_iff, Nat.add_eq_left, Nat.left_eq_add, Nat.one_ne_zero, Nat.reduceAdd, Nat.reduceLT, Nat.reduceLeDiff, Nat.reduceEqDiff, true_implies, false_implies, implies_true, Option.some.injEq, forall_eq', forall_eq, reduceCtorEq, brT, brF, br_s, i_10, i_01, ib_0_2, ib_1_2, tn_0, tn_1, Int32.le_refl, eq_self, rv_bN, rv_iM, RCM 81, RLY, lit_at hw, mr_11l hρ, c0, mr_107l hρ, mr_108l hρ, mr_109l hρ, e1 hd, W3]
      exact hQ
  · rw [if_neg (show ¬ 0 < ρ (10 + 1) from hn), if_neg (show ¬ 0 < ρ (10 + 1) from hn)]
    refine ⟨σ, frB_rf, hρ, fun hD => cI_of (m := 3) (fun d hd Q hQ => ?_) rfl hD⟩
    have c0 : (Int32.ofNat (ρ 11) = 0) ↔ True := iff_true_intro (by rw [show ρ 11 = 0 by omega]; rfl)
    refine b200_0 ?_
    simp only [↓br_pos, ↓br_neg, ↓rF_I, ↓rF_L, ↓rF_R, ↓rF_N, rO_m, rB_m, ↓rI_m, wI_m, ↓rB2_m, ↓rB3_m, wB2_m, wB3_m, ↓rL_m, wL_m, ↓rQ_m, wQ_m, ↓lI_m, pI_m, pL_m, pR_m, sI_m, sBy_m, sBo_m, sL_m, sQ_m, fst_m, true_and, and_true, tg_some, ln_some, uI_1, uI_2, uL_1, uL_2, uL_3, uQ_1, uQ_2, uQ_3, rv_i, rv_l, rv_n, rv_b0, rv_b1, RMR, ne_eq, reduceCtorEq, not_false_eq_true, Option.getD_some, if_true, if_false, and_self, false_and, and_false, Nat.add_left_cancel_iff, Nat.add_eq_left, Nat.left_eq_add, Nat.one_ne_zero, Nat.reduceAdd, Nat.reduceLT, Nat.reduceLeDiff, Nat.reduceEqDiff, true_implies, false_implies, implies_true, Option.some.injEq, forall_eq', forall_eq, reduceCtorEq, brT, brF, br_s, i_10, i_01, ib_0_2, ib_1_2, tn_0, tn_1, Int32.le_refl, eq_self, rv_bN, rv_iM, RCM 81, RLY, lit_at hw, mr_11l hρ, c0]
    exact hQ
end
section
/-! the model: the stacker's step, minutes, ends -/
theorem tn54 : (54 : Int32).toNatClampNeg = 54 := by decide
theorem inB_2471_54 : inB (54 : Int32) 2471 = true := by decide
theorem tn55 : (55 : Int32).toNatClampNeg = 55 := by decide
theorem inB_2471_55 : inB (55 : Int32) 2471 = true := by decide
theorem tn56 : (56 : Int32).toNatClampNeg = 56 := by decide
theorem inB_2471_56 : inB (56 : Int32) 2471 = true := by decide
theorem tn57 : (57 : Int32).toNatClampNeg = 57 := by decide
theorem inB_2471_57 : inB (57 : Int32) 2471 = true := by decide
theorem t150 {w : mT} {σ : mS} {τ ρ : Rw} {p l g k t : Nat} {a4 a5 : Int32} (hw : lit w) (hτ : mTold σ τ) (hρ : mRow σ 85 0 ρ) (hv : vTold τ) (hp : p < 3) (hl : l < 12) (hg : g < 12) (hk : k < 60) (h57 : ρ 57 = k + 1) (hlo : ρ (lo p k) = l) (ht : t ≤ ρ (12 + l)) (h54 : ρ 54 < 12) (hn : 0 < ρ 10) (hn8 : ρ 10 ≤ 8) (hs : ρ 3 < 1000) (ho : onAtD ρ 0 p = true) (hc : cellAt ρ 0 = g) : ∃ σ', frR 85 86 σ σ' ∧ mRow σ' 85 0 (sAft τ (sPour ρ p k g t) p g) ∧ ∀ {Q : Option (Option Value) → Hp → Prop} {d : Nat}, 3 ≤ d → Q (some (some (.int 0))) (mW w σ') → Wp 201 150 [.ref 81, .int (Int32.ofNat p), .int (Int32.ofNat l), .int (Int32.ofNat g), .int a4, .int a5, .int (Int32.ofNat t), jk] [] (mW w σ) Q d := by
  have hS : ∀ j, (j < 12 ∨ 24 ≤ j ∧ j < 311) → sPour ρ p k g t j = ρ j := fun j hj => by
    rw [sPour_1, hlo, if_neg (by omega), if_neg (by unfold li; omega)]
  have t1 : mRow (uI (uI σ 85 (li p k g) (Int32.ofNat (ρ (li p k g) + t))) 85 (12 + l) (Int32.ofNat (ρ (12 + l) - t))) 85 0 (sPour ρ p k g t) := mR_e (mR_w (mR_w hρ)) (fun j _ => by rw [sPour_1, hlo, rSet_1, rSet_1])
  have T1 : mTold (uI (uI σ 85 (li p k g) (Int32.ofNat (ρ (li p k g) + t))) 85 (12 + l) (Int32.ofNat (ρ (12 + l) - t))) τ := mT_c hτ (by rw [uI_o (by omega), uI_o (by omega)])
  have fr1 : frR 85 86 σ (uI (uI σ 85 (li p k g) (Int32.ofNat (ρ (li p k g) + t))) 85 (12 + l) (Int32.ofNat (ρ (12 + l) - t))) := frR_tr (frR_I (by omega)) (frR_I (by omega))
  have lb : li p k g < 2471 := by unfold li; omega
  have x1 : ((12 + l : Nat) = li p k g) ↔ False := iff_false_intro (by unfold li; omega)
  have x2 : ((54 : Nat) = 12 + l) ↔ False := iff_false_intro (by omega)
  have x3 : ((54 : Nat) = li p k g) ↔ False := iff_false_intro (by unfold li; omega)
  have e57 : Int32.ofNat (k + 1) - 1 = Int32.ofNat k := on_pred (by omega)
  have m57 := mr_57l hρ
  rw [h57] at m57
  have eA : sAft τ (sPour ρ p k g t) p g = if g = ρ 54 then sE0 (sPour ρ p k g t) else sMv τ (rSet (sPour ρ p k g t) 56 (nx g (ρ 54))) 0 p (nx g (ρ 54)) := by
    unfold sAft
    rw [hS 54 (by omega)]
  rw [eA]
  by_cases z : g = ρ 54
  · rw [if_pos z]
    obtain ⟨σ2, f2, t2, e2⟩ := o_196_0 hw t1 (by rw [hS 10 (by omega)]; exact hn) (by rw [hS 10 (by omega)]; exact hn8)
    refine ⟨σ2, frR_tr fr1 f2, t2, fun hd hQ => ?_⟩
    rename_i Q d
    have hd1 : 1 ≤ d := by omega
    have c1 : (Int32.ofNat g = Int32.ofNat (ρ 54)) ↔ True := iff_true_intro (by rw [z])
    refine b201_150 ?_
    simp only [↓br_pos, ↓br_neg, ↓rF_I, ↓rF_L, ↓rF_R, ↓rF_N, rO_m, rB_m, ↓rI_m, wI_m, ↓rB2_m, ↓rB3_m, wB2_m, wB3_m, ↓rL_m, wL_m, ↓rQ_m, wQ_m, ↓lI_m, pI_m, pL_m, pR_m, sI_m, sBy_m, sBo_m, sL_m, sQ_m, fst_m, true_and, and_true, tg_some, ln_some, uI_1, uI_2, uL_1, uL_2, uL_3, uQ_1, uQ_2, uQ_3, rv_i, rv_l, rv_n, rv_b0, rv_b1, RMR, ne_eq, reduceCtorEq, not_false_eq_true, Option.getD_some, if_true, if_false, and_self, false_and, and_false, Nat.add_left_cancel_iff, Nat.add_eq_left, Nat.left_eq_add, Nat.one_ne_zero, Nat.reduceAdd, Nat.reduceLT, Nat.reduceLeDiff, Nat.reduceEqDiff, true_implies, false_implies, implies_true, Option.some.injEq, forall_eq', forall_eq, reduceCtorEq, brT, brF, br_s, i_10, i_01, ib_0_2, ib_1_2, tn_0, tn_1, Int32.le_refl, eq_self, rv_bN, rv_iM, RCM 81, RLY, lit_at hw, ad_2, ad_4, ad_6, ad_8, ad_10, ad_12, ad_16, ad_24, ad_27, ad_28, ad_31, ad_35, ad_43, ad_51, ad_107, ad_131, ad_311, ml_3, ml_6, ml_7, ml_60, ml_100, ml_2471, mq_12, ar_2, ar_3, ar_4, ar_5, ar_6, of_add, of_mul, on_succ, m57, e57, g_156 hd1, mr hρ lb, mr hρ (by omega : 12 + l < 2471), x1, of_sub ht, x2, x3, mr_54l hρ, c1, e2 hd1]
    exact hQ
  · rw [if_neg z]
    have c1 : (Int32.ofNat g = Int32.ofNat (ρ 54)) ↔ False := iff_false_intro (fun q => z ((of_inj (by omega) (by omega)).mp q))
    have nl : nx g (ρ 54) < 12 := nx_lt hg h54
    have t2 := mR_w (j := 56) (x := nx g (ρ 54)) t1
    have T2 : mTold (uI (uI (uI σ 85 (li p k g) (Int32.ofNat (ρ (li p k g) + t))) 85 (12 + l) (Int32.ofNat (ρ (12 + l) - t))) 85 56 (Int32.ofNat (nx g (ρ 54)))) τ := mT_c T1 (uI_o (by omega))
    have e2 : rSet (sPour ρ p k g t) 56 (nx g (ρ 54)) 2 = ρ 2 := by rw [rS_ne (by omega)]; exact hS 2 (by omega)
    have e3 : rSet (sPour ρ p k g t) 56 (nx g (ρ 54)) 3 = ρ 3 := by rw [rS_ne (by omega)]; exact hS 3 (by omega)
    have ho' : onAtD (rSet (sPour ρ p k g t) 56 (nx g (ρ 54))) 0 p = true := by
      have : onAtD (rSet (sPour ρ p k g t) 56 (nx g (ρ 54))) 0 p = decide (rSet (sPour ρ p k g t) 56 (nx g (ρ 54)) 2 ≠ 0 ∧ (rSet (sPour ρ p k g t) 56 (nx g (ρ 54)) 2 - 1) / 100 = p) := rfl
      rw [this, e2]; exact ho
    have hc' : cellAt (rSet (sPour ρ p k g t) 56 (nx g (ρ 54))) 0 = g := by
      have : cellAt (rSet (sPour ρ p k g t) 56 (nx g (ρ 54))) 0 = (rSet (sPour ρ p k g t) 56 (nx g (ρ 54)) 2 - 1) % 100 := rfl
      rw [this, e2]; exact hc
    have dn : dist (cellAt (rSet (sPour ρ p k g t) 56 (nx g (ρ 54))) 0) (nx g (ρ 54)) = 1 := by rw [hc']; unfold nx dist; split <;> omega
    have nx2 : ∃ σ', frR 85 86 (uI (uI (uI σ 85 (li p k g) (Int32.ofNat (ρ (li p k g) + t))) 85 (12 + l) (Int32.ofNat (ρ (12 + l) - t))) 85 56 (Int32.ofNat (nx g (ρ 54)))) σ' ∧ mRow σ' 85 0 (sMv τ (rSet (sPour ρ p k g t) 56 (nx g (ρ 54))) 0 p (nx g (ρ 54))) ∧ ∀ {Q : Option (Option Value) → Hp → Prop} {d : Nat}, 3 ≤ d → Q (some (some (.int 0))) (mW w σ') → wpI d 172 [.ref 81, .int (0 : Int32), .int (Int32.ofNat p), .int (Int32.ofNat (nx g (ρ 54)))] (mW w (uI (uI (uI σ 85 (li p k g) (Int32.ofNat (ρ (li p k g) + t))) 85 (12 + l) (Int32.ofNat (ρ (12 + l) - t))) 85 56 (Int32.ofNat (nx g (ρ 54))))) (fun x16 h15 => br (x16 = 0) (Q (some (some (.int (0 : Int32)))) h15) (hOb h15 81 8 ∧ (wpV d 198 [.ref 81, .int (0 : Int32), .int (Int32.ofNat p), .int (Int32.ofNat (nx g (ρ 54)))] h15 (fun h17 => Q (some (some (.int (0 : Int32)))) h17)))) := by
      unfold sMv
      by_cases hf : frP τ (rSet (sPour ρ p k g t) 56 (nx g (ρ 54))) 0 p (nx g (ρ 54))
      · rw [if_pos hf]
        obtain ⟨σ2, f2, r2, q2⟩ := o_198 (x := 0) (m := 0) (p := p) (c := nx g (ρ 54)) hw t2 rfl (by omega) ho' dn
        refine ⟨σ2, f2, r2, fun hd hQ => ?_⟩
        rename_i Q d
        have hd2 : 2 ≤ d := by omega
        refine (g_172 (m := 0) (p := p) (c := nx g (ρ 54)) hw T2 t2 hv (by omega) (by show rSet (sPour ρ p k g t) 56 (nx g (ρ 54)) 3 < 1000; rw [e3]; exact hs) (by omega) (by omega) hd2).mpr ?_
        simp only [↓br_pos, ↓br_neg, ↓rF_I, ↓rF_L, ↓rF_R, ↓rF_N, rO_m, rB_m, ↓rI_m, wI_m, ↓rB2_m, ↓rB3_m, wB2_m, wB3_m, ↓rL_m, wL_m, ↓rQ_m, wQ_m, ↓lI_m, pI_m, pL_m, pR_m, sI_m, sBy_m, sBo_m, sL_m, sQ_m, fst_m, true_and, and_true, tg_some, ln_some, uI_1, uI_2, uL_1, uL_2, uL_3, uQ_1, uQ_2, uQ_3, rv_i, rv_l, rv_n, rv_b0, rv_b1, RMR, ne_eq, reduceCtorEq, not_false_eq_true, Option.getD_some, if_true, if_false, and_self, false_and, and_false, Nat.add_left_cancel_iff, Nat.add_eq_left, Nat.left_eq_add, Nat.one_ne_zero, Nat.reduceAdd, Nat.reduceLT, Nat.reduceLeDiff, Nat.reduceEqDiff, true_implies, false_implies, implies_true, Option.some.injEq, forall_eq', forall_eq, reduceCtorEq, brT, brF, br_s, i_10, i_01, ib_0_2, ib_1_2, tn_0, tn_1, Int32.le_refl, eq_self, rv_bN, rv_iM, RCM 81, RLY, lit_at hw, iB_t hf, z10, q2 hd2]
        exact hQ
      · rw [if_neg hf]
        refine ⟨_, frR_rf, t2, fun hd hQ => ?_⟩
        rename_i Q d
        have hd2 : 2 ≤ d := by omega
        refine (g_172 (m := 0) (p := p) (c := nx g (ρ 54)) hw T2 t2 hv (by omega) (by show rSet (sPour ρ p k g t) 56 (nx g (ρ 54)) 3 < 1000; rw [e3]; exact hs) (by omega) (by omega) hd2).mpr ?_
        simp only [↓br_pos, ↓br_neg, ↓rF_I, ↓rF_L, ↓rF_R, ↓rF_N, rO_m, rB_m, ↓rI_m, wI_m, ↓rB2_m, ↓rB3_m, wB2_m, wB3_m, ↓rL_m, wL_m, ↓rQ_m, wQ_m, ↓lI_m, pI_m, pL_m, pR_m, sI_m, sBy_m, sBo_m, sL_m, sQ_m, fst_m, true_and, and_true, tg_some, ln_some, uI_1, uI_2, uL_1, uL_2, uL_3, uQ_1, uQ_2, uQ_3, rv_i, rv_l, rv_n, rv_b0, rv_b1, RMR, ne_eq, reduceCtorEq, not_false_eq_true, Option.getD_some, if_true, if_false, and_self, false_and, and_false, Nat.add_left_cancel_iff, Nat.add_eq_left, Nat.left_eq_add, Nat.one_ne_zero, Nat.reduceAdd, Nat.reduceLT, Nat.reduceLeDiff, Nat.reduceEqDiff, true_implies, false_implies, implies_true, Option.some.injEq, forall_eq', forall_eq, reduceCtorEq, brT, brF, br_s, i_10, i_01, ib_0_2, ib_1_2, tn_0, tn_1, Int32.le_refl, eq_self, rv_bN, rv_iM, RCM 81, RLY, lit_at hw, iB_f hf, z00]
        exact hQ
    obtain ⟨σ3, f3, t3, q3⟩ := nx2
    refine ⟨σ3, frR_tr fr1 (frR_tr (frR_I (by omega)) f3), t3, fun hd hQ => ?_⟩
    rename_i Q d
    have hd1 : 1 ≤ d := by omega
    have fin := q3 hd hQ
    refine b201_150 ?_
    by_cases y : g < ρ 54
    · have c2 : (Int32.ofNat (ρ 54) ≤ Int32.ofNat g) ↔ False := iff_false_intro (fun q => absurd ((on_le (by omega) (by omega)).mp q) (by omega))
      have en : nx g (ρ 54) = g + 1 := if_pos y
      rw [en] at fin
      simp only [↓br_pos, ↓br_neg, ↓rF_I, ↓rF_L, ↓rF_R, ↓rF_N, rO_m, rB_m, ↓rI_m, wI_m, ↓rB2_m, ↓rB3_m, wB2_m, wB3_m, ↓rL_m, wL_m, ↓rQ_m, wQ_m, ↓lI_m, pI_m, pL_m, pR_m, sI_m, sBy_m, sBo_m, sL_m, sQ_m, fst_m, true_and, and_true, tg_some, ln_some, uI_1, uI_2, uL_1, uL_2, uL_3, uQ_1, uQ_2, uQ_3, rv_i, rv_l, rv_n, rv_b0, rv_b1, RMR, ne_eq, reduceCtorEq, not_false_eq_true, Option.getD_some, if_true, if_false, and_self, false_and, and_false, Nat.add_left_cancel_iff, Nat.add_eq_left, Nat.left_eq_add, Nat.one_ne_zero, Nat.reduceAdd, Nat.reduceLT, Nat.reduceLeDiff, Nat.reduceEqDiff, true_implies, false_implies, implies_true, Option.some.injEq, forall_eq', forall_eq, reduceCtorEq, brT, brF, br_s, i_10, i_01, ib_0_2, ib_1_2, tn_0, tn_1, Int32.le_refl, eq_self, rv_bN, rv_iM, RCM 81, RLY, lit_at hw, ad_2, ad_4, ad_6, ad_8, ad_10, ad_12, ad_16, ad_24, ad_27, ad_28, ad_31, ad_35, ad_43, ad_51, ad_107, ad_131, ad_311, ml_3, ml_6, ml_7, ml_60, ml_100, ml_2471, mq_12, ar_2, ar_3, ar_4, ar_5, ar_6, of_add, of_mul, on_succ, m57, e57, g_156 hd1, mr hρ lb, mr hρ (by omega : 12 + l < 2471), x1, of_sub ht, x2, x3, mr_54l hρ, c1, c2, tn56, inB_2471_56]
      exact fin
    · have c2 : (Int32.ofNat (ρ 54) ≤ Int32.ofNat g) ↔ True := iff_true_intro ((on_le (by omega) (by omega)).mpr (by omega))
      have en : nx g (ρ 54) = g - 1 := if_neg y
      rw [en] at fin
      simp only [↓br_pos, ↓br_neg, ↓rF_I, ↓rF_L, ↓rF_R, ↓rF_N, rO_m, rB_m, ↓rI_m, wI_m, ↓rB2_m, ↓rB3_m, wB2_m, wB3_m, ↓rL_m, wL_m, ↓rQ_m, wQ_m, ↓lI_m, pI_m, pL_m, pR_m, sI_m, sBy_m, sBo_m, sL_m, sQ_m, fst_m, true_and, and_true, tg_some, ln_some, uI_1, uI_2, uL_1, uL_2, uL_3, uQ_1, uQ_2, uQ_3, rv_i, rv_l, rv_n, rv_b0, rv_b1, RMR, ne_eq, reduceCtorEq, not_false_eq_true, Option.getD_some, if_true, if_false, and_self, false_and, and_false, Nat.add_left_cancel_iff, Nat.add_eq_left, Nat.left_eq_add, Nat.one_ne_zero, Nat.reduceAdd, Nat.reduceLT, Nat.reduceLeDiff, Nat.reduceEqDiff, true_implies, false_implies, implies_true, Option.some.injEq, forall_eq', forall_eq, reduceCtorEq, brT, brF, br_s, i_10, i_01, ib_0_2, ib_1_2, tn_0, tn_1, Int32.le_refl, eq_self, rv_bN, rv_iM, RCM 81, RLY, lit_at hw, ad_2, ad_4, ad_6, ad_8, ad_10, ad_12, ad_16, ad_24, ad_27, ad_28, ad_31, ad_35, ad_43, ad_51, ad_107, ad_131, ad_311, ml_3, ml_6, ml_7, ml_60, ml_100, ml_2471, mq_12, ar_2, ar_3, ar_4, ar_5, ar_6, of_add, of_mul, on_succ, m57, e57, g_156 hd1, mr hρ lb, mr hρ (by omega : 12 + l < 2471), x1, of_sub ht, x2, x3, mr_54l hρ, c1, c2, on_pred (by omega : 0 < g), tn56, inB_2471_56]
      exact fin
theorem k_201 {w : mT} {σ : mS} {τ ρ : Rw} (hw : lit w) (hτ : mTold σ τ) (hρ : mRow σ 85 0 ρ) (hv : vTold τ) (hr : vRow τ ρ) : ∃ σ', frR 85 86 σ σ' ∧ mRow σ' 85 0 (mS1 τ ρ 0) ∧ ∀ {D : Nat} {K : Int32 → Hp → Prop}, 4 ≤ D → (wpI D 201 [.ref 81] (mW w σ) K ↔ K (mV1 τ ρ 0) (mW w σ')) := by
  unfold mS1 mV1
  by_cases hn : 0 < ρ 10
  · rw [if_pos (show 0 < ρ (10 + 0) from hn), if_pos (show 0 < ρ (10 + 0) from hn)]
    obtain ⟨o1, o2, o3, o4, o5, o6⟩ := vR_o0 hr 0 hn
    have o1 : ρ 51 < τ 1 := o1
    have o2 : ρ 52 < τ 0 := o2
    have o3 : ρ 54 < τ (28 + ρ 51) := o3
    have o4 : ρ 56 < τ (28 + ρ 51) := o4
    have o5 : 1 ≤ ρ 55 ∧ ρ 55 ≤ 99 := o5
    have c8 := vR_c0 hr
    have v0 := hv.1
    have v1 := hv.2.1
    have v2 := (hv.2.2.2.2.2.1 (ρ 51) o1).2
    have hs3 : ρ 3 < 1000 := onP_lt hv (vR_on hr (by omega : 1 < 2))
    have la := vR_la hr (ρ 51) (by omega)
    have lf := left_lt hr o2
    have c0 : (Int32.ofNat (ρ 10) = 0) ↔ False := iff_false_intro (fun q => by have := (of_eq0 (by omega)).mp q; omega)
    by_cases R : onAtD ρ 0 (ρ 51) = true ∧ cellAt ρ 0 = ρ 56
    · obtain ⟨kw, ks⟩ := kW_y (τ := τ) (m := 0) R.1 R.2
      rw [kw, ks, if_neg (by decide : ¬ (false = true)), if_neg (by decide : ¬ (false = true)), if_neg (by omega : ¬ ((0 : Nat) = 1))]
      show ∃ σ', frR 85 86 σ σ' ∧ mRow σ' 85 0 (sLay τ ρ (ρ 51) (ρ 56)) ∧ _
      unfold sLay
      have e3 : ((3 : Int32) = 3) ↔ True := by decide
      have m12 := mr hρ (by omega : 12 + ρ 52 < 2471)
      have m24 := mr hρ (by omega : 24 + ρ 51 < 2471)
      by_cases y : ρ (12 + ρ 52) = 0 ∨ (ρ 57 = 0 ∧ 60 ≤ ρ (24 + ρ 51))
      · rw [if_pos y]
        obtain ⟨σ2, f2, t2, e2⟩ := o_196_0 hw hρ hn c8
        refine ⟨σ2, f2, t2, fun hD => cI_of (m := 3) (fun d hd Q hQ => ?_) rfl hD⟩
        have hd1 : 1 ≤ d := by omega
        have hd2 : 2 ≤ d := by omega
        have b57 : ρ 57 ≤ 60 := by
          have o6 : ρ 57 = 0 ∨ (ρ 57 ≤ ρ (24 + ρ 51) ∧ _) := o6
          rcases o6 with q | q
          · omega
          · have := q.1; omega
        refine b201_0 ?_
        simp only [↓br_pos, ↓br_neg, ↓rF_I, ↓rF_L, ↓rF_R, ↓rF_N, rO_m, rB_m, ↓rI_m, wI_m, ↓rB2_m, ↓rB3_m, wB2_m, wB3_m, ↓rL_m, wL_m, ↓rQ_m, wQ_m, ↓lI_m, pI_m, pL_m, pR_m, sI_m, sBy_m, sBo_m, sL_m, sQ_m, fst_m, true_and, and_true, tg_some, ln_some, uI_1, uI_2, uL_1, uL_2, uL_3, uQ_1, uQ_2, uQ_3, rv_i, rv_l, rv_n, rv_b0, rv_b1, RMR, ne_eq, reduceCtorEq, not_false_eq_true, Option.getD_some, if_true, if_false, and_self, false_and, and_false, Nat.add_left_cancel_iff, Nat.add_eq_left, Nat.left_eq_add, Nat.one_ne_zero, Nat.reduceAdd, Nat.reduceLT, Nat.reduceLeDiff, Nat.reduceEqDiff, true_implies, false_implies, implies_true, Option.some.injEq, forall_eq', forall_eq, reduceCtorEq, brT, brF, br_s, i_10, i_01, ib_0_2, ib_1_2, tn_0, tn_1, Int32.le_refl, eq_self, rv_bN, rv_iM, RCM 81, RLY, lit_at hw, mr_10l hρ, c0, mr_51l hρ, mr_52l hρ, mr_56l hρ]
        refine b201_36 ?_
        by_cases z : ρ (12 + ρ 52) = 0
        · have c1 : (Int32.ofNat (ρ (12 + ρ 52)) = 0) ↔ True := iff_true_intro (by rw [z]; rfl)
          by_cases x : ρ 57 = 0
          · have c2 : (Int32.ofNat (ρ 57) = 0) ↔ True := iff_true_intro (by rw [x]; rfl)
            simp only [↓br_pos, ↓br_neg, ↓rF_I, ↓rF_L, ↓rF_R, ↓rF_N, rO_m, rB_m, ↓rI_m, wI_m, ↓rB2_m, ↓rB3_m, wB2_m, wB3_m, ↓rL_m, wL_m, ↓rQ_m, wQ_m, ↓lI_m, pI_m, pL_m, pR_m, sI_m, sBy_m, sBo_m, sL_m, sQ_m, fst_m, true_and, and_true, tg_some, ln_some, uI_1, uI_2, uL_1, uL_2, uL_3, uQ_1, uQ_2, uQ_3, rv_i, rv_l, rv_n, rv_b0, rv_b1, RMR, ne_eq, reduceCtorEq, not_false_eq_true, Option.getD_some, if_true, if_false, and_self, false_and, and_false, Nat.add_left_cancel_iff, Nat.add_eq_left, Nat.left_eq_add, Nat.one_ne_zero, Nat.reduceAdd, Nat.reduceLT, Nat.reduceLeDiff, Nat.reduceEqDiff, true_implies, false_implies, implies_true, Option.some.injEq, forall_eq', forall_eq, reduceCtorEq, brT, brF, br_s, i_10, i_01, ib_0_2, ib_1_2, tn_0, tn_1, Int32.le_refl, eq_self, rv_bN, rv_iM, RCM 81, RLY, lit_at hw, ad_2, ad_4, ad_6, ad_8, ad_10, ad_12, ad_16, ad_24, ad_27, ad_28, ad_31, ad_35, ad_43, ad_51, ad_107, ad_131, ad_311, ml_3, ml_6, ml_7, ml_60, ml_100, ml_2471, mq_12, ar_2, ar_3, ar_4, ar_5, ar_6, of_add, of_mul, on_succ, n_199r (m := 0) (x := 0) hw hρ hv hr rfl (by omega) (by omega : ρ 51 < 1000) R.1 R.2 hd2, e3, mr_57l hρ, c2, m12, c1, e2 hd1]
            exact hQ
          · have c2 : (Int32.ofNat (ρ 57) = 0) ↔ False := iff_false_intro (fun q => x ((of_eq0 (by omega)).mp q))
            simp only [↓br_pos, ↓br_neg, ↓rF_I, ↓rF_L, ↓rF_R, ↓rF_N, rO_m, rB_m, ↓rI_m, wI_m, ↓rB2_m, ↓rB3_m, wB2_m, wB3_m, ↓rL_m, wL_m, ↓rQ_m, wQ_m, ↓lI_m, pI_m, pL_m, pR_m, sI_m, sBy_m, sBo_m, sL_m, sQ_m, fst_m, true_and, and_true, tg_some, ln_some, uI_1, uI_2, uL_1, uL_2, uL_3, uQ_1, uQ_2, uQ_3, rv_i, rv_l, rv_n, rv_b0, rv_b1, RMR, ne_eq, reduceCtorEq, not_false_eq_true, Option.getD_some, if_true, if_false, and_self, false_and, and_false, Nat.add_left_cancel_iff, Nat.add_eq_left, Nat.left_eq_add, Nat.one_ne_zero, Nat.reduceAdd, Nat.reduceLT, Nat.reduceLeDiff, Nat.reduceEqDiff, true_implies, false_implies, implies_true, Option.some.injEq, forall_eq', forall_eq, reduceCtorEq, brT, brF, br_s, i_10, i_01, ib_0_2, ib_1_2, tn_0, tn_1, Int32.le_refl, eq_self, rv_bN, rv_iM, RCM 81, RLY, lit_at hw, ad_2, ad_4, ad_6, ad_8, ad_10, ad_12, ad_16, ad_24, ad_27, ad_28, ad_31, ad_35, ad_43, ad_51, ad_107, ad_131, ad_311, ml_3, ml_6, ml_7, ml_60, ml_100, ml_2471, mq_12, ar_2, ar_3, ar_4, ar_5, ar_6, of_add, of_mul, on_succ, n_199r (m := 0) (x := 0) hw hρ hv hr rfl (by omega) (by omega : ρ 51 < 1000) R.1 R.2 hd2, e3, mr_57l hρ, c2, m12, c1, e2 hd1]
            exact hQ
        · obtain ⟨x, u⟩ := y.resolve_left z
          have c1 : (Int32.ofNat (ρ (12 + ρ 52)) = 0) ↔ False := iff_false_intro (fun q => z ((of_eq0 (by omega)).mp q))
          have c2 : (Int32.ofNat (ρ 57) = 0) ↔ True := iff_true_intro (by rw [x]; rfl)
          have c3 : (Int32.ofNat (ρ (24 + ρ 51)) = (60 : Int32)) ↔ True := iff_true_intro (by rw [show ρ (24 + ρ 51) = 60 by omega]; rfl)
          simp only [↓br_pos, ↓br_neg, ↓rF_I, ↓rF_L, ↓rF_R, ↓rF_N, rO_m, rB_m, ↓rI_m, wI_m, ↓rB2_m, ↓rB3_m, wB2_m, wB3_m, ↓rL_m, wL_m, ↓rQ_m, wQ_m, ↓lI_m, pI_m, pL_m, pR_m, sI_m, sBy_m, sBo_m, sL_m, sQ_m, fst_m, true_and, and_true, tg_some, ln_some, uI_1, uI_2, uL_1, uL_2, uL_3, uQ_1, uQ_2, uQ_3, rv_i, rv_l, rv_n, rv_b0, rv_b1, RMR, ne_eq, reduceCtorEq, not_false_eq_true, Option.getD_some, if_true, if_false, and_self, false_and, and_false, Nat.add_left_cancel_iff, Nat.add_eq_left, Nat.left_eq_add, Nat.one_ne_zero, Nat.reduceAdd, Nat.reduceLT, Nat.reduceLeDiff, Nat.reduceEqDiff, true_implies, false_implies, implies_true, Option.some.injEq, forall_eq', forall_eq, reduceCtorEq, brT, brF, br_s, i_10, i_01, ib_0_2, ib_1_2, tn_0, tn_1, Int32.le_refl, eq_self, rv_bN, rv_iM, RCM 81, RLY, lit_at hw, ad_2, ad_4, ad_6, ad_8, ad_10, ad_12, ad_16, ad_24, ad_27, ad_28, ad_31, ad_35, ad_43, ad_51, ad_107, ad_131, ad_311, ml_3, ml_6, ml_7, ml_60, ml_100, ml_2471, mq_12, ar_2, ar_3, ar_4, ar_5, ar_6, of_add, of_mul, on_succ, n_199r (m := 0) (x := 0) hw hρ hv hr rfl (by omega) (by omega : ρ 51 < 1000) R.1 R.2 hd2, e3, mr_57l hρ, c2, m12, c1, z10, m24, c3, e2 hd1]
          exact hQ
      · rw [if_neg y]
        have z : ¬ ρ (12 + ρ 52) = 0 := fun q => y (Or.inl q)
        have c1 : (Int32.ofNat (ρ (12 + ρ 52)) = 0) ↔ False := iff_false_intro (fun q => z ((of_eq0 (by omega)).mp q))
        by_cases x : ρ 57 = 0
        · rw [if_pos x]
          have h60 : ρ (24 + ρ 51) < 60 := by
            apply Decidable.byContradiction
            intro q
            exact y (Or.inr ⟨x, by omega⟩)
          obtain ⟨σ1, f1, t1, e1⟩ := o_181 (l := ρ 52) hw hρ (by omega : ρ 51 < 3) h60
          have t2 : mRow (uI σ1 85 57 (Int32.ofNat (ρ (24 + ρ 51) + 1))) 85 0 (sNew ρ (ρ 51)) := mR_w t1
          have T2 : mTold (uI σ1 85 57 (Int32.ofNat (ρ (24 + ρ 51) + 1))) τ := mT_c (mT_c hτ (f1.1 83 (by omega))) (uI_o (by omega))
          have sN : ∀ j, j < 12 ∨ 27 ≤ j ∧ j < 57 ∨ j = 12 + ρ 52 → sNew ρ (ρ 51) j = ρ j := fun j hj => by
            rw [sNew_1, if_neg (by omega), if_neg (by omega), if_neg (by unfold lo; omega)]
          have n57 : sNew ρ (ρ 51) 57 = ρ (24 + ρ 51) + 1 := by rw [sNew_1, if_pos rfl]
          have nlo : sNew ρ (ρ 51) (lo (ρ 51) (ρ (24 + ρ 51))) = ρ 52 := by rw [sNew_1, if_neg (by unfold lo; omega), if_neg (by unfold lo; omega), if_pos rfl]
          have n12 := sN (12 + ρ 52) (by omega)
          obtain ⟨σ2, f2, t3, e2⟩ := t150 (p := ρ 51) (l := ρ 52) (g := ρ 56) (k := ρ (24 + ρ 51)) (t := min (ρ 55) (ρ (12 + ρ 52))) (a4 := 3) (a5 := 1) hw T2 t2 hv (by omega) (by omega) (by omega) h60 n57 nlo (by rw [n12]; omega) (by rw [sN 54 (by omega)]; omega) (by rw [sN 10 (by omega)]; exact hn) (by rw [sN 10 (by omega)]; exact c8) (by rw [sN 3 (by omega)]; exact hs3) (by
            have : onAtD (sNew ρ (ρ 51)) 0 (ρ 51) = decide (sNew ρ (ρ 51) 2 ≠ 0 ∧ (sNew ρ (ρ 51) 2 - 1) / 100 = ρ 51) := rfl
            rw [this, sN 2 (by omega)]; exact R.1) (by
            have : cellAt (sNew ρ (ρ 51)) 0 = (sNew ρ (ρ 51) 2 - 1) % 100 := rfl
            rw [this, sN 2 (by omega)]; exact R.2)
          refine ⟨σ2, frR_tr f1 (frR_tr (frR_I (by omega)) f2), t3, fun hD => cI_of (m := 3) (fun d hd Q hQ => ?_) rfl hD⟩
          have hd1 : 1 ≤ d := by omega
          have hd2 : 2 ≤ d := by omega
          have c2 : (Int32.ofNat (ρ 57) = 0) ↔ True := iff_true_intro (by rw [x]; rfl)
          have c3 : (Int32.ofNat (ρ (24 + ρ 51)) = (60 : Int32)) ↔ False := iff_false_intro (fun q => by have := (of_inj (b := 60) (by omega) (by omega)).mp q; omega)
          have q55 := (mr_55l t2).2.2
          rw [sN 55 (by omega)] at q55
          have q12 := mr t2 (by omega : 12 + ρ 52 < 2471)
          rw [n12] at q12
          have mn := min_of (a := ρ (12 + ρ 52)) (b := ρ 55) (by omega) (by omega)
          refine b201_0 ?_
          simp only [↓br_pos, ↓br_neg, ↓rF_I, ↓rF_L, ↓rF_R, ↓rF_N, rO_m, rB_m, ↓rI_m, wI_m, ↓rB2_m, ↓rB3_m, wB2_m, wB3_m, ↓rL_m, wL_m, ↓rQ_m, wQ_m, ↓lI_m, pI_m, pL_m, pR_m, sI_m, sBy_m, sBo_m, sL_m, sQ_m, fst_m, true_and, and_true, tg_some, ln_some, uI_1, uI_2, uL_1, uL_2, uL_3, uQ_1, uQ_2, uQ_3, rv_i, rv_l, rv_n, rv_b0, rv_b1, RMR, ne_eq, reduceCtorEq, not_false_eq_true, Option.getD_some, if_true, if_false, and_self, false_and, and_false, Nat.add_left_cancel_iff, Nat.add_eq_left, Nat.left_eq_add, Nat.one_ne_zero, Nat.reduceAdd, Nat.reduceLT, Nat.reduceLeDiff, Nat.reduceEqDiff, true_implies, false_implies, implies_true, Option.some.injEq, forall_eq', forall_eq, reduceCtorEq, brT, brF, br_s, i_10, i_01, ib_0_2, ib_1_2, tn_0, tn_1, Int32.le_refl, eq_self, rv_bN, rv_iM, RCM 81, RLY, lit_at hw, mr_10l hρ, c0, mr_51l hρ, mr_52l hρ, mr_56l hρ]
          refine b201_36 ?_
          simp only [↓br_pos, ↓br_neg, ↓rF_I, ↓rF_L, ↓rF_R, ↓rF_N, rO_m, rB_m, ↓rI_m, wI_m, ↓rB2_m, ↓rB3_m, wB2_m, wB3_m, ↓rL_m, wL_m, ↓rQ_m, wQ_m, ↓lI_m, pI_m, pL_m, pR_m, sI_m, sBy_m, sBo_m, sL_m, sQ_m, fst_m, true_and, and_true, tg_some, ln_some, uI_1, uI_2, uL_1, uL_2, uL_3, uQ_1, uQ_2, uQ_3, rv_i, rv_l, rv_n, rv_b0, rv_b1, RMR, ne_eq, reduceCtorEq, not_false_eq_true, Option.getD_some, if_true, if_false, and_self, false_and, and_false, Nat.add_left_cancel_iff, Nat.add_eq_left, Nat.left_eq_add, Nat.one_ne_zero, Nat.reduceAdd, Nat.reduceLT, Nat.reduceLeDiff, Nat.reduceEqDiff, true_implies, false_implies, implies_true, Option.some.injEq, forall_eq', forall_eq, reduceCtorEq, brT, brF, br_s, i_10, i_01, ib_0_2, ib_1_2, tn_0, tn_1, Int32.le_refl, eq_self, rv_bN, rv_iM, RCM 81, RLY, lit_at hw, ad_2, ad_4, ad_6, ad_8, ad_10, ad_12, ad_16, ad_24, ad_27, ad_28, ad_31, ad_35, ad_43, ad_51, ad_107, ad_131, ad_311, ml_3, ml_6, ml_7, ml_60, ml_100, ml_2471, mq_12, ar_2, ar_3, ar_4, ar_5, ar_6, of_add, of_mul, on_succ, n_199r (m := 0) (x := 0) hw hρ hv hr rfl (by omega) (by omega : ρ 51 < 1000) R.1 R.2 hd2, e3, mr_57l hρ, c2, m12, c1, z10, m24, c3, e1 hd1, tn57, inB_2471_57]
          refine b201_129 ?_
          have r55 : σ1.1 85 55 = Int32.ofNat (ρ 55) := by rw [uI_1, if_neg (by omega)] at q55; exact q55
          have r12 : σ1.1 85 (12 + ρ 52) = Int32.ofNat (ρ (12 + ρ 52)) := by have := q12.2.2; rw [uI_1, if_neg (by omega)] at this; exact this
          have x57 : ((12 + ρ 52 : Nat) = 57) ↔ False := iff_false_intro (by omega)
          simp only [↓br_pos, ↓br_neg, ↓rF_I, ↓rF_L, ↓rF_R, ↓rF_N, rO_m, rB_m, ↓rI_m, wI_m, ↓rB2_m, ↓rB3_m, wB2_m, wB3_m, ↓rL_m, wL_m, ↓rQ_m, wQ_m, ↓lI_m, pI_m, pL_m, pR_m, sI_m, sBy_m, sBo_m, sL_m, sQ_m, fst_m, true_and, and_true, tg_some, ln_some, uI_1, uI_2, uL_1, uL_2, uL_3, uQ_1, uQ_2, uQ_3, rv_i, rv_l, rv_n, rv_b0, rv_b1, RMR, ne_eq, reduceCtorEq, not_false_eq_true, Option.getD_some, if_true, if_false, and_self, false_and, and_false, Nat.add_left_cancel_iff, Nat.add_eq_left, Nat.left_eq_add, Nat.one_ne_zero, Nat.reduceAdd, Nat.reduceLT, Nat.reduceLeDiff, Nat.reduceEqDiff, true_implies, false_implies, implies_true, Option.some.injEq, forall_eq', forall_eq, reduceCtorEq, brT, brF, br_s, i_10, i_01, ib_0_2, ib_1_2, tn_0, tn_1, Int32.le_refl, eq_self, rv_bN, rv_iM, RCM 81, RLY, lit_at hw, ad_2, ad_4, ad_6, ad_8, ad_10, ad_12, ad_16, ad_24, ad_27, ad_28, ad_31, ad_35, ad_43, ad_51, ad_107, ad_131, ad_311, ml_3, ml_6, ml_7, ml_60, ml_100, ml_2471, mq_12, ar_2, ar_3, ar_4, ar_5, ar_6, of_add, of_mul, on_succ, tn55, inB_2471_55, r55, q12.1, q12.2.1, r12, x57]
          simp only [mn]
          exact e2 hd hQ
        · rw [if_neg x]
          have o6 : ρ 57 = 0 ∨ (ρ 57 ≤ ρ (24 + ρ 51) ∧ ρ (lo (ρ 51) (ρ 57 - 1)) = ρ 52) := o6
          obtain ⟨k1, k2⟩ := o6.resolve_left x
          obtain ⟨σ2, f2, t3, e2⟩ := t150 (p := ρ 51) (l := ρ 52) (g := ρ 56) (k := ρ 57 - 1) (t := min (ρ 55) (ρ (12 + ρ 52))) (a4 := 3) (a5 := 0) hw hτ hρ hv (by omega) (by omega) (by omega) (by omega) (by omega) k2 (by omega) (by omega) hn c8 hs3 R.1 R.2
          refine ⟨σ2, f2, t3, fun hD => cI_of (m := 3) (fun d hd Q hQ => ?_) rfl hD⟩
          have hd1 : 1 ≤ d := by omega
          have hd2 : 2 ≤ d := by omega
          have c2 : (Int32.ofNat (ρ 57) = 0) ↔ False := iff_false_intro (fun q => x ((of_eq0 (by omega)).mp q))
          have mn := min_of (a := ρ (12 + ρ 52)) (b := ρ 55) (by omega) (by omega)
          refine b201_0 ?_
          simp only [↓br_pos, ↓br_neg, ↓rF_I, ↓rF_L, ↓rF_R, ↓rF_N, rO_m, rB_m, ↓rI_m, wI_m, ↓rB2_m, ↓rB3_m, wB2_m, wB3_m, ↓rL_m, wL_m, ↓rQ_m, wQ_m, ↓lI_m, pI_m, pL_m, pR_m, sI_m, sBy_m, sBo_m, sL_m, sQ_m, fst_m, true_and, and_true, tg_some, ln_some, uI_1, uI_2, uL_1, uL_2, uL_3, uQ_1, uQ_2, uQ_3, rv_i, rv_l, rv_n, rv_b0, rv_b1, RMR, ne_eq, reduceCtorEq, not_false_eq_true, Option.getD_some, if_true, if_false, and_self, false_and, and_false, Nat.add_left_cancel_iff, Nat.add_eq_left, Nat.left_eq_add, Nat.one_ne_zero, Nat.reduceAdd, Nat.reduceLT, Nat.reduceLeDiff, Nat.reduceEqDiff, true_implies, false_implies, implies_true, Option.some.injEq, forall_eq', forall_eq, reduceCtorEq, brT, brF, br_s, i_10, i_01, ib_0_2, ib_1_2, tn_0, tn_1, Int32.le_refl, eq_self, rv_bN, rv_iM, RCM 81, RLY, lit_at hw, mr_10l hρ, c0, mr_51l hρ, mr_52l hρ, mr_56l hρ]
          refine b201_36 ?_
          simp only [↓br_pos, ↓br_neg, ↓rF_I, ↓rF_L, ↓rF_R, ↓rF_N, rO_m, rB_m, ↓rI_m, wI_m, ↓rB2_m, ↓rB3_m, wB2_m, wB3_m, ↓rL_m, wL_m, ↓rQ_m, wQ_m, ↓lI_m, pI_m, pL_m, pR_m, sI_m, sBy_m, sBo_m, sL_m, sQ_m, fst_m, true_and, and_true, tg_some, ln_some, uI_1, uI_2, uL_1, uL_2, uL_3, uQ_1, uQ_2, uQ_3, rv_i, rv_l, rv_n, rv_b0, rv_b1, RMR, ne_eq, reduceCtorEq, not_false_eq_true, Option.getD_some, if_true, if_false, and_self, false_and, and_false, Nat.add_left_cancel_iff, Nat.add_eq_left, Nat.left_eq_add, Nat.one_ne_zero, Nat.reduceAdd, Nat.reduceLT, Nat.reduceLeDiff, Nat.reduceEqDiff, true_implies, false_implies, implies_true, Option.some.injEq, forall_eq', forall_eq, reduceCtorEq, brT, brF, br_s, i_10, i_01, ib_0_2, ib_1_2, tn_0, tn_1, Int32.le_refl, eq_self, rv_bN, rv_iM, RCM 81, RLY, lit_at hw, ad_2, ad_4, ad_6, ad_8, ad_10, ad_12, ad_16, ad_24, ad_27, ad_28, ad_31, ad_35, ad_43, ad_51, ad_107, ad_131, ad_311, ml_3, ml_6, ml_7, ml_60, ml_100, ml_2471, mq_12, ar_2, ar_3, ar_4, ar_5, ar_6, of_add, of_mul, on_succ, n_199r (m := 0) (x := 0) hw hρ hv hr rfl (by omega) (by omega : ρ 51 < 1000) R.1 R.2 hd2, e3, mr_57l hρ, c2, m12, c1, z00]
          refine b201_129 ?_
          simp only [↓br_pos, ↓br_neg, ↓rF_I, ↓rF_L, ↓rF_R, ↓rF_N, rO_m, rB_m, ↓rI_m, wI_m, ↓rB2_m, ↓rB3_m, wB2_m, wB3_m, ↓rL_m, wL_m, ↓rQ_m, wQ_m, ↓lI_m, pI_m, pL_m, pR_m, sI_m, sBy_m, sBo_m, sL_m, sQ_m, fst_m, true_and, and_true, tg_some, ln_some, uI_1, uI_2, uL_1, uL_2, uL_3, uQ_1, uQ_2, uQ_3, rv_i, rv_l, rv_n, rv_b0, rv_b1, RMR, ne_eq, reduceCtorEq, not_false_eq_true, Option.getD_some, if_true, if_false, and_self, false_and, and_false, Nat.add_left_cancel_iff, Nat.add_eq_left, Nat.left_eq_add, Nat.one_ne_zero, Nat.reduceAdd, Nat.reduceLT, Nat.reduceLeDiff, Nat.reduceEqDiff, true_implies, false_implies, implies_true, Option.some.injEq, forall_eq', forall_eq, reduceCtorEq, brT, brF, br_s, i_10, i_01, ib_0_2, ib_1_2, tn_0, tn_1, Int32.le_refl, eq_self, rv_bN, rv_iM, RCM 81, RLY, lit_at hw, ad_2, ad_4, ad_6, ad_8, ad_10, ad_12, ad_16, ad_24, ad_27, ad_28, ad_31, ad_35, ad_43, ad_51, ad_107, ad_131, ad_311, ml_3, ml_6, ml_7, ml_60, ml_100, ml_2471, mq_12, ar_2, ar_3, ar_4, ar_5, ar_6, of_add, of_mul, on_succ, mr_55l hρ, m12]
          simp only [mn]
          exact e2 hd hQ
    · obtain ⟨kw, ks⟩ := kW_n (τ := τ) (m := 0) R
      obtain ⟨σ1, W, f1, eW, t1, e1⟩ := n_199 (x := 0) (p := ρ 51) (g := ρ 56) hw hτ hρ hv hr rfl (by omega : 0 < 2) o1 o4 R
      rw [kw, ks]
      show ∃ σ', frR 85 86 σ σ' ∧ mRow σ' 85 0 (if (if onAtD ρ 0 (ρ 51) = true then decide (¬ frP τ ρ 0 (ρ 51) (nx (cellAt ρ 0) (ρ 56))) else decide (¬ ρ (6 + 0) < 10 ∧ ¬ frP τ ρ 0 (ρ 51) (ρ 56))) = true then rSet ρ (8 + 0) (ρ (8 + 0) + 1) else if onAtD ρ 0 (ρ 51) = true then sMv τ ρ 0 (ρ 51) (nx (cellAt ρ 0) (ρ 56)) else sTr τ ρ 0 (ρ 51) (ρ 56)) ∧ ∀ {D : Nat} {K : Int32 → Hp → Prop}, 4 ≤ D → (wpI D 201 [.ref 81] (mW w σ) K ↔ K (if (if onAtD ρ 0 (ρ 51) = true then decide (¬ frP τ ρ 0 (ρ 51) (nx (cellAt ρ 0) (ρ 56))) else decide (¬ ρ (6 + 0) < 10 ∧ ¬ frP τ ρ 0 (ρ 51) (ρ 56))) = true then 1 else 0) (mW w σ'))
      rw [← eW]
      refine ⟨σ1, f1, t1, fun hD => cI_of (m := 3) (fun d hd Q hQ => ?_) rfl hD⟩
      refine b201_0 ?_
      simp only [↓br_pos, ↓br_neg, ↓rF_I, ↓rF_L, ↓rF_R, ↓rF_N, rO_m, rB_m, ↓rI_m, wI_m, ↓rB2_m, ↓rB3_m, wB2_m, wB3_m, ↓rL_m, wL_m, ↓rQ_m, wQ_m, ↓lI_m, pI_m, pL_m, pR_m, sI_m, sBy_m, sBo_m, sL_m, sQ_m, fst_m, true_and, and_true, tg_some, ln_some, uI_1, uI_2, uL_1, uL_2, uL_3, uQ_1, uQ_2, uQ_3, rv_i, rv_l, rv_n, rv_b0, rv_b1, RMR, ne_eq, reduceCtorEq, not_false_eq_true, Option.getD_some, if_true, if_false, and_self, false_and, and_false, Nat.add_left_cancel_iff, Nat.add_eq_left, Nat.left_eq_add, Nat.one_ne_zero, Nat.reduceAdd, Nat.reduceLT, Nat.reduceLeDiff, Nat.reduceEqDiff, true_implies, false_implies, implies_true, Option.some.injEq, forall_eq', forall_eq, reduceCtorEq, brT, brF, br_s, i_10, i_01, ib_0_2, ib_1_2, tn_0, tn_1, Int32.le_refl, eq_self, rv_bN, rv_iM, RCM 81, RLY, lit_at hw, mr_10l hρ, c0, mr_51l hρ, mr_52l hρ, mr_56l hρ]
      refine b201_36 ?_
      simp only [↓br_pos, ↓br_neg, ↓rF_I, ↓rF_L, ↓rF_R, ↓rF_N, rO_m, rB_m, ↓rI_m, wI_m, ↓rB2_m, ↓rB3_m, wB2_m, wB3_m, ↓rL_m, wL_m, ↓rQ_m, wQ_m, ↓lI_m, pI_m, pL_m, pR_m, sI_m, sBy_m, sBo_m, sL_m, sQ_m, fst_m, true_and, and_true, tg_some, ln_some, uI_1, uI_2, uL_1, uL_2, uL_3, uQ_1, uQ_2, uQ_3, rv_i, rv_l, rv_n, rv_b0, rv_b1, RMR, ne_eq, reduceCtorEq, not_false_eq_true, Option.getD_some, if_true, if_false, and_self, false_and, and_false, Nat.add_left_cancel_iff, Nat.add_eq_left, Nat.left_eq_add, Nat.one_ne_zero, Nat.reduceAdd, Nat.reduceLT, Nat.reduceLeDiff, Nat.reduceEqDiff, true_implies, false_implies, implies_true, Option.some.injEq, forall_eq', forall_eq, reduceCtorEq, brT, brF, br_s, i_10, i_01, ib_0_2, ib_1_2, tn_0, tn_1, Int32.le_refl, eq_self, rv_bN, rv_iM, RCM 81, RLY, lit_at hw, e1 hd, W3]
      exact hQ
  · rw [if_neg (show ¬ 0 < ρ (10 + 0) from hn), if_neg (show ¬ 0 < ρ (10 + 0) from hn)]
    refine ⟨σ, frR_rf, hρ, fun hD => cI_of (m := 3) (fun d hd Q hQ => ?_) rfl hD⟩
    have c0 : (Int32.ofNat (ρ 10) = 0) ↔ True := iff_true_intro (by rw [show ρ 10 = 0 by omega]; rfl)
    refine b201_0 ?_
    simp only [↓br_pos, ↓br_neg, ↓rF_I, ↓rF_L, ↓rF_R, ↓rF_N, rO_m, rB_m, ↓rI_m, wI_m, ↓rB2_m, ↓rB3_m, wB2_m, wB3_m, ↓rL_m, wL_m, ↓rQ_m, wQ_m, ↓lI_m, pI_m, pL_m, pR_m, sI_m, sBy_m, sBo_m, sL_m, sQ_m, fst_m, true_and, and_true, tg_some, ln_some, uI_1, uI_2, uL_1, uL_2, uL_3, uQ_1, uQ_2, uQ_3, rv_i, rv_l, rv_n, rv_b0, rv_b1, RMR, ne_eq, reduceCtorEq, not_false_eq_true, Option.getD_some, if_true, if_false, and_self, false_and, and_false, Nat.add_left_cancel_iff, Nat.add_eq_left, Nat.left_eq_add, Nat.one_ne_zero, Nat.reduceAdd, Nat.reduceLT, Nat.reduceLeDiff, Nat.reduceEqDiff, true_implies, false_implies, implies_true, Option.some.injEq, forall_eq', forall_eq, reduceCtorEq, brT, brF, br_s, i_10, i_01, ib_0_2, ib_1_2, tn_0, tn_1, Int32.le_refl, eq_self, rv_bN, rv_iM, RCM 81, RLY, lit_at hw, mr_10l hρ, c0]
    exact hQ
end
section
/-! the model's calls: minutes, ends -/
theorem i20 : ((2 : Int32) = 0) ↔ False := by decide
theorem i21 : ((2 : Int32) = 1) ↔ False := by decide
theorem i01 : ((0 : Int32) = 1) ↔ False := by decide
theorem i11 : ((1 : Int32) = 1) ↔ True := by decide
theorem mV_c {τ ρ : Rw} {m : Nat} : (mV1 τ ρ m = 0 ∧ 0 < ρ (10 + m) ∧ kW τ ρ m = false) ∨ (mV1 τ ρ m = 1 ∧ 0 < ρ (10 + m) ∧ kW τ ρ m = true) ∨ (mV1 τ ρ m = 2 ∧ ¬ 0 < ρ (10 + m)) := by
  unfold mV1
  by_cases c : 0 < ρ (10 + m)
  · rw [if_pos c]
    by_cases y : kW τ ρ m = true
    · rw [if_pos y]; exact Or.inr (Or.inl ⟨rfl, c, y⟩)
    · rw [if_neg y]; exact Or.inl ⟨rfl, c, Bool.eq_false_iff.mpr y⟩
  · rw [if_neg c]; exact Or.inr (Or.inr ⟨rfl, c⟩)
theorem k_202 {w : mT} {σ : mS} {τ ρ : Rw} (hw : lit w) (hτ : mTold σ τ) (hρ : mRow σ 85 0 ρ) (hv : vTold τ) (hr : vRow τ ρ) : ∃ σ', frB σ σ' ∧ mRow σ' 85 0 (sMin τ ρ) ∧ ∀ {D : Nat} {K : Int32 → Hp → Prop}, 5 ≤ D → (wpI D 202 [.ref 81] (mW w σ) K ↔ K (iB (mPs τ ρ)) (mW w σ')) := by
  obtain ⟨σ1, f1, t1, e1⟩ := k_200 hw hτ hρ hv hr
  have r1 := vRow_1 (m := 1) hv hr (by omega)
  obtain ⟨σ2, f2, t2, e2⟩ := k_201 hw (mT_c hτ (f1.1 83 (by omega) (by omega))) t1 hv r1
  have t3 := mR_w (j := 1) (x := mS1 τ (mS1 τ ρ 1) 0 1 + 1) t2
  rw [Mn_eq hv hr] at t3
  refine ⟨uI σ2 85 1 (Int32.ofNat (mS1 τ (mS1 τ ρ 1) 0 1 + 1)), frB_tr f1 (frB_tr (frB_R f2) (frB_R (frR_I (by omega)))), t3, fun hD => cI_of (m := 4) (fun d hd Q hQ => ?_) rfl hD⟩
  refine b202_0 ?_
  have e10 : mS1 τ ρ 1 10 = ρ 10 := by rw [A1_eq]; exact R1_10 hv hr
  have ek : kW τ (mS1 τ ρ 1) 0 = kW τ (mR1 τ ρ) 0 := by rw [A1_eq]; rfl
  have w1 : ∀ b, (if 0 < ρ 11 then kW τ ρ 1 else false) = b → mW1 τ ρ = b := fun b q => q
  have w0 : ∀ b, (if 0 < ρ 10 then kW τ (mR1 τ ρ) 0 else false) = b → mW0 τ ρ = b := fun b q => q
  rcases mV_c (τ := τ) (ρ := ρ) (m := 1) with ⟨c1, h1, k1⟩ | ⟨c1, h1, k1⟩ | ⟨c1, h1⟩
  · have h1 : 0 < ρ 11 := h1
    have W1 := w1 false (by rw [if_pos h1]; exact k1)
    rw [iB_f (fun q => by
      rcases q.1.1 with z | z
      · rw [W1] at z; exact absurd z (by decide)
      · exact z h1)] at hQ
    simp only [↓br_pos, ↓br_neg, ↓rF_I, ↓rF_L, ↓rF_R, ↓rF_N, rO_m, rB_m, ↓rI_m, wI_m, ↓rB2_m, ↓rB3_m, wB2_m, wB3_m, ↓rL_m, wL_m, ↓rQ_m, wQ_m, ↓lI_m, pI_m, pL_m, pR_m, sI_m, sBy_m, sBo_m, sL_m, sQ_m, fst_m, true_and, and_true, tg_some, ln_some, uI_1, uI_2, uL_1, uL_2, uL_3, uQ_1, uQ_2, uQ_3, rv_i, rv_l, rv_n, rv_b0, rv_b1, RMR, ne_eq, reduceCtorEq, not_false_eq_true, Option.getD_some, if_true, if_false, and_self, false_and, and_false, Nat.add_left_cancel_iff, Nat.add_eq_left, Nat.left_eq_add, Nat.one_ne_zero, Nat.reduceAdd, Nat.reduceLT, Nat.reduceLeDiff, Nat.reduceEqDiff, true_implies, false_implies, implies_true, Option.some.injEq, forall_eq', forall_eq, reduceCtorEq, brT, brF, br_s, i_10, i_01, ib_0_2, ib_1_2, tn_0, tn_1, Int32.le_refl, eq_self, rv_bN, rv_iM, RCM 81, RLY, lit_at hw, e1 hd, e2 hd, c1, z00, mr_1l t2, on_succ]
    exact hQ
  · have h1 : 0 < ρ 11 := h1
    have W1 := w1 true (by rw [if_pos h1]; exact k1)
    rcases mV_c (τ := τ) (ρ := mS1 τ ρ 1) (m := 0) with ⟨c0, h0, k0⟩ | ⟨c0, h0, k0⟩ | ⟨c0, h0⟩
    · have h0 : 0 < mS1 τ ρ 1 10 := h0
      rw [e10] at h0
      rw [ek] at k0
      have W0 := w0 false (by rw [if_pos h0]; exact k0)
      rw [iB_f (fun q => by
        rcases q.1.2 with z | z
        · rw [W0] at z; exact absurd z (by decide)
        · exact z h0)] at hQ
      simp only [↓br_pos, ↓br_neg, ↓rF_I, ↓rF_L, ↓rF_R, ↓rF_N, rO_m, rB_m, ↓rI_m, wI_m, ↓rB2_m, ↓rB3_m, wB2_m, wB3_m, ↓rL_m, wL_m, ↓rQ_m, wQ_m, ↓lI_m, pI_m, pL_m, pR_m, sI_m, sBy_m, sBo_m, sL_m, sQ_m, fst_m, true_and, and_true, tg_some, ln_some, uI_1, uI_2, uL_1, uL_2, uL_3, uQ_1, uQ_2, uQ_3, rv_i, rv_l, rv_n, rv_b0, rv_b1, RMR, ne_eq, reduceCtorEq, not_false_eq_true, Option.getD_some, if_true, if_false, and_self, false_and, and_false, Nat.add_left_cancel_iff, Nat.add_eq_left, Nat.left_eq_add, Nat.one_ne_zero, Nat.reduceAdd, Nat.reduceLT, Nat.reduceLeDiff, Nat.reduceEqDiff, true_implies, false_implies, implies_true, Option.some.injEq, forall_eq', forall_eq, reduceCtorEq, brT, brF, br_s, i_10, i_01, ib_0_2, ib_1_2, tn_0, tn_1, Int32.le_refl, eq_self, rv_bN, rv_iM, RCM 81, RLY, lit_at hw, e1 hd, e2 hd, c1, c0, z10, z00, mr_1l t2, on_succ]
      exact hQ
    · rw [ek] at k0
      have h0 : 0 < mS1 τ ρ 1 10 := h0
      rw [e10] at h0
      have W0 := w0 true (by rw [if_pos h0]; exact k0)
      rw [iB_t ⟨⟨Or.inl W1, Or.inl W0⟩, Or.inl W1⟩] at hQ
      simp only [↓br_pos, ↓br_neg, ↓rF_I, ↓rF_L, ↓rF_R, ↓rF_N, rO_m, rB_m, ↓rI_m, wI_m, ↓rB2_m, ↓rB3_m, wB2_m, wB3_m, ↓rL_m, wL_m, ↓rQ_m, wQ_m, ↓lI_m, pI_m, pL_m, pR_m, sI_m, sBy_m, sBo_m, sL_m, sQ_m, fst_m, true_and, and_true, tg_some, ln_some, uI_1, uI_2, uL_1, uL_2, uL_3, uQ_1, uQ_2, uQ_3, rv_i, rv_l, rv_n, rv_b0, rv_b1, RMR, ne_eq, reduceCtorEq, not_false_eq_true, Option.getD_some, if_true, if_false, and_self, false_and, and_false, Nat.add_left_cancel_iff, Nat.add_eq_left, Nat.left_eq_add, Nat.one_ne_zero, Nat.reduceAdd, Nat.reduceLT, Nat.reduceLeDiff, Nat.reduceEqDiff, true_implies, false_implies, implies_true, Option.some.injEq, forall_eq', forall_eq, reduceCtorEq, brT, brF, br_s, i_10, i_01, ib_0_2, ib_1_2, tn_0, tn_1, Int32.le_refl, eq_self, rv_bN, rv_iM, RCM 81, RLY, lit_at hw, e1 hd, e2 hd, c1, c0, z10, i11, mr_1l t2, on_succ]
      exact hQ
    · have h0 : ¬ 0 < mS1 τ ρ 1 10 := h0
      rw [e10] at h0
      rw [iB_t ⟨⟨Or.inl W1, Or.inr h0⟩, Or.inl W1⟩] at hQ
      simp only [↓br_pos, ↓br_neg, ↓rF_I, ↓rF_L, ↓rF_R, ↓rF_N, rO_m, rB_m, ↓rI_m, wI_m, ↓rB2_m, ↓rB3_m, wB2_m, wB3_m, ↓rL_m, wL_m, ↓rQ_m, wQ_m, ↓lI_m, pI_m, pL_m, pR_m, sI_m, sBy_m, sBo_m, sL_m, sQ_m, fst_m, true_and, and_true, tg_some, ln_some, uI_1, uI_2, uL_1, uL_2, uL_3, uQ_1, uQ_2, uQ_3, rv_i, rv_l, rv_n, rv_b0, rv_b1, RMR, ne_eq, reduceCtorEq, not_false_eq_true, Option.getD_some, if_true, if_false, and_self, false_and, and_false, Nat.add_left_cancel_iff, Nat.add_eq_left, Nat.left_eq_add, Nat.one_ne_zero, Nat.reduceAdd, Nat.reduceLT, Nat.reduceLeDiff, Nat.reduceEqDiff, true_implies, false_implies, implies_true, Option.some.injEq, forall_eq', forall_eq, reduceCtorEq, brT, brF, br_s, i_10, i_01, ib_0_2, ib_1_2, tn_0, tn_1, Int32.le_refl, eq_self, rv_bN, rv_iM, RCM 81, RLY, lit_at hw, e1 hd, e2 hd, c1, c0, z10, i20, i11, mr_1l t2, on_succ]
      exact hQ
  · have h1 : ¬ 0 < ρ 11 := h1
    have W1 := w1 false (by rw [if_neg h1])
    rcases mV_c (τ := τ) (ρ := mS1 τ ρ 1) (m := 0) with ⟨c0, h0, k0⟩ | ⟨c0, h0, k0⟩ | ⟨c0, h0⟩
    · have h0 : 0 < mS1 τ ρ 1 10 := h0
      rw [e10] at h0
      rw [ek] at k0
      have W0 := w0 false (by rw [if_pos h0]; exact k0)
      rw [iB_f (fun q => by
        rcases q.1.2 with z | z
        · rw [W0] at z; exact absurd z (by decide)
        · exact z h0)] at hQ
      simp only [↓br_pos, ↓br_neg, ↓rF_I, ↓rF_L, ↓rF_R, ↓rF_N, rO_m, rB_m, ↓rI_m, wI_m, ↓rB2_m, ↓rB3_m, wB2_m, wB3_m, ↓rL_m, wL_m, ↓rQ_m, wQ_m, ↓lI_m, pI_m, pL_m, pR_m, sI_m, sBy_m, sBo_m, sL_m, sQ_m, fst_m, true_and, and_true, tg_some, ln_some, uI_1, uI_2, uL_1, uL_2, uL_3, uQ_1, uQ_2, uQ_3, rv_i, rv_l, rv_n, rv_b0, rv_b1, RMR, ne_eq, reduceCtorEq, not_false_eq_true, Option.getD_some, if_true, if_false, and_self, false_and, and_false, Nat.add_left_cancel_iff, Nat.add_eq_left, Nat.left_eq_add, Nat.one_ne_zero, Nat.reduceAdd, Nat.reduceLT, Nat.reduceLeDiff, Nat.reduceEqDiff, true_implies, false_implies, implies_true, Option.some.injEq, forall_eq', forall_eq, reduceCtorEq, brT, brF, br_s, i_10, i_01, ib_0_2, ib_1_2, tn_0, tn_1, Int32.le_refl, eq_self, rv_bN, rv_iM, RCM 81, RLY, lit_at hw, e1 hd, e2 hd, c1, c0, i20, z00, mr_1l t2, on_succ]
      exact hQ
    · rw [ek] at k0
      have h0 : 0 < mS1 τ ρ 1 10 := h0
      rw [e10] at h0
      have W0 := w0 true (by rw [if_pos h0]; exact k0)
      rw [iB_t ⟨⟨Or.inr h1, Or.inl W0⟩, Or.inr W0⟩] at hQ
      simp only [↓br_pos, ↓br_neg, ↓rF_I, ↓rF_L, ↓rF_R, ↓rF_N, rO_m, rB_m, ↓rI_m, wI_m, ↓rB2_m, ↓rB3_m, wB2_m, wB3_m, ↓rL_m, wL_m, ↓rQ_m, wQ_m, ↓lI_m, pI_m, pL_m, pR_m, sI_m, sBy_m, sBo_m, sL_m, sQ_m, fst_m, true_and, and_true, tg_some, ln_some, uI_1, uI_2, uL_1, uL_2, uL_3, uQ_1, uQ_2, uQ_3, rv_i, rv_l, rv_n, rv_b0, rv_b1, RMR, ne_eq, reduceCtorEq, not_false_eq_true, Option.getD_some, if_true, if_false, and_self, false_and, and_false, Nat.add_left_cancel_iff, Nat.add_eq_left, Nat.left_eq_add, Nat.one_ne_zero, Nat.reduceAdd, Nat.reduceLT, Nat.reduceLeDiff, Nat.reduceEqDiff, true_implies, false_implies, implies_true, Option.some.injEq, forall_eq', forall_eq, reduceCtorEq, brT, brF, br_s, i_10, i_01, ib_0_2, ib_1_2, tn_0, tn_1, Int32.le_refl, eq_self, rv_bN, rv_iM, RCM 81, RLY, lit_at hw, e1 hd, e2 hd, c1, c0, z10, i20, i21, i11, mr_1l t2, on_succ]
      exact hQ
    · have h0 : ¬ 0 < mS1 τ ρ 1 10 := h0
      rw [e10] at h0
      have W0 := w0 false (by rw [if_neg h0])
      rw [iB_f (fun q => by
        rcases q.2 with z | z
        · rw [W1] at z; exact absurd z (by decide)
        · rw [W0] at z; exact absurd z (by decide))] at hQ
      simp only [↓br_pos, ↓br_neg, ↓rF_I, ↓rF_L, ↓rF_R, ↓rF_N, rO_m, rB_m, ↓rI_m, wI_m, ↓rB2_m, ↓rB3_m, wB2_m, wB3_m, ↓rL_m, wL_m, ↓rQ_m, wQ_m, ↓lI_m, pI_m, pL_m, pR_m, sI_m, sBy_m, sBo_m, sL_m, sQ_m, fst_m, true_and, and_true, tg_some, ln_some, uI_1, uI_2, uL_1, uL_2, uL_3, uQ_1, uQ_2, uQ_3, rv_i, rv_l, rv_n, rv_b0, rv_b1, RMR, ne_eq, reduceCtorEq, not_false_eq_true, Option.getD_some, if_true, if_false, and_self, false_and, and_false, Nat.add_left_cancel_iff, Nat.add_eq_left, Nat.left_eq_add, Nat.one_ne_zero, Nat.reduceAdd, Nat.reduceLT, Nat.reduceLeDiff, Nat.reduceEqDiff, true_implies, false_implies, implies_true, Option.some.injEq, forall_eq', forall_eq, reduceCtorEq, brT, brF, br_s, i_10, i_01, ib_0_2, ib_1_2, tn_0, tn_1, Int32.le_refl, eq_self, rv_bN, rv_iM, RCM 81, RLY, lit_at hw, e1 hd, e2 hd, c1, c0, i20, i21, mr_1l t2, on_succ]
      exact hQ
theorem lp_203 {w : mT} {τ ρ0 : Rw} {N : Nat} (hw : lit w) (hv : vTold τ) (hr0 : vRow τ ρ0) (hN : N ≤ 200) : ∀ (r i : Nat) (σ : mS), i + r = N → mTold σ τ → mRow σ 85 0 (mnR τ ρ0 i) → ∃ σ', frB σ σ' ∧ mRow σ' 85 0 (mnR τ ρ0 N) ∧ ∀ {Q : Option (Option Value) → Hp → Prop} {d : Nat}, 5 ≤ d → Q (some (some (.int (Int32.ofNat (mnC τ ρ0 N))))) (mW w σ') → Wp 203 27 [.ref 81, .int (Int32.ofNat N), .int (Int32.ofNat (mnC τ ρ0 i)), .int (Int32.ofNat i)] [] (mW w σ) Q d := by
  intro r
  induction r with
  | zero =>
    intro i σ hi hτ hρ
    have hi' : i = N := by omega
    subst hi'
    refine ⟨σ, frB_rf, hρ, fun hd hQ => ?_⟩
    refine b203_27 ?_
    simp only [↓br_pos, ↓br_neg, ↓rF_I, ↓rF_L, ↓rF_R, ↓rF_N, rO_m, rB_m, ↓rI_m, wI_m, ↓rB2_m, ↓rB3_m, wB2_m, wB3_m, ↓rL_m, wL_m, ↓rQ_m, wQ_m, ↓lI_m, pI_m, pL_m, pR_m, sI_m, sBy_m, sBo_m, sL_m, sQ_m, fst_m, true_and, and_true, tg_some, ln_some, uI_1, uI_2, uL_1, uL_2, uL_3, uQ_1, uQ_2, uQ_3, rv_i, rv_l, rv_n, rv_b0, rv_b1, RMR, ne_eq, reduceCtorEq, not_false_eq_true, Option.getD_some, if_true, if_false, and_self, false_and, and_false, Nat.add_left_cancel_iff, Nat.add_eq_left, Nat.left_eq_add, Nat.one_ne_zero, Nat.reduceAdd, Nat.reduceLT, Nat.reduceLeDiff, Nat.reduceEqDiff, true_implies, false_implies, implies_true, Option.some.injEq, forall_eq', forall_eq, reduceCtorEq, brT, brF, br_s, i_10, i_01, ib_0_2, ib_1_2, tn_0, tn_1, Int32.le_refl, eq_self, rv_bN, rv_iM, Int32.le_refl]
    exact hQ
  | succ r ih =>
    intro i σ hi hτ hρ
    obtain ⟨σ1, f1, t1, e1⟩ := k_202 hw hτ hρ hv (vRow_mn hv hr0 i)
    obtain ⟨σ2, f2, t2, e2⟩ := ih (i + 1) σ1 (by omega) (mT_c hτ (f1.1 83 (by omega) (by omega))) t1
    refine ⟨σ2, frB_tr f1 f2, t2, fun hd hQ => ?_⟩
    have l1 : (Int32.ofNat N ≤ Int32.ofNat i) ↔ False := iff_false_intro (fun q => absurd ((on_le (by omega) (by omega)).mp q) (by omega))
    have fin := e2 hd hQ
    have ec : mnC τ ρ0 (i + 1) = mnC τ ρ0 i + (if mPs τ (mnR τ ρ0 i) then 1 else 0) := rfl
    rw [ec] at fin
    refine b203_27 ?_
    by_cases y : mPs τ (mnR τ ρ0 i)
    · rw [if_pos y] at fin
      simp only [↓br_pos, ↓br_neg, ↓rF_I, ↓rF_L, ↓rF_R, ↓rF_N, rO_m, rB_m, ↓rI_m, wI_m, ↓rB2_m, ↓rB3_m, wB2_m, wB3_m, ↓rL_m, wL_m, ↓rQ_m, wQ_m, ↓lI_m, pI_m, pL_m, pR_m, sI_m, sBy_m, sBo_m, sL_m, sQ_m, fst_m, true_and, and_true, tg_some, ln_some, uI_1, uI_2, uL_1, uL_2, uL_3, uQ_1, uQ_2, uQ_3, rv_i, rv_l, rv_n, rv_b0, rv_b1, RMR, ne_eq, reduceCtorEq, not_false_eq_true, Option.getD_some, if_true, if_false, and_self, false_and, and_false, Nat.add_left_cancel_iff, Nat.add_eq_left, Nat.left_eq_add, Nat.one_ne_zero, Nat.reduceAdd, Nat.reduceLT, Nat.reduceLeDiff, Nat.reduceEqDiff, true_implies, false_implies, implies_true, Option.some.injEq, forall_eq', forall_eq, reduceCtorEq, brT, brF, br_s, i_10, i_01, ib_0_2, ib_1_2, tn_0, tn_1, Int32.le_refl, eq_self, rv_bN, rv_iM, RCM 81, RLY, lit_at hw, l1, e1 hd, iB_t y, z10, on_succ]
      exact fin
    · rw [if_neg y, Nat.add_zero] at fin
      have a0 : Int32.ofNat (mnC τ ρ0 i) + (0 : Int32) = Int32.ofNat (mnC τ ρ0 i) := Int32.add_zero _
      simp only [↓br_pos, ↓br_neg, ↓rF_I, ↓rF_L, ↓rF_R, ↓rF_N, rO_m, rB_m, ↓rI_m, wI_m, ↓rB2_m, ↓rB3_m, wB2_m, wB3_m, ↓rL_m, wL_m, ↓rQ_m, wQ_m, ↓lI_m, pI_m, pL_m, pR_m, sI_m, sBy_m, sBo_m, sL_m, sQ_m, fst_m, true_and, and_true, tg_some, ln_some, uI_1, uI_2, uL_1, uL_2, uL_3, uQ_1, uQ_2, uQ_3, rv_i, rv_l, rv_n, rv_b0, rv_b1, RMR, ne_eq, reduceCtorEq, not_false_eq_true, Option.getD_some, if_true, if_false, and_self, false_and, and_false, Nat.add_left_cancel_iff, Nat.add_eq_left, Nat.left_eq_add, Nat.one_ne_zero, Nat.reduceAdd, Nat.reduceLT, Nat.reduceLeDiff, Nat.reduceEqDiff, true_implies, false_implies, implies_true, Option.some.injEq, forall_eq', forall_eq, reduceCtorEq, brT, brF, br_s, i_10, i_01, ib_0_2, ib_1_2, tn_0, tn_1, Int32.le_refl, eq_self, rv_bN, rv_iM, RCM 81, RLY, lit_at hw, l1, e1 hd, iB_f y, z00, a0, on_succ]
      exact fin
theorem m_203z {w : mT} {σ : mS} {tp n : Nat} {t : Nat → Nat} {τ ρ : Rw} {bk : Nat → Rw} {has : Nat → Bool} {im : Nat → Rw} {a : Int32} {D : Nat} {K : Int32 → Hp → Prop} (h : mIn w σ tp t τ ρ n bk has im) (ha : ¬ (1 ≤ a.toInt ∧ a.toInt ≤ 200)) (hD : 6 ≤ D) : wpI D 203 [.ref 81, .int a] (mW w σ) K ↔ K (-1) (mW w (uI σ 81 0 0)) := by
  have M := h
  obtain ⟨hw, hτ, hρ, hv, hr, hp2, htp, htb, htl, hn, hn12, hbk, him⟩ := h
  have M0 := mIn_Z M (frZ_0 (j := 0) (x := 0) (by omega))
  obtain ⟨_, hτ0, hρ0, _, _, hp20, _, htb0, _, hn0, _, hbk0, him0⟩ := M0
  have M0 := mIn_Z M (frZ_0 (j := 0) (x := 0) (by omega))
  refine cI_of (m := 5) (fun d hd Q hQ => ?_) rfl hD
  have hd1 : 1 ≤ d := by omega
  refine b203_0 ?_
  simp only [↓br_pos, ↓br_neg, ↓rF_I, ↓rF_L, ↓rF_R, ↓rF_N, rO_m, rB_m, ↓rI_m, wI_m, ↓rB2_m, ↓rB3_m, wB2_m, wB3_m, ↓rL_m, wL_m, ↓rQ_m, wQ_m, ↓lI_m, pI_m, pL_m, pR_m, sI_m, sBy_m, sBo_m, sL_m, sQ_m, fst_m, true_and, and_true, tg_some, ln_some, uI_1, uI_2, uL_1, uL_2, uL_3, uQ_1, uQ_2, uQ_3, rv_i, rv_l, rv_n, rv_b0, rv_b1, RMR, ne_eq, reduceCtorEq, not_false_eq_true, Option.getD_some, if_true, if_false, and_self, false_and, and_false, Nat.add_left_cancel_iff, Nat.add_eq_left, Nat.left_eq_add, Nat.one_ne_zero, Nat.reduceAdd, Nat.reduceLT, Nat.reduceLeDiff, Nat.reduceEqDiff, true_implies, false_implies, implies_true, Option.some.injEq, forall_eq', forall_eq, reduceCtorEq, brT, brF, br_s, i_10, i_01, ib_0_2, ib_1_2, tn_0, tn_1, Int32.le_refl, eq_self, rv_bN, rv_iM, RCM 81, RLY, lit_at hw, g_129 hd1, vin_200, iB_f ha, z00]
  exact hQ
theorem m_203 {w : mT} {σ : mS} {tp n : Nat} {t : Nat → Nat} {τ ρ : Rw} {bk : Nat → Rw} {has : Nat → Bool} {im : Nat → Rw} {N : Nat} (h : mIn w σ tp t τ ρ n bk has im) (hN : 1 ≤ N ∧ N ≤ 200) : ∃ σ', frA σ σ' ∧ mIn w σ' tp t τ (mnR τ ρ N) (nPh n) (bkPh n bk ρ) has im ∧ ∀ {D : Nat} {K : Int32 → Hp → Prop}, 6 ≤ D → (wpI D 203 [.ref 81, .int (Int32.ofNat N)] (mW w σ) K ↔ K (Int32.ofNat (mnC τ ρ N)) (mW w σ')) := by
  have M := h
  obtain ⟨hw, hτ, hρ, hv, hr, hp2, htp, htb, htl, hn, hn12, hbk, him⟩ := h
  have M0 := mIn_Z M (frZ_0 (j := 0) (x := 0) (by omega))
  obtain ⟨_, hτ0, hρ0, _, _, hp20, _, htb0, _, hn0, _, hbk0, him0⟩ := M0
  have M0 := mIn_Z M (frZ_0 (j := 0) (x := 0) (by omega))
  obtain ⟨σ1, f1, M1, k1⟩ := k_177 M0
  have hρ1 := M1.2.2.1
  have hτ1 := M1.2.1
  have F1 := frA_tr (frA_I (σ := σ) (a := 81) (j := 0) (x := 0) (by omega)) f1
  obtain ⟨σ2, f2, t2, e2⟩ := lp_203 (N := N) hw hv hr hN.2 N 0 σ1 (by omega) hτ1 hρ1
  refine ⟨σ2, frA_tr F1 (frB_A f2), mIn_B M1 f2 t2 (vRow_mn hv hr N), fun hD => cI_of (m := 5) (fun d hd Q hQ => ?_) rfl hD⟩
  have hd1 : 1 ≤ d := by omega
  have hd2 : 2 ≤ d := by omega
  have c1 : 1 ≤ (Int32.ofNat N).toInt ∧ (Int32.ofNat N).toInt ≤ 200 := by rw [on_int (by omega)]; omega
  refine b203_0 ?_
  simp only [↓br_pos, ↓br_neg, ↓rF_I, ↓rF_L, ↓rF_R, ↓rF_N, rO_m, rB_m, ↓rI_m, wI_m, ↓rB2_m, ↓rB3_m, wB2_m, wB3_m, ↓rL_m, wL_m, ↓rQ_m, wQ_m, ↓lI_m, pI_m, pL_m, pR_m, sI_m, sBy_m, sBo_m, sL_m, sQ_m, fst_m, true_and, and_true, tg_some, ln_some, uI_1, uI_2, uL_1, uL_2, uL_3, uQ_1, uQ_2, uQ_3, rv_i, rv_l, rv_n, rv_b0, rv_b1, RMR, ne_eq, reduceCtorEq, not_false_eq_true, Option.getD_some, if_true, if_false, and_self, false_and, and_false, Nat.add_left_cancel_iff, Nat.add_eq_left, Nat.left_eq_add, Nat.one_ne_zero, Nat.reduceAdd, Nat.reduceLT, Nat.reduceLeDiff, Nat.reduceEqDiff, true_implies, false_implies, implies_true, Option.some.injEq, forall_eq', forall_eq, reduceCtorEq, brT, brF, br_s, i_10, i_01, ib_0_2, ib_1_2, tn_0, tn_1, Int32.le_refl, eq_self, rv_bN, rv_iM, RCM 81, RLY, lit_at hw, g_129 hd1, vin_200, iB_t c1, z10, k1 hd2]
  exact e2 hd hQ
theorem lp_204 {w : mT} {τ ρ0 : Rw} (hw : lit w) (hv : vTold τ) : ∀ (k i : Nat) (σ : mS) (ρ : Rw), i + k = 500 → mTold σ τ → mRow σ 85 0 ρ → vRow τ ρ → mRow σ 89 0 ρ0 → ∃ σ', frB σ σ' ∧ mRow σ' 85 0 ρ0 ∧ ∀ {Q : Option (Option Value) → Hp → Prop} {d : Nat}, 5 ≤ d → Q (some (some (.int (enN τ k i ρ)))) (mW w σ') → Wp 204 20 [.ref 81, .int (Int32.ofNat i), jk] [] (mW w σ) Q d := by
  have fr9 : ∀ σ : mS, frB σ (cpG σ 89 0 85 0 2471) := fun σ => ⟨fun a _ r => cpG_o r, fun j _ _ => by rw [cpG_o (by omega)], rfl⟩
  intro k
  induction k with
  | zero =>
    intro i σ ρ hi hτ hρ hr h9
    have hi' : i = 500 := by omega
    subst hi'
    have c8 := vR_c0 hr
    have c9 := vR_c1 hr
    refine ⟨cpG σ 89 0 85 0 2471, fr9 σ, cpG_r h9, fun hd hQ => ?_⟩
    have hd1 := Nat.le_trans (by omega : 1 ≤ 5) hd
    have l1 : ((500 : Int32) ≤ Int32.ofNat 500) ↔ True := by decide
    refine b204_20 ?_
    have eE : enN τ 0 500 ρ = if 0 < ρ 10 ∨ 0 < ρ 11 then -2 else 500 := rfl
    rw [eE] at hQ
    by_cases y : 0 < ρ 10 ∨ 0 < ρ 11
    · rw [if_pos y] at hQ
      have c1 : (Int32.ofNat (ρ 10 + ρ 11) ≤ 0) ↔ False := iff_false_intro (fun q => by have := (of_le0 (by omega)).mp q; omega)
      simp only [↓br_pos, ↓br_neg, ↓rF_I, ↓rF_L, ↓rF_R, ↓rF_N, rO_m, rB_m, ↓rI_m, wI_m, ↓rB2_m, ↓rB3_m, wB2_m, wB3_m, ↓rL_m, wL_m, ↓rQ_m, wQ_m, ↓lI_m, pI_m, pL_m, pR_m, sI_m, sBy_m, sBo_m, sL_m, sQ_m, fst_m, true_and, and_true, tg_some, ln_some, uI_1, uI_2, uL_1, uL_2, uL_3, uQ_1, uQ_2, uQ_3, rv_i, rv_l, rv_n, rv_b0, rv_b1, RMR, ne_eq, reduceCtorEq, not_false_eq_true, Option.getD_some, if_true, if_false, and_self, false_and, and_false, Nat.add_left_cancel_iff, Nat.add_eq_left, Nat.left_eq_add, Nat.one_ne_zero, Nat.reduceAdd, Nat.reduceLT, Nat.reduceLeDiff, Nat.reduceEqDiff, true_implies, false_implies, implies_true, Option.some.injEq, forall_eq', forall_eq, reduceCtorEq, brT, brF, br_s, i_10, i_01, ib_0_2, ib_1_2, tn_0, tn_1, Int32.le_refl, eq_self, rv_bN, rv_iM, RCM 81, RLY, lit_at hw, ad_2, ad_4, ad_6, ad_8, ad_10, ad_12, ad_16, ad_24, ad_27, ad_28, ad_31, ad_35, ad_43, ad_51, ad_107, ad_131, ad_311, ml_3, ml_6, ml_7, ml_60, ml_100, ml_2471, mq_12, ar_2, ar_3, ar_4, ar_5, ar_6, of_add, of_mul, on_succ, l1, mr_10l hρ, mr_11l hρ, c1, g_149' (σ := σ) (oa := 0) (ob := 0) (x := 0) (y := 0) (a89 hw) (a85 hw) rfl rfl (by omega) hd1, z10]
      exact hQ
    · rw [if_neg y] at hQ
      have c1 : (Int32.ofNat (ρ 10 + ρ 11) ≤ 0) ↔ True := iff_true_intro ((of_le0 (by omega)).mpr (by omega))
      simp only [↓br_pos, ↓br_neg, ↓rF_I, ↓rF_L, ↓rF_R, ↓rF_N, rO_m, rB_m, ↓rI_m, wI_m, ↓rB2_m, ↓rB3_m, wB2_m, wB3_m, ↓rL_m, wL_m, ↓rQ_m, wQ_m, ↓lI_m, pI_m, pL_m, pR_m, sI_m, sBy_m, sBo_m, sL_m, sQ_m, fst_m, true_and, and_true, tg_some, ln_some, uI_1, uI_2, uL_1, uL_2, uL_3, uQ_1, uQ_2, uQ_3, rv_i, rv_l, rv_n, rv_b0, rv_b1, RMR, ne_eq, reduceCtorEq, not_false_eq_true, Option.getD_some, if_true, if_false, and_self, false_and, and_false, Nat.add_left_cancel_iff, Nat.add_eq_left, Nat.left_eq_add, Nat.one_ne_zero, Nat.reduceAdd, Nat.reduceLT, Nat.reduceLeDiff, Nat.reduceEqDiff, true_implies, false_implies, implies_true, Option.some.injEq, forall_eq', forall_eq, reduceCtorEq, brT, brF, br_s, i_10, i_01, ib_0_2, ib_1_2, tn_0, tn_1, Int32.le_refl, eq_self, rv_bN, rv_iM, RCM 81, RLY, lit_at hw, ad_2, ad_4, ad_6, ad_8, ad_10, ad_12, ad_16, ad_24, ad_27, ad_28, ad_31, ad_35, ad_43, ad_51, ad_107, ad_131, ad_311, ml_3, ml_6, ml_7, ml_60, ml_100, ml_2471, mq_12, ar_2, ar_3, ar_4, ar_5, ar_6, of_add, of_mul, on_succ, l1, mr_10l hρ, mr_11l hρ, c1, g_149' (σ := σ) (oa := 0) (ob := 0) (x := 0) (y := 0) (a89 hw) (a85 hw) rfl rfl (by omega) hd1, z00]
      exact hQ
  | succ k ih =>
    intro i σ ρ hi hτ hρ hr h9
    have c8 := vR_c0 hr
    have c9 := vR_c1 hr
    have l1 : ((500 : Int32) ≤ Int32.ofNat i) ↔ False := iff_false_intro (fun q => absurd ((on_le (i := 500) (by omega) (by omega)).mp q) (by omega))
    have eE : enN τ (k + 1) i ρ = if 0 < ρ 10 ∨ 0 < ρ 11 then enN τ k (i + 1) (sMin τ ρ) else Int32.ofNat i := rfl
    rw [eE]
    by_cases y : 0 < ρ 10 ∨ 0 < ρ 11
    · rw [if_pos y]
      have c1 : (Int32.ofNat (ρ 10 + ρ 11) ≤ 0) ↔ False := iff_false_intro (fun q => by have := (of_le0 (by omega)).mp q; omega)
      obtain ⟨σ1, f1, t1, e1⟩ := k_202 hw hτ hρ hv hr
      obtain ⟨σ2, f2, t2, e2⟩ := ih (i + 1) σ1 (sMin τ ρ) (by omega) (mT_c hτ (f1.1 83 (by omega) (by omega))) t1 (vRow_mn hv hr 1) (mR_c h9 (f1.1 89 (by omega) (by omega)))
      refine ⟨σ2, frB_tr f1 f2, t2, fun hd hQ => ?_⟩
      refine b204_20 ?_
      simp only [↓br_pos, ↓br_neg, ↓rF_I, ↓rF_L, ↓rF_R, ↓rF_N, rO_m, rB_m, ↓rI_m, wI_m, ↓rB2_m, ↓rB3_m, wB2_m, wB3_m, ↓rL_m, wL_m, ↓rQ_m, wQ_m, ↓lI_m, pI_m, pL_m, pR_m, sI_m, sBy_m, sBo_m, sL_m, sQ_m, fst_m, true_and, and_true, tg_some, ln_some, uI_1, uI_2, uL_1, uL_2, uL_3, uQ_1, uQ_2, uQ_3, rv_i, rv_l, rv_n, rv_b0, rv_b1, RMR, ne_eq, reduceCtorEq, not_false_eq_true, Option.getD_some, if_true, if_false, and_self, false_and, and_false, Nat.add_left_cancel_iff, Nat.add_eq_left, Nat.left_eq_add, Nat.one_ne_zero, Nat.reduceAdd, Nat.reduceLT, Nat.reduceLeDiff, Nat.reduceEqDiff, true_implies, false_implies, implies_true, Option.some.injEq, forall_eq', forall_eq, reduceCtorEq, brT, brF, br_s, i_10, i_01, ib_0_2, ib_1_2, tn_0, tn_1, Int32.le_refl, eq_self, rv_bN, rv_iM, RCM 81, RLY, lit_at hw, ad_2, ad_4, ad_6, ad_8, ad_10, ad_12, ad_16, ad_24, ad_27, ad_28, ad_31, ad_35, ad_43, ad_51, ad_107, ad_131, ad_311, ml_3, ml_6, ml_7, ml_60, ml_100, ml_2471, mq_12, ar_2, ar_3, ar_4, ar_5, ar_6, of_add, of_mul, on_succ, l1, mr_10l hρ, mr_11l hρ, c1, e1 hd]
      exact e2 hd hQ
    · rw [if_neg y]
      have c1 : (Int32.ofNat (ρ 10 + ρ 11) ≤ 0) ↔ True := iff_true_intro ((of_le0 (by omega)).mpr (by omega))
      refine ⟨cpG σ 89 0 85 0 2471, fr9 σ, cpG_r h9, fun hd hQ => ?_⟩
      have hd1 := Nat.le_trans (by omega : 1 ≤ 5) hd
      refine b204_20 ?_
      simp only [↓br_pos, ↓br_neg, ↓rF_I, ↓rF_L, ↓rF_R, ↓rF_N, rO_m, rB_m, ↓rI_m, wI_m, ↓rB2_m, ↓rB3_m, wB2_m, wB3_m, ↓rL_m, wL_m, ↓rQ_m, wQ_m, ↓lI_m, pI_m, pL_m, pR_m, sI_m, sBy_m, sBo_m, sL_m, sQ_m, fst_m, true_and, and_true, tg_some, ln_some, uI_1, uI_2, uL_1, uL_2, uL_3, uQ_1, uQ_2, uQ_3, rv_i, rv_l, rv_n, rv_b0, rv_b1, RMR, ne_eq, reduceCtorEq, not_false_eq_true, Option.getD_some, if_true, if_false, and_self, false_and, and_false, Nat.add_left_cancel_iff, Nat.add_eq_left, Nat.left_eq_add, Nat.one_ne_zero, Nat.reduceAdd, Nat.reduceLT, Nat.reduceLeDiff, Nat.reduceEqDiff, true_implies, false_implies, implies_true, Option.some.injEq, forall_eq', forall_eq, reduceCtorEq, brT, brF, br_s, i_10, i_01, ib_0_2, ib_1_2, tn_0, tn_1, Int32.le_refl, eq_self, rv_bN, rv_iM, RCM 81, RLY, lit_at hw, ad_2, ad_4, ad_6, ad_8, ad_10, ad_12, ad_16, ad_24, ad_27, ad_28, ad_31, ad_35, ad_43, ad_51, ad_107, ad_131, ad_311, ml_3, ml_6, ml_7, ml_60, ml_100, ml_2471, mq_12, ar_2, ar_3, ar_4, ar_5, ar_6, of_add, of_mul, on_succ, l1, mr_10l hρ, mr_11l hρ, c1, g_149' (σ := σ) (oa := 0) (ob := 0) (x := 0) (y := 0) (a89 hw) (a85 hw) rfl rfl (by omega) hd1, z00]
      exact hQ
theorem m_204 {w : mT} {σ : mS} {tp n : Nat} {t : Nat → Nat} {τ ρ : Rw} {bk : Nat → Rw} {has : Nat → Bool} {im : Nat → Rw}  (h : mIn w σ tp t τ ρ n bk has im) : ∃ σ', frA σ σ' ∧ mIn w σ' tp t τ ρ n bk has im ∧ ∀ {D : Nat} {K : Int32 → Hp → Prop}, 6 ≤ D → (wpI D 204 [.ref 81] (mW w σ) K ↔ K (enN τ 500 0 ρ) (mW w σ')) := by
  have M := h
  obtain ⟨hw, hτ, hρ, hv, hr, hp2, htp, htb, htl, hn, hn12, hbk, him⟩ := h
  have M0 := mIn_Z M (frZ_0 (j := 0) (x := 0) (by omega))
  obtain ⟨_, hτ0, hρ0, _, _, hp20, _, htb0, _, hn0, _, hbk0, him0⟩ := M0
  have M0 := mIn_Z M (frZ_0 (j := 0) (x := 0) (by omega))
  have e : ∀ c, c ≠ 89 → (cpG (uI σ 81 0 0) 85 0 89 0 2471).1 c = (uI σ 81 0 0).1 c := fun c q => cpG_o q
  have M1 : mIn w (cpG (uI σ 81 0 0) 85 0 89 0 2471) tp t τ ρ n bk has im := by
    refine ⟨hw, mT_c hτ0 (e 83 (by omega)), mR_c hρ0 (e 85 (by omega)), hv, hr, by rw [e 81 (by omega)]; exact hp20, htp, fun i hi => by rw [e 82 (by omega)]; exact htb0 i hi, htl, by rw [e 81 (by omega)]; exact hn0, hn12, fun i hi => ⟨mR_c (hbk0 i hi).1 (e 86 (by omega)), (hbk0 i hi).2⟩, fun k hk => ?_⟩
    obtain ⟨a, b⟩ := him0 k hk
    exact ⟨by rw [e 87 (by omega)]; exact a, fun q => ⟨mR_c (b q).1 (e 88 (by omega)), (b q).2⟩⟩
  obtain ⟨σ2, f2, t2, e2⟩ := lp_204 hw hv 500 0 _ ρ (by omega) M1.2.1 M1.2.2.1 hr (cpG_r hρ0)
  refine ⟨σ2, frA_tr (frA_I (a := 81) (j := 0) (x := 0) (by omega)) (frA_tr (frA_G (by omega)) (frB_A f2)), mIn_B M1 f2 t2 hr, fun hD => cI_of (m := 5) (fun d hd Q hQ => ?_) rfl hD⟩
  have hd1 : 1 ≤ d := by omega
  refine b204_0 ?_
  simp only [↓br_pos, ↓br_neg, ↓rF_I, ↓rF_L, ↓rF_R, ↓rF_N, rO_m, rB_m, ↓rI_m, wI_m, ↓rB2_m, ↓rB3_m, wB2_m, wB3_m, ↓rL_m, wL_m, ↓rQ_m, wQ_m, ↓lI_m, pI_m, pL_m, pR_m, sI_m, sBy_m, sBo_m, sL_m, sQ_m, fst_m, true_and, and_true, tg_some, ln_some, uI_1, uI_2, uL_1, uL_2, uL_3, uQ_1, uQ_2, uQ_3, rv_i, rv_l, rv_n, rv_b0, rv_b1, RMR, ne_eq, reduceCtorEq, not_false_eq_true, Option.getD_some, if_true, if_false, and_self, false_and, and_false, Nat.add_left_cancel_iff, Nat.add_eq_left, Nat.left_eq_add, Nat.one_ne_zero, Nat.reduceAdd, Nat.reduceLT, Nat.reduceLeDiff, Nat.reduceEqDiff, true_implies, false_implies, implies_true, Option.some.injEq, forall_eq', forall_eq, reduceCtorEq, brT, brF, br_s, i_10, i_01, ib_0_2, ib_1_2, tn_0, tn_1, Int32.le_refl, eq_self, rv_bN, rv_iM, RCM 81, RLY, lit_at hw, g_149' (σ := (uI σ 81 0 0)) (oa := 0) (ob := 0) (x := 0) (y := 0) (a85 hw) (a89 hw) rfl rfl (by omega) hd1]
  exact e2 hd hQ
end
section
/-! the model's calls: what it tells -/
theorem sw161 {Q : Option (Option Value) → Hp → Prop} {D : Nat} {hp : Hp} {ls : List Value} {x : Int32} (h0 : x.toInt = 0 → Wp 161 92 ls [] hp Q D) (h1 : x.toInt = 1 → Wp 161 99 ls [] hp Q D) (h2 : x.toInt = 2 → Wp 161 106 ls [] hp Q D) (h3 : x.toInt = 3 → Wp 161 113 ls [] hp Q D) (h4 : x.toInt = 4 → Wp 161 120 ls [] hp Q D) (h5 : x.toInt = 5 → Wp 161 127 ls [] hp Q D) (h6 : x.toInt = 6 → Wp 161 167 ls [] hp Q D) (h7 : x.toInt = 7 → Wp 161 167 ls [] hp Q D) (h8 : x.toInt = 8 → Wp 161 179 ls [] hp Q D) (h9 : x.toInt = 9 → Wp 161 184 ls [] hp Q D) (h10 : x.toInt = 10 → Wp 161 214 ls [] hp Q D) (h11 : x.toInt = 11 → Wp 161 219 ls [] hp Q D) (h12 : x.toInt = 12 → Wp 161 255 ls [] hp Q D) (h13 : x.toInt = 13 → Wp 161 255 ls [] hp Q D) (h14 : x.toInt = 14 → Wp 161 268 ls [] hp Q D) (h15 : x.toInt = 15 → Wp 161 268 ls [] hp Q D) (h16 : x.toInt = 16 → Wp 161 281 ls [] hp Q D) (hd : (x.toInt < 0 ∨ 16 < x.toInt) → Wp 161 288 ls [] hp Q D) : Wp 161 8 ls [.int x] hp Q D := by
  refine Wp_sg 1 [] ?_
  show br (x.toInt < 0 ∨ 16 < x.toInt) (Wp 161 288 ls [] hp Q D) (∃ off, (#[84, 91, 98, 105, 112, 119, 159, 159, 171, 176, 206, 211, 247, 247, 260, 260, 273] : Array Int)[(x.toInt - 0).toNat]? = some off ∧ Wp 161 ((8 : Int) + off).toNat ls [] hp Q D)
  refine ⟨hd, fun hn => ?_⟩
  have hc : x.toInt = 0 ∨ x.toInt = 1 ∨ x.toInt = 2 ∨ x.toInt = 3 ∨ x.toInt = 4 ∨ x.toInt = 5 ∨ x.toInt = 6 ∨ x.toInt = 7 ∨ x.toInt = 8 ∨ x.toInt = 9 ∨ x.toInt = 10 ∨ x.toInt = 11 ∨ x.toInt = 12 ∨ x.toInt = 13 ∨ x.toInt = 14 ∨ x.toInt = 15 ∨ x.toInt = 16 := by omega
  rcases hc with e | e | e | e | e | e | e | e | e | e | e | e | e | e | e | e | e
  · exact ⟨84, by rw [e]; rfl, h0 e⟩
  · exact ⟨91, by rw [e]; rfl, h1 e⟩
  · exact ⟨98, by rw [e]; rfl, h2 e⟩
  · exact ⟨105, by rw [e]; rfl, h3 e⟩
  · exact ⟨112, by rw [e]; rfl, h4 e⟩
  · exact ⟨119, by rw [e]; rfl, h5 e⟩
  · exact ⟨159, by rw [e]; rfl, h6 e⟩
  · exact ⟨159, by rw [e]; rfl, h7 e⟩
  · exact ⟨171, by rw [e]; rfl, h8 e⟩
  · exact ⟨176, by rw [e]; rfl, h9 e⟩
  · exact ⟨206, by rw [e]; rfl, h10 e⟩
  · exact ⟨211, by rw [e]; rfl, h11 e⟩
  · exact ⟨247, by rw [e]; rfl, h12 e⟩
  · exact ⟨247, by rw [e]; rfl, h13 e⟩
  · exact ⟨260, by rw [e]; rfl, h14 e⟩
  · exact ⟨260, by rw [e]; rfl, h15 e⟩
  · exact ⟨273, by rw [e]; rfl, h16 e⟩
theorem sw163 {Q : Option (Option Value) → Hp → Prop} {D : Nat} {hp : Hp} {ls : List Value} {x : Int32} (h0 : x.toInt = 6 → Wp 163 68 ls [] hp Q D) (h1 : x.toInt = 7 → Wp 163 78 ls [] hp Q D) (h2 : x.toInt = 8 → Wp 163 90 ls [] hp Q D) (h3 : x.toInt = 9 → Wp 163 96 ls [] hp Q D) (hd : (x.toInt < 6 ∨ 9 < x.toInt) → Wp 163 109 ls [] hp Q D) : Wp 163 39 ls [.int x] hp Q D := by
  refine Wp_sg 1 [] ?_
  show br (x.toInt < 6 ∨ 9 < x.toInt) (Wp 163 109 ls [] hp Q D) (∃ off, (#[29, 39, 51, 57] : Array Int)[(x.toInt - 6).toNat]? = some off ∧ Wp 163 ((39 : Int) + off).toNat ls [] hp Q D)
  refine ⟨hd, fun hn => ?_⟩
  have hc : x.toInt = 6 ∨ x.toInt = 7 ∨ x.toInt = 8 ∨ x.toInt = 9 := by omega
  rcases hc with e | e | e | e
  · exact ⟨29, by rw [e]; rfl, h0 e⟩
  · exact ⟨39, by rw [e]; rfl, h1 e⟩
  · exact ⟨51, by rw [e]; rfl, h2 e⟩
  · exact ⟨57, by rw [e]; rfl, h3 e⟩
theorem i32_of {a : Int32} {n : Nat} (h : a.toInt = (n : Int)) (hn : n < 2147483648) : a = Int32.ofNat n := Int32.toInt_inj.mp (by rw [h, on_int hn])
theorem lp_207 {hp : Hp} {d : Nat} {a0 a2 : Int64} {Q : Option (Option Value) → Hp → Prop} : ∀ (k x y : Nat) (u : Value), y ≤ k → x < 9223372036854775808 → y < 9223372036854775808 → (u = jk ∨ ∃ v : Int64, u = .long v) → Q (some (some (.long (Int64.ofNat (Nat.gcd x y))))) hp → Wp 207 6 [.long a0, jk, .long a2, jk, .long (Int64.ofNat x), jk, .long (Int64.ofNat y), jk, u, jk] [] hp Q d := by
  intro k
  induction k with
  | zero =>
    intro x y u hy hx hy2 hu hQ
    have hy' : y = 0 := by omega
    subst hy'
    rw [Nat.gcd_zero_right] at hQ
    have c : (lg_cmp (Int64.ofNat 0) (0 : Int64) = 0) ↔ True := iff_true_intro ((lg0 (by omega)).mpr rfl)
    rcases hu with rfl | ⟨v, rfl⟩
    · refine b207_6 ?_
      simp only [↓br_pos, ↓br_neg, ↓rF_I, ↓rF_L, ↓rF_R, ↓rF_N, rO_m, rB_m, ↓rI_m, wI_m, ↓rB2_m, ↓rB3_m, wB2_m, wB3_m, ↓rL_m, wL_m, ↓rQ_m, wQ_m, ↓lI_m, pI_m, pL_m, pR_m, sI_m, sBy_m, sBo_m, sL_m, sQ_m, fst_m, true_and, and_true, tg_some, ln_some, uI_1, uI_2, uL_1, uL_2, uL_3, uQ_1, uQ_2, uQ_3, rv_i, rv_l, rv_n, rv_b0, rv_b1, RMR, ne_eq, reduceCtorEq, not_false_eq_true, Option.getD_some, if_true, if_false, and_self, false_and, and_false, Nat.add_left_cancel_iff, Nat.add_eq_left, Nat.left_eq_add, Nat.one_ne_zero, Nat.reduceAdd, Nat.reduceLT, Nat.reduceLeDiff, Nat.reduceEqDiff, true_implies, false_implies, implies_true, Option.some.injEq, forall_eq', forall_eq, reduceCtorEq, brT, brF, br_s, i_10, i_01, ib_0_2, ib_1_2, tn_0, tn_1, Int32.le_refl, eq_self, rv_bN, rv_iM, c]
      exact hQ
    · refine b207_6a ?_
      simp only [↓br_pos, ↓br_neg, ↓rF_I, ↓rF_L, ↓rF_R, ↓rF_N, rO_m, rB_m, ↓rI_m, wI_m, ↓rB2_m, ↓rB3_m, wB2_m, wB3_m, ↓rL_m, wL_m, ↓rQ_m, wQ_m, ↓lI_m, pI_m, pL_m, pR_m, sI_m, sBy_m, sBo_m, sL_m, sQ_m, fst_m, true_and, and_true, tg_some, ln_some, uI_1, uI_2, uL_1, uL_2, uL_3, uQ_1, uQ_2, uQ_3, rv_i, rv_l, rv_n, rv_b0, rv_b1, RMR, ne_eq, reduceCtorEq, not_false_eq_true, Option.getD_some, if_true, if_false, and_self, false_and, and_false, Nat.add_left_cancel_iff, Nat.add_eq_left, Nat.left_eq_add, Nat.one_ne_zero, Nat.reduceAdd, Nat.reduceLT, Nat.reduceLeDiff, Nat.reduceEqDiff, true_implies, false_implies, implies_true, Option.some.injEq, forall_eq', forall_eq, reduceCtorEq, brT, brF, br_s, i_10, i_01, ib_0_2, ib_1_2, tn_0, tn_1, Int32.le_refl, eq_self, rv_bN, rv_iM, c]
      exact hQ
  | succ k ih =>
    intro x y u hy hx hy2 hu hQ
    by_cases z : y = 0
    · exact ih x y u (by omega) hx hy2 hu hQ
    · have c : (lg_cmp (Int64.ofNat y) (0 : Int64) = 0) ↔ False := iff_false_intro (fun q => z ((lg0 hy2).mp q))
      have nz : (Int64.ofNat y = 0) ↔ False := iff_false_intro (fun q => z ((ol_inj (b := 0) hy2 (by omega)).mp q))
      have lt := Nat.mod_lt x (by omega : 0 < y)
      have nx := ih y (x % y) (.long (Int64.ofNat (x % y))) (by omega) hy2 (by omega) (Or.inr ⟨_, rfl⟩) (by rw [Nat.gcd_comm y (x % y), ← Nat.gcd_rec, Nat.gcd_comm]; exact hQ)
      rcases hu with rfl | ⟨v, rfl⟩
      · refine b207_6 ?_
        simp only [↓br_pos, ↓br_neg, ↓rF_I, ↓rF_L, ↓rF_R, ↓rF_N, rO_m, rB_m, ↓rI_m, wI_m, ↓rB2_m, ↓rB3_m, wB2_m, wB3_m, ↓rL_m, wL_m, ↓rQ_m, wQ_m, ↓lI_m, pI_m, pL_m, pR_m, sI_m, sBy_m, sBo_m, sL_m, sQ_m, fst_m, true_and, and_true, tg_some, ln_some, uI_1, uI_2, uL_1, uL_2, uL_3, uQ_1, uQ_2, uQ_3, rv_i, rv_l, rv_n, rv_b0, rv_b1, RMR, ne_eq, reduceCtorEq, not_false_eq_true, Option.getD_some, if_true, if_false, and_self, false_and, and_false, Nat.add_left_cancel_iff, Nat.add_eq_left, Nat.left_eq_add, Nat.one_ne_zero, Nat.reduceAdd, Nat.reduceLT, Nat.reduceLeDiff, Nat.reduceEqDiff, true_implies, false_implies, implies_true, Option.some.injEq, forall_eq', forall_eq, reduceCtorEq, brT, brF, br_s, i_10, i_01, ib_0_2, ib_1_2, tn_0, tn_1, Int32.le_refl, eq_self, rv_bN, rv_iM, c, nz, ol_mod hx hy2]
        exact b207_28 nx
      · refine b207_6a ?_
        simp only [↓br_pos, ↓br_neg, ↓rF_I, ↓rF_L, ↓rF_R, ↓rF_N, rO_m, rB_m, ↓rI_m, wI_m, ↓rB2_m, ↓rB3_m, wB2_m, wB3_m, ↓rL_m, wL_m, ↓rQ_m, wQ_m, ↓lI_m, pI_m, pL_m, pR_m, sI_m, sBy_m, sBo_m, sL_m, sQ_m, fst_m, true_and, and_true, tg_some, ln_some, uI_1, uI_2, uL_1, uL_2, uL_3, uQ_1, uQ_2, uQ_3, rv_i, rv_l, rv_n, rv_b0, rv_b1, RMR, ne_eq, reduceCtorEq, not_false_eq_true, Option.getD_some, if_true, if_false, and_self, false_and, and_false, Nat.add_left_cancel_iff, Nat.add_eq_left, Nat.left_eq_add, Nat.one_ne_zero, Nat.reduceAdd, Nat.reduceLT, Nat.reduceLeDiff, Nat.reduceEqDiff, true_implies, false_implies, implies_true, Option.some.injEq, forall_eq', forall_eq, reduceCtorEq, brT, brF, br_s, i_10, i_01, ib_0_2, ib_1_2, tn_0, tn_1, Int32.le_refl, eq_self, rv_bN, rv_iM, c, nz, ol_mod hx hy2]
        exact b207_28 nx
theorem g_207 {hp : Hp} {a b D : Nat} {K : Int64 → Hp → Prop} (ha : a < 9223372036854775808) (hb : b < 9223372036854775808) (hD : 1 ≤ D) : wpL D 207 [.long (Int64.ofNat a), .long (Int64.ofNat b)] hp K ↔ K (Int64.ofNat (Nat.gcd a b)) hp := by
  refine cL_of (m := 0) (fun d hd Q hQ => ?_) rfl hD
  exact b207_0 (lp_207 b a b jk (Nat.le_refl _) ha hb (Or.inl rfl) hQ)
theorem gc1_g {a b : Nat} (h : 0 < b) : gc1 a b = Nat.gcd a b := by
  have := Nat.gcd_pos_of_pos_right a h
  unfold gc1
  omega
theorem l2i {a : Nat} : Int64.toInt32 (Int64.ofNat a) = Int32.ofNat a := Int64.toInt32_ofNat' (n := a)
theorem g_209 {w : mT} {σ : mS} {T O : Nat} {D : Nat} {K : Int32 → Hp → Prop} (hw : lit w) (h16 : σ.1 81 16 = Int32.ofNat T) (h17 : σ.1 81 17 = Int32.ofNat O) (hT : T < 2147483648) (hO : O < 2147483648) (hD : 3 ≤ D) : wpI D 209 [.ref 81] (mW w σ) K ↔ K (grV T O) (mW w (if T = 0 then σ else uI σ 81 23 (Int32.ofNat (T / gc1 O T)))) := by
  refine cI_of (m := 2) (fun d hd Q hQ => ?_) rfl hD
  unfold grV at hQ
  refine b209_0 ?_
  by_cases z : T = 0
  · rw [if_pos z, if_pos z] at hQ
    have c : (Int32.ofNat T = 0) ↔ True := iff_true_intro (by rw [z]; rfl)
    simp only [↓br_pos, ↓br_neg, ↓rF_I, ↓rF_L, ↓rF_R, ↓rF_N, rO_m, rB_m, ↓rI_m, wI_m, ↓rB2_m, ↓rB3_m, wB2_m, wB3_m, ↓rL_m, wL_m, ↓rQ_m, wQ_m, ↓lI_m, pI_m, pL_m, pR_m, sI_m, sBy_m, sBo_m, sL_m, sQ_m, fst_m, true_and, and_true, tg_some, ln_some, uI_1, uI_2, uL_1, uL_2, uL_3, uQ_1, uQ_2, uQ_3, rv_i, rv_l, rv_n, rv_b0, rv_b1, RMR, ne_eq, reduceCtorEq, not_false_eq_true, Option.getD_some, if_true, if_false, and_self, false_and, and_false, Nat.add_left_cancel_iff, Nat.add_eq_left, Nat.left_eq_add, Nat.one_ne_zero, Nat.reduceAdd, Nat.reduceLT, Nat.reduceLeDiff, Nat.reduceEqDiff, true_implies, false_implies, implies_true, Option.some.injEq, forall_eq', forall_eq, reduceCtorEq, brT, brF, br_s, i_10, i_01, ib_0_2, ib_1_2, tn_0, tn_1, Int32.le_refl, eq_self, rv_bN, rv_iM, RCM 81, RLY, lit_at hw, h16, c]
    exact hQ
  · rw [if_neg z, if_neg z] at hQ
    have c : (Int32.ofNat T = 0) ↔ False := iff_false_intro (fun q => z ((of_eq0 (by omega)).mp q))
    have eg := gc1_g (a := O) (b := T) (by omega)
    have gl := gc1_le (a := O) (b := T) (by omega)
    have gp := gc1_pos (a := O) (b := T)
    rw [eg] at hQ gl gp
    have c2 : (Int32.ofNat (Nat.gcd O T) = 0) ↔ False := iff_false_intro (fun q => by have := (of_eq0 (by omega)).mp q; omega)
    have g8 : ∀ {K : Int32 → Hp → Prop}, wpI d 208 [.ref 81, .int (Int32.ofNat O), .int (Int32.ofNat T)] (mW w σ) K ↔ K (Int32.ofNat (O / Nat.gcd O T)) (mW w (uI σ 81 23 (Int32.ofNat (T / Nat.gcd O T)))) := fun {K} => by
      refine cI_of (m := 1) (fun d hd Q hQ => ?_) rfl hd
      refine b208_0 ?_
      simp only [i64_of hO, i64_of hT, g_207 (by omega : O < 9223372036854775808) (by omega : T < 9223372036854775808) hd, l2i]
      simp only [↓br_pos, ↓br_neg, ↓rF_I, ↓rF_L, ↓rF_R, ↓rF_N, rO_m, rB_m, ↓rI_m, wI_m, ↓rB2_m, ↓rB3_m, wB2_m, wB3_m, ↓rL_m, wL_m, ↓rQ_m, wQ_m, ↓lI_m, pI_m, pL_m, pR_m, sI_m, sBy_m, sBo_m, sL_m, sQ_m, fst_m, true_and, and_true, tg_some, ln_some, uI_1, uI_2, uL_1, uL_2, uL_3, uQ_1, uQ_2, uQ_3, rv_i, rv_l, rv_n, rv_b0, rv_b1, RMR, ne_eq, reduceCtorEq, not_false_eq_true, Option.getD_some, if_true, if_false, and_self, false_and, and_false, Nat.add_left_cancel_iff, Nat.add_eq_left, Nat.left_eq_add, Nat.one_ne_zero, Nat.reduceAdd, Nat.reduceLT, Nat.reduceLeDiff, Nat.reduceEqDiff, true_implies, false_implies, implies_true, Option.some.injEq, forall_eq', forall_eq, reduceCtorEq, brT, brF, br_s, i_10, i_01, ib_0_2, ib_1_2, tn_0, tn_1, Int32.le_refl, eq_self, rv_bN, rv_iM, RCM 81, RLY, lit_at hw, c2, of_dv hO (by omega : Nat.gcd O T < 2147483648), of_dv hT (by omega : Nat.gcd O T < 2147483648)]
      exact hQ
    simp only [↓br_pos, ↓br_neg, ↓rF_I, ↓rF_L, ↓rF_R, ↓rF_N, rO_m, rB_m, ↓rI_m, wI_m, ↓rB2_m, ↓rB3_m, wB2_m, wB3_m, ↓rL_m, wL_m, ↓rQ_m, wQ_m, ↓lI_m, pI_m, pL_m, pR_m, sI_m, sBy_m, sBo_m, sL_m, sQ_m, fst_m, true_and, and_true, tg_some, ln_some, uI_1, uI_2, uL_1, uL_2, uL_3, uQ_1, uQ_2, uQ_3, rv_i, rv_l, rv_n, rv_b0, rv_b1, RMR, ne_eq, reduceCtorEq, not_false_eq_true, Option.getD_some, if_true, if_false, and_self, false_and, and_false, Nat.add_left_cancel_iff, Nat.add_eq_left, Nat.left_eq_add, Nat.one_ne_zero, Nat.reduceAdd, Nat.reduceLT, Nat.reduceLeDiff, Nat.reduceEqDiff, true_implies, false_implies, implies_true, Option.some.injEq, forall_eq', forall_eq, reduceCtorEq, brT, brF, br_s, i_10, i_01, ib_0_2, ib_1_2, tn_0, tn_1, Int32.le_refl, eq_self, rv_bN, rv_iM, RCM 81, RLY, lit_at hw, h16, h17, c, g8]
    exact hQ
theorem mIn_g {w : mT} {σ : mS} {tp n : Nat} {t : Nat → Nat} {τ ρ : Rw} {bk : Nat → Rw} {has : Nat → Bool} {im : Nat → Rw} {T O : Nat} (h : mIn w σ tp t τ ρ n bk has im) : mIn w (if T = 0 then σ else uI σ 81 23 (Int32.ofNat (T / gc1 O T))) tp t τ ρ n bk has im ∧ frA σ (if T = 0 then σ else uI σ 81 23 (Int32.ofNat (T / gc1 O T))) := by
  split
  · exact ⟨h, frA_rf⟩
  · exact ⟨mIn_Z h (frZ_0 (by omega)), frA_I (by omega)⟩
theorem m_210z {w : mT} {σ : mS} {tp n : Nat} {t : Nat → Nat} {τ ρ : Rw} {bk : Nat → Rw} {has : Nat → Bool} {im : Nat → Rw} {p c : Int32} {D : Nat} {K : Int32 → Hp → Prop} (h : mIn w σ tp t τ ρ n bk has im) (hn1 : bC τ p c ≠ 1) (hD : 4 ≤ D) : wpI D 210 [.ref 81, .int p, .int c] (mW w σ) K ↔ K (-1) (mW w (uI σ 81 0 0)) := by
  have M := h
  obtain ⟨hw, hτ, hρ, hv, hr, hp2, htp, htb, htl, hn, hn12, hbk, him⟩ := h
  have M0 := mIn_Z M (frZ_0 (j := 0) (x := 0) (by omega))
  obtain ⟨_, hτ0, hρ0, _, _, hp20, _, htb0, _, hn0, _, hbk0, him0⟩ := M0
  have M0 := mIn_Z M (frZ_0 (j := 0) (x := 0) (by omega))
  refine cI_of (m := 3) (fun d hd Q hQ => ?_) rfl hD
  have z := bC_01.resolve_right hn1
  refine b210_0 ?_
  simp only [↓br_pos, ↓br_neg, ↓rF_I, ↓rF_L, ↓rF_R, ↓rF_N, rO_m, rB_m, ↓rI_m, wI_m, ↓rB2_m, ↓rB3_m, wB2_m, wB3_m, ↓rL_m, wL_m, ↓rQ_m, wQ_m, ↓lI_m, pI_m, pL_m, pR_m, sI_m, sBy_m, sBo_m, sL_m, sQ_m, fst_m, true_and, and_true, tg_some, ln_some, uI_1, uI_2, uL_1, uL_2, uL_3, uQ_1, uQ_2, uQ_3, rv_i, rv_l, rv_n, rv_b0, rv_b1, RMR, ne_eq, reduceCtorEq, not_false_eq_true, Option.getD_some, if_true, if_false, and_self, false_and, and_false, Nat.add_left_cancel_iff, Nat.add_eq_left, Nat.left_eq_add, Nat.one_ne_zero, Nat.reduceAdd, Nat.reduceLT, Nat.reduceLeDiff, Nat.reduceEqDiff, true_implies, false_implies, implies_true, Option.some.injEq, forall_eq', forall_eq, reduceCtorEq, brT, brF, br_s, i_10, i_01, ib_0_2, ib_1_2, tn_0, tn_1, Int32.le_refl, eq_self, rv_bN, rv_iM, RCM 81, RLY, lit_at hw, g_154 hw hτ0 hv hd, z, z00]
  exact hQ
theorem m_210 {w : mT} {σ : mS} {tp n : Nat} {t : Nat → Nat} {τ ρ : Rw} {bk : Nat → Rw} {has : Nat → Bool} {im : Nat → Rw} {p c : Nat} (h : mIn w σ tp t τ ρ n bk has im) (hp : p < τ 1) (hc : c < τ (28 + p)) : ∃ σ', frA σ σ' ∧ mIn w σ' tp t τ ρ n bk has im ∧ ∀ {D : Nat} {K : Int32 → Hp → Prop}, 4 ≤ D → (wpI D 210 [.ref 81, .int (Int32.ofNat p), .int (Int32.ofNat c)] (mW w σ) K ↔ K (grV (tOn ρ p c) (gOn τ ρ p c)) (mW w σ')) := by
  have M := h
  obtain ⟨hw, hτ, hρ, hv, hr, hp2, htp, htb, htl, hn, hn12, hbk, him⟩ := h
  have M0 := mIn_Z M (frZ_0 (j := 0) (x := 0) (by omega))
  obtain ⟨_, hτ0, hρ0, _, _, hp20, _, htb0, _, hn0, _, hbk0, him0⟩ := M0
  have M0 := mIn_Z M (frZ_0 (j := 0) (x := 0) (by omega))
  have v1 := hv.2.1
  have v2 := (hv.2.2.2.2.2.1 p hp).2
  have M1 := mIn_Z (σ' := su (uI σ 81 0 0) (tOn ρ p c) (gOn τ ρ p c)) M uI_0s
  obtain ⟨M2, f2⟩ := mIn_g (T := tOn ρ p c) (O := gOn τ ρ p c) M1
  refine ⟨_, frA_tr (frZ_A uI_0s) f2, M2, fun hD => cI_of (m := 3) (fun d hd Q hQ => ?_) rfl hD⟩
  obtain ⟨b1, b2⟩ := gOn_b (c := c) hv hr (by omega : p < 3) (by omega)
  have hd2 : 2 ≤ d := by omega
  refine b210_0 ?_
  simp only [↓br_pos, ↓br_neg, ↓rF_I, ↓rF_L, ↓rF_R, ↓rF_N, rO_m, rB_m, ↓rI_m, wI_m, ↓rB2_m, ↓rB3_m, wB2_m, wB3_m, ↓rL_m, wL_m, ↓rQ_m, wQ_m, ↓lI_m, pI_m, pL_m, pR_m, sI_m, sBy_m, sBo_m, sL_m, sQ_m, fst_m, true_and, and_true, tg_some, ln_some, uI_1, uI_2, uL_1, uL_2, uL_3, uQ_1, uQ_2, uQ_3, rv_i, rv_l, rv_n, rv_b0, rv_b1, RMR, ne_eq, reduceCtorEq, not_false_eq_true, Option.getD_some, if_true, if_false, and_self, false_and, and_false, Nat.add_left_cancel_iff, Nat.add_eq_left, Nat.left_eq_add, Nat.one_ne_zero, Nat.reduceAdd, Nat.reduceLT, Nat.reduceLeDiff, Nat.reduceEqDiff, true_implies, false_implies, implies_true, Option.some.injEq, forall_eq', forall_eq, reduceCtorEq, brT, brF, br_s, i_10, i_01, ib_0_2, ib_1_2, tn_0, tn_1, Int32.le_refl, eq_self, rv_bN, rv_iM, RCM 81, RLY, lit_at hw, g_154 hw hτ0 hv hd, bC_t hp hv hc, z10, g_158c hw hτ0 hρ0 hv hr (by omega : p < 3) (by omega : c < 12) hd2, g_209 (σ := su (uI σ 81 0 0) (tOn ρ p c) (gOn τ ρ p c)) hw su_16 su_17 (by omega) (by omega) hd]
  exact hQ
theorem m_211z {w : mT} {σ : mS} {tp n : Nat} {t : Nat → Nat} {τ ρ : Rw} {bk : Nat → Rw} {has : Nat → Bool} {im : Nat → Rw} {p : Int32} {D : Nat} {K : Int32 → Hp → Prop} (h : mIn w σ tp t τ ρ n bk has im) (hn1 : bN p (τ 1) ≠ 1) (hD : 4 ≤ D) : wpI D 211 [.ref 81, .int p] (mW w σ) K ↔ K (-1) (mW w (uI σ 81 0 0)) := by
  have M := h
  obtain ⟨hw, hτ, hρ, hv, hr, hp2, htp, htb, htl, hn, hn12, hbk, him⟩ := h
  have M0 := mIn_Z M (frZ_0 (j := 0) (x := 0) (by omega))
  obtain ⟨_, hτ0, hρ0, _, _, hp20, _, htb0, _, hn0, _, hbk0, him0⟩ := M0
  have M0 := mIn_Z M (frZ_0 (j := 0) (x := 0) (by omega))
  refine cI_of (m := 3) (fun d hd Q hQ => ?_) rfl hD
  have z := bN_01.resolve_right hn1
  have hd2 : 2 ≤ d := by omega
  refine b211_0 ?_
  simp only [↓br_pos, ↓br_neg, ↓rF_I, ↓rF_L, ↓rF_R, ↓rF_N, rO_m, rB_m, ↓rI_m, wI_m, ↓rB2_m, ↓rB3_m, wB2_m, wB3_m, ↓rL_m, wL_m, ↓rQ_m, wQ_m, ↓lI_m, pI_m, pL_m, pR_m, sI_m, sBy_m, sBo_m, sL_m, sQ_m, fst_m, true_and, and_true, tg_some, ln_some, uI_1, uI_2, uL_1, uL_2, uL_3, uQ_1, uQ_2, uQ_3, rv_i, rv_l, rv_n, rv_b0, rv_b1, RMR, ne_eq, reduceCtorEq, not_false_eq_true, Option.getD_some, if_true, if_false, and_self, false_and, and_false, Nat.add_left_cancel_iff, Nat.add_eq_left, Nat.left_eq_add, Nat.one_ne_zero, Nat.reduceAdd, Nat.reduceLT, Nat.reduceLeDiff, Nat.reduceEqDiff, true_implies, false_implies, implies_true, Option.some.injEq, forall_eq', forall_eq, reduceCtorEq, brT, brF, br_s, i_10, i_01, ib_0_2, ib_1_2, tn_0, tn_1, Int32.le_refl, eq_self, rv_bN, rv_iM, RCM 81, RLY, lit_at hw, g_152 hw hτ0 hv hd2, z, z00]
  exact hQ
theorem m_211 {w : mT} {σ : mS} {tp n : Nat} {t : Nat → Nat} {τ ρ : Rw} {bk : Nat → Rw} {has : Nat → Bool} {im : Nat → Rw} {p : Nat} (h : mIn w σ tp t τ ρ n bk has im) (hp : p < τ 1) : ∃ σ', frA σ σ' ∧ mIn w σ' tp t τ ρ n bk has im ∧ ∀ {D : Nat} {K : Int32 → Hp → Prop}, 4 ≤ D → (wpI D 211 [.ref 81, .int (Int32.ofNat p)] (mW w σ) K ↔ K (grV (tPi τ ρ p) (gPi τ ρ p)) (mW w σ')) := by
  have M := h
  obtain ⟨hw, hτ, hρ, hv, hr, hp2, htp, htb, htl, hn, hn12, hbk, him⟩ := h
  have M0 := mIn_Z M (frZ_0 (j := 0) (x := 0) (by omega))
  obtain ⟨_, hτ0, hρ0, _, _, hp20, _, htb0, _, hn0, _, hbk0, him0⟩ := M0
  have M0 := mIn_Z M (frZ_0 (j := 0) (x := 0) (by omega))
  have v1 := hv.2.1
  have v2 := (hv.2.2.2.2.2.1 p hp).2
  have M1 := mIn_Z (σ' := su (uI σ 81 0 0) (tPi τ ρ p) (gPi τ ρ p)) M uI_0s
  obtain ⟨M2, f2⟩ := mIn_g (T := tPi τ ρ p) (O := gPi τ ρ p) M1
  refine ⟨_, frA_tr (frZ_A uI_0s) f2, M2, fun hD => cI_of (m := 3) (fun d hd Q hQ => ?_) rfl hD⟩
  have b2 := tPi_lt hv hr hp
  have b1 := gPi_le hv hr hp
  have hd2 : 2 ≤ d := by omega
  refine b211_0 ?_
  simp only [↓br_pos, ↓br_neg, ↓rF_I, ↓rF_L, ↓rF_R, ↓rF_N, rO_m, rB_m, ↓rI_m, wI_m, ↓rB2_m, ↓rB3_m, wB2_m, wB3_m, ↓rL_m, wL_m, ↓rQ_m, wQ_m, ↓lI_m, pI_m, pL_m, pR_m, sI_m, sBy_m, sBo_m, sL_m, sQ_m, fst_m, true_and, and_true, tg_some, ln_some, uI_1, uI_2, uL_1, uL_2, uL_3, uQ_1, uQ_2, uQ_3, rv_i, rv_l, rv_n, rv_b0, rv_b1, RMR, ne_eq, reduceCtorEq, not_false_eq_true, Option.getD_some, if_true, if_false, and_self, false_and, and_false, Nat.add_left_cancel_iff, Nat.add_eq_left, Nat.left_eq_add, Nat.one_ne_zero, Nat.reduceAdd, Nat.reduceLT, Nat.reduceLeDiff, Nat.reduceEqDiff, true_implies, false_implies, implies_true, Option.some.injEq, forall_eq', forall_eq, reduceCtorEq, brT, brF, br_s, i_10, i_01, ib_0_2, ib_1_2, tn_0, tn_1, Int32.le_refl, eq_self, rv_bN, rv_iM, RCM 81, RLY, lit_at hw, ad_2, ad_4, ad_6, ad_8, ad_10, ad_12, ad_16, ad_24, ad_27, ad_28, ad_31, ad_35, ad_43, ad_51, ad_107, ad_131, ad_311, ml_3, ml_6, ml_7, ml_60, ml_100, ml_2471, mq_12, ar_2, ar_3, ar_4, ar_5, ar_6, of_add, of_mul, on_succ, g_152 hw hτ0 hv hd2, bN_on hp (by omega : τ 1 < 2147483648), z10, mt hτ (by omega : 28 + p < 79), g_158p hw hτ0 hρ0 hv hr hp hd2, g_209 (σ := su (uI σ 81 0 0) (tPi τ ρ p) (gPi τ ρ p)) hw su_16 su_17 (by omega) (by omega) hd]
  exact hQ
theorem m_212z {w : mT} {σ : mS} {tp n : Nat} {t : Nat → Nat} {τ ρ : Rw} {bk : Nat → Rw} {has : Nat → Bool} {im : Nat → Rw} {s : Int32} {D : Nat} {K : Int32 → Hp → Prop} (h : mIn w σ tp t τ ρ n bk has im) (hn1 : bN s (τ 2) ≠ 1) (hD : 4 ≤ D) : wpI D 212 [.ref 81, .int s] (mW w σ) K ↔ K (-1) (mW w (uI σ 81 0 0)) := by
  have M := h
  obtain ⟨hw, hτ, hρ, hv, hr, hp2, htp, htb, htl, hn, hn12, hbk, him⟩ := h
  have M0 := mIn_Z M (frZ_0 (j := 0) (x := 0) (by omega))
  obtain ⟨_, hτ0, hρ0, _, _, hp20, _, htb0, _, hn0, _, hbk0, him0⟩ := M0
  have M0 := mIn_Z M (frZ_0 (j := 0) (x := 0) (by omega))
  refine cI_of (m := 3) (fun d hd Q hQ => ?_) rfl hD
  have z := bN_01.resolve_right hn1
  have hd2 : 2 ≤ d := by omega
  refine b212_0 ?_
  simp only [↓br_pos, ↓br_neg, ↓rF_I, ↓rF_L, ↓rF_R, ↓rF_N, rO_m, rB_m, ↓rI_m, wI_m, ↓rB2_m, ↓rB3_m, wB2_m, wB3_m, ↓rL_m, wL_m, ↓rQ_m, wQ_m, ↓lI_m, pI_m, pL_m, pR_m, sI_m, sBy_m, sBo_m, sL_m, sQ_m, fst_m, true_and, and_true, tg_some, ln_some, uI_1, uI_2, uL_1, uL_2, uL_3, uQ_1, uQ_2, uQ_3, rv_i, rv_l, rv_n, rv_b0, rv_b1, RMR, ne_eq, reduceCtorEq, not_false_eq_true, Option.getD_some, if_true, if_false, and_self, false_and, and_false, Nat.add_left_cancel_iff, Nat.add_eq_left, Nat.left_eq_add, Nat.one_ne_zero, Nat.reduceAdd, Nat.reduceLT, Nat.reduceLeDiff, Nat.reduceEqDiff, true_implies, false_implies, implies_true, Option.some.injEq, forall_eq', forall_eq, reduceCtorEq, brT, brF, br_s, i_10, i_01, ib_0_2, ib_1_2, tn_0, tn_1, Int32.le_refl, eq_self, rv_bN, rv_iM, RCM 81, RLY, lit_at hw, g_153 hw hτ0 hv hd2, z, z00]
  exact hQ
theorem m_212 {w : mT} {σ : mS} {tp n : Nat} {t : Nat → Nat} {τ ρ : Rw} {bk : Nat → Rw} {has : Nat → Bool} {im : Nat → Rw} {s : Nat} (h : mIn w σ tp t τ ρ n bk has im) (hs : s < τ 2) : ∃ σ', frA σ σ' ∧ mIn w σ' tp t τ ρ n bk has im ∧ ∀ {D : Nat} {K : Int32 → Hp → Prop}, 4 ≤ D → (wpI D 212 [.ref 81, .int (Int32.ofNat s)] (mW w σ) K ↔ K (grV (ρ (27 + s)) (ρ (35 + s))) (mW w σ')) := by
  have M := h
  obtain ⟨hw, hτ, hρ, hv, hr, hp2, htp, htb, htl, hn, hn12, hbk, him⟩ := h
  have M0 := mIn_Z M (frZ_0 (j := 0) (x := 0) (by omega))
  obtain ⟨_, hτ0, hρ0, _, _, hp20, _, htb0, _, hn0, _, hbk0, him0⟩ := M0
  have M0 := mIn_Z M (frZ_0 (j := 0) (x := 0) (by omega))
  have v2 := hv.2.2.1
  have M1 := mIn_Z (σ' := su (uI σ 81 0 0) (ρ (27 + s)) (ρ (35 + s))) M uI_0s
  obtain ⟨M2, f2⟩ := mIn_g (T := ρ (27 + s)) (O := ρ (35 + s)) M1
  refine ⟨_, frA_tr (frZ_A uI_0s) f2, M2, fun hD => cI_of (m := 3) (fun d hd Q hQ => ?_) rfl hD⟩
  have hh := hold_lt hr hs
  have ho := vR_ore hr s hs
  have hd2 : 2 ≤ d := by omega
  have g9 : ∀ {K : Int32 → Hp → Prop}, wpI d 209 [.ref 81] (mW w (uI (uI (uI σ 81 0 0) 81 16 (Int32.ofNat (ρ (27 + s)))) 81 17 (Int32.ofNat (ρ (35 + s))))) K ↔ _ := fun {K} => g_209 (K := K) (σ := su (uI σ 81 0 0) (ρ (27 + s)) (ρ (35 + s))) hw su_16 su_17 (by omega) (by omega) hd
  refine b212_0 ?_
  simp only [↓br_pos, ↓br_neg, ↓rF_I, ↓rF_L, ↓rF_R, ↓rF_N, rO_m, rB_m, ↓rI_m, wI_m, ↓rB2_m, ↓rB3_m, wB2_m, wB3_m, ↓rL_m, wL_m, ↓rQ_m, wQ_m, ↓lI_m, pI_m, pL_m, pR_m, sI_m, sBy_m, sBo_m, sL_m, sQ_m, fst_m, true_and, and_true, tg_some, ln_some, uI_1, uI_2, uL_1, uL_2, uL_3, uQ_1, uQ_2, uQ_3, rv_i, rv_l, rv_n, rv_b0, rv_b1, RMR, ne_eq, reduceCtorEq, not_false_eq_true, Option.getD_some, if_true, if_false, and_self, false_and, and_false, Nat.add_left_cancel_iff, Nat.add_eq_left, Nat.left_eq_add, Nat.one_ne_zero, Nat.reduceAdd, Nat.reduceLT, Nat.reduceLeDiff, Nat.reduceEqDiff, true_implies, false_implies, implies_true, Option.some.injEq, forall_eq', forall_eq, reduceCtorEq, brT, brF, br_s, i_10, i_01, ib_0_2, ib_1_2, tn_0, tn_1, Int32.le_refl, eq_self, rv_bN, rv_iM, RCM 81, RLY, lit_at hw, ad_2, ad_4, ad_6, ad_8, ad_10, ad_12, ad_16, ad_24, ad_27, ad_28, ad_31, ad_35, ad_43, ad_51, ad_107, ad_131, ad_311, ml_3, ml_6, ml_7, ml_60, ml_100, ml_2471, mq_12, ar_2, ar_3, ar_4, ar_5, ar_6, of_add, of_mul, on_succ, g_153 hw hτ0 hv hd2, bN_on hs (by omega : τ 2 < 2147483648), z10, mr hρ (by omega : 27 + s < 2471), mr hρ (by omega : 35 + s < 2471), g9]
  exact hQ
theorem m_213 {w : mT} {σ : mS} {D : Nat} {K : Int32 → Hp → Prop} (hw : lit w) (hD : 1 ≤ D) : wpI D 213 [.ref 81] (mW w σ) K ↔ K (σ.1 81 23) (mW w (uI σ 81 0 0)) := by
  refine cI_of (m := 0) (fun d hd Q hQ => ?_) rfl hD
  refine b213_0 ?_
  simp only [↓br_pos, ↓br_neg, ↓rF_I, ↓rF_L, ↓rF_R, ↓rF_N, rO_m, rB_m, ↓rI_m, wI_m, ↓rB2_m, ↓rB3_m, wB2_m, wB3_m, ↓rL_m, wL_m, ↓rQ_m, wQ_m, ↓lI_m, pI_m, pL_m, pR_m, sI_m, sBy_m, sBo_m, sL_m, sQ_m, fst_m, true_and, and_true, tg_some, ln_some, uI_1, uI_2, uL_1, uL_2, uL_3, uQ_1, uQ_2, uQ_3, rv_i, rv_l, rv_n, rv_b0, rv_b1, RMR, ne_eq, reduceCtorEq, not_false_eq_true, Option.getD_some, if_true, if_false, and_self, false_and, and_false, Nat.add_left_cancel_iff, Nat.add_eq_left, Nat.left_eq_add, Nat.one_ne_zero, Nat.reduceAdd, Nat.reduceLT, Nat.reduceLeDiff, Nat.reduceEqDiff, true_implies, false_implies, implies_true, Option.some.injEq, forall_eq', forall_eq, reduceCtorEq, brT, brF, br_s, i_10, i_01, ib_0_2, ib_1_2, tn_0, tn_1, Int32.le_refl, eq_self, rv_bN, rv_iM, RCM 81, RLY, lit_at hw]
  exact hQ
theorem m_216 {w : mT} {σ : mS} {D : Nat} {K : Int64 → Hp → Prop} (hw : lit w) (hD : 1 ≤ D) : wpL D 216 [.ref 81] (mW w σ) K ↔ K (σ.2.1 81 24) (mW w (uI σ 81 0 0)) := by
  refine cL_of (m := 0) (fun d hd Q hQ => ?_) rfl hD
  refine b216_0 ?_
  simp only [↓br_pos, ↓br_neg, ↓rF_I, ↓rF_L, ↓rF_R, ↓rF_N, rO_m, rB_m, ↓rI_m, wI_m, ↓rB2_m, ↓rB3_m, wB2_m, wB3_m, ↓rL_m, wL_m, ↓rQ_m, wQ_m, ↓lI_m, pI_m, pL_m, pR_m, sI_m, sBy_m, sBo_m, sL_m, sQ_m, fst_m, true_and, and_true, tg_some, ln_some, uI_1, uI_2, uL_1, uL_2, uL_3, uQ_1, uQ_2, uQ_3, rv_i, rv_l, rv_n, rv_b0, rv_b1, RMR, ne_eq, reduceCtorEq, not_false_eq_true, Option.getD_some, if_true, if_false, and_self, false_and, and_false, Nat.add_left_cancel_iff, Nat.add_eq_left, Nat.left_eq_add, Nat.one_ne_zero, Nat.reduceAdd, Nat.reduceLT, Nat.reduceLeDiff, Nat.reduceEqDiff, true_implies, false_implies, implies_true, Option.some.injEq, forall_eq', forall_eq, reduceCtorEq, brT, brF, br_s, i_10, i_01, ib_0_2, ib_1_2, tn_0, tn_1, Int32.le_refl, eq_self, rv_bN, rv_iM, RCM 81, RLY, lit_at hw]
  exact hQ
theorem m_222 {w : mT} {σ : mS} {D : Nat} {K : Int64 → Hp → Prop} (hw : lit w) (hD : 1 ≤ D) : wpL D 222 [.ref 81] (mW w σ) K ↔ K (σ.2.1 81 25) (mW w (uI σ 81 0 0)) := by
  refine cL_of (m := 0) (fun d hd Q hQ => ?_) rfl hD
  refine b222_0 ?_
  simp only [↓br_pos, ↓br_neg, ↓rF_I, ↓rF_L, ↓rF_R, ↓rF_N, rO_m, rB_m, ↓rI_m, wI_m, ↓rB2_m, ↓rB3_m, wB2_m, wB3_m, ↓rL_m, wL_m, ↓rQ_m, wQ_m, ↓lI_m, pI_m, pL_m, pR_m, sI_m, sBy_m, sBo_m, sL_m, sQ_m, fst_m, true_and, and_true, tg_some, ln_some, uI_1, uI_2, uL_1, uL_2, uL_3, uQ_1, uQ_2, uQ_3, rv_i, rv_l, rv_n, rv_b0, rv_b1, RMR, ne_eq, reduceCtorEq, not_false_eq_true, Option.getD_some, if_true, if_false, and_self, false_and, and_false, Nat.add_left_cancel_iff, Nat.add_eq_left, Nat.left_eq_add, Nat.one_ne_zero, Nat.reduceAdd, Nat.reduceLT, Nat.reduceLeDiff, Nat.reduceEqDiff, true_implies, false_implies, implies_true, Option.some.injEq, forall_eq', forall_eq, reduceCtorEq, brT, brF, br_s, i_10, i_01, ib_0_2, ib_1_2, tn_0, tn_1, Int32.le_refl, eq_self, rv_bN, rv_iM, RCM 81, RLY, lit_at hw]
  exact hQ
theorem m_162z {w : mT} {σ : mS} {tp n : Nat} {t : Nat → Nat} {τ ρ : Rw} {bk : Nat → Rw} {has : Nat → Bool} {im : Nat → Rw} {l a : Int32} {D : Nat} {K : Int32 → Hp → Prop} (h : mIn w σ tp t τ ρ n bk has im) (hn1 : ¬ loP τ l a) (hD : 3 ≤ D) : wpI D 162 [.ref 81, .int l, .int a] (mW w σ) K ↔ K 0 (mW w (uI σ 81 0 1)) := by
  have M := h
  obtain ⟨hw, hτ, hρ, hv, hr, hp2, htp, htb, htl, hn, hn12, hbk, him⟩ := h
  refine cI_of (m := 2) (fun d hd Q hQ => ?_) rfl hD
  have hd1 : 1 ≤ d := by omega
  have c10 : ((1 : Int32) ≤ 0) ↔ False := by decide
  refine b162_0 ?_
  rcases bN_01 (a := l) (n := τ 0) with z | z
  · simp only [↓br_pos, ↓br_neg, ↓rF_I, ↓rF_L, ↓rF_R, ↓rF_N, rO_m, rB_m, ↓rI_m, wI_m, ↓rB2_m, ↓rB3_m, wB2_m, wB3_m, ↓rL_m, wL_m, ↓rQ_m, wQ_m, ↓lI_m, pI_m, pL_m, pR_m, sI_m, sBy_m, sBo_m, sL_m, sQ_m, fst_m, true_and, and_true, tg_some, ln_some, uI_1, uI_2, uL_1, uL_2, uL_3, uQ_1, uQ_2, uQ_3, rv_i, rv_l, rv_n, rv_b0, rv_b1, RMR, ne_eq, reduceCtorEq, not_false_eq_true, Option.getD_some, if_true, if_false, and_self, false_and, and_false, Nat.add_left_cancel_iff, Nat.add_eq_left, Nat.left_eq_add, Nat.one_ne_zero, Nat.reduceAdd, Nat.reduceLT, Nat.reduceLeDiff, Nat.reduceEqDiff, true_implies, false_implies, implies_true, Option.some.injEq, forall_eq', forall_eq, reduceCtorEq, brT, brF, br_s, i_10, i_01, ib_0_2, ib_1_2, tn_0, tn_1, Int32.le_refl, eq_self, rv_bN, rv_iM, RCM 81, RLY, lit_at hw, g_151 hw hτ hv hd, z, z00, c10]
    exact hQ
  · have y : ¬ (0 ≤ a.toInt ∧ a.toInt ≤ 2) := fun q => hn1 ⟨z, q⟩
    simp only [↓br_pos, ↓br_neg, ↓rF_I, ↓rF_L, ↓rF_R, ↓rF_N, rO_m, rB_m, ↓rI_m, wI_m, ↓rB2_m, ↓rB3_m, wB2_m, wB3_m, ↓rL_m, wL_m, ↓rQ_m, wQ_m, ↓lI_m, pI_m, pL_m, pR_m, sI_m, sBy_m, sBo_m, sL_m, sQ_m, fst_m, true_and, and_true, tg_some, ln_some, uI_1, uI_2, uL_1, uL_2, uL_3, uQ_1, uQ_2, uQ_3, rv_i, rv_l, rv_n, rv_b0, rv_b1, RMR, ne_eq, reduceCtorEq, not_false_eq_true, Option.getD_some, if_true, if_false, and_self, false_and, and_false, Nat.add_left_cancel_iff, Nat.add_eq_left, Nat.left_eq_add, Nat.one_ne_zero, Nat.reduceAdd, Nat.reduceLT, Nat.reduceLeDiff, Nat.reduceEqDiff, true_implies, false_implies, implies_true, Option.some.injEq, forall_eq', forall_eq, reduceCtorEq, brT, brF, br_s, i_10, i_01, ib_0_2, ib_1_2, tn_0, tn_1, Int32.le_refl, eq_self, rv_bN, rv_iM, RCM 81, RLY, lit_at hw, g_151 hw hτ hv hd, z, z10, z00, g_129 hd1, vin_02, iB_f y, c10]
    exact hQ
theorem m_162 {w : mT} {σ : mS} {tp n : Nat} {t : Nat → Nat} {τ ρ : Rw} {bk : Nat → Rw} {has : Nat → Bool} {im : Nat → Rw} {l a : Nat} {D : Nat} {K : Int32 → Hp → Prop} (h : mIn w σ tp t τ ρ n bk has im) (hl : l < τ 0) (ha : a ≤ 2) (hD : 3 ≤ D) : wpI D 162 [.ref 81, .int (Int32.ofNat l), .int (Int32.ofNat a)] (mW w σ) K ↔ K (Int32.ofNat (lotV τ ρ l a)) (mW w (uI σ 81 0 0)) := by
  have M := h
  obtain ⟨hw, hτ, hρ, hv, hr, hp2, htp, htb, htl, hn, hn12, hbk, him⟩ := h
  refine cI_of (m := 2) (fun d hd Q hQ => ?_) rfl hD
  have hd1 : 1 ≤ d := by omega
  have v0 := hv.1
  have z := bN_on hl (by omega : τ 0 < 2147483648)
  have y : 0 ≤ (Int32.ofNat a).toInt ∧ (Int32.ofNat a).toInt ≤ 2 := by rw [on_int (by omega)]; omega
  have c00 : ((0 : Int32) ≤ 0) ↔ True := by decide
  refine b162_0 ?_
  have q : a = 0 ∨ a = 1 ∨ a = 2 := by omega
  rcases q with rfl | rfl | rfl
  · have c0 : (Int32.ofNat 0 = (0 : Int32)) ↔ True := by decide
    simp only [↓br_pos, ↓br_neg, ↓rF_I, ↓rF_L, ↓rF_R, ↓rF_N, rO_m, rB_m, ↓rI_m, wI_m, ↓rB2_m, ↓rB3_m, wB2_m, wB3_m, ↓rL_m, wL_m, ↓rQ_m, wQ_m, ↓lI_m, pI_m, pL_m, pR_m, sI_m, sBy_m, sBo_m, sL_m, sQ_m, fst_m, true_and, and_true, tg_some, ln_some, uI_1, uI_2, uL_1, uL_2, uL_3, uQ_1, uQ_2, uQ_3, rv_i, rv_l, rv_n, rv_b0, rv_b1, RMR, ne_eq, reduceCtorEq, not_false_eq_true, Option.getD_some, if_true, if_false, and_self, false_and, and_false, Nat.add_left_cancel_iff, Nat.add_eq_left, Nat.left_eq_add, Nat.one_ne_zero, Nat.reduceAdd, Nat.reduceLT, Nat.reduceLeDiff, Nat.reduceEqDiff, true_implies, false_implies, implies_true, Option.some.injEq, forall_eq', forall_eq, reduceCtorEq, brT, brF, br_s, i_10, i_01, ib_0_2, ib_1_2, tn_0, tn_1, Int32.le_refl, eq_self, rv_bN, rv_iM, RCM 81, RLY, lit_at hw, ad_2, ad_4, ad_6, ad_8, ad_10, ad_12, ad_16, ad_24, ad_27, ad_28, ad_31, ad_35, ad_43, ad_51, ad_107, ad_131, ad_311, ml_3, ml_6, ml_7, ml_60, ml_100, ml_2471, mq_12, ar_2, ar_3, ar_4, ar_5, ar_6, of_add, of_mul, on_succ, g_151 hw hτ hv hd, z, z10, g_129 hd1, vin_02, iB_t y, c00, c0, mt hτ (by omega : 4 + l < 79)]
    exact hQ
  · have c0 : (Int32.ofNat 1 = (0 : Int32)) ↔ False := by decide
    have c1 : (Int32.ofNat 1 = (1 : Int32)) ↔ True := by decide
    simp only [↓br_pos, ↓br_neg, ↓rF_I, ↓rF_L, ↓rF_R, ↓rF_N, rO_m, rB_m, ↓rI_m, wI_m, ↓rB2_m, ↓rB3_m, wB2_m, wB3_m, ↓rL_m, wL_m, ↓rQ_m, wQ_m, ↓lI_m, pI_m, pL_m, pR_m, sI_m, sBy_m, sBo_m, sL_m, sQ_m, fst_m, true_and, and_true, tg_some, ln_some, uI_1, uI_2, uL_1, uL_2, uL_3, uQ_1, uQ_2, uQ_3, rv_i, rv_l, rv_n, rv_b0, rv_b1, RMR, ne_eq, reduceCtorEq, not_false_eq_true, Option.getD_some, if_true, if_false, and_self, false_and, and_false, Nat.add_left_cancel_iff, Nat.add_eq_left, Nat.left_eq_add, Nat.one_ne_zero, Nat.reduceAdd, Nat.reduceLT, Nat.reduceLeDiff, Nat.reduceEqDiff, true_implies, false_implies, implies_true, Option.some.injEq, forall_eq', forall_eq, reduceCtorEq, brT, brF, br_s, i_10, i_01, ib_0_2, ib_1_2, tn_0, tn_1, Int32.le_refl, eq_self, rv_bN, rv_iM, RCM 81, RLY, lit_at hw, ad_2, ad_4, ad_6, ad_8, ad_10, ad_12, ad_16, ad_24, ad_27, ad_28, ad_31, ad_35, ad_43, ad_51, ad_107, ad_131, ad_311, ml_3, ml_6, ml_7, ml_60, ml_100, ml_2471, mq_12, ar_2, ar_3, ar_4, ar_5, ar_6, of_add, of_mul, on_succ, g_151 hw hτ hv hd, z, z10, g_129 hd1, vin_02, iB_t y, c00, c0, c1, mt hτ (by omega : 16 + l < 79)]
    exact hQ
  · have c0 : (Int32.ofNat 2 = (0 : Int32)) ↔ False := by decide
    have c1 : (Int32.ofNat 2 = (1 : Int32)) ↔ False := by decide
    simp only [↓br_pos, ↓br_neg, ↓rF_I, ↓rF_L, ↓rF_R, ↓rF_N, rO_m, rB_m, ↓rI_m, wI_m, ↓rB2_m, ↓rB3_m, wB2_m, wB3_m, ↓rL_m, wL_m, ↓rQ_m, wQ_m, ↓lI_m, pI_m, pL_m, pR_m, sI_m, sBy_m, sBo_m, sL_m, sQ_m, fst_m, true_and, and_true, tg_some, ln_some, uI_1, uI_2, uL_1, uL_2, uL_3, uQ_1, uQ_2, uQ_3, rv_i, rv_l, rv_n, rv_b0, rv_b1, RMR, ne_eq, reduceCtorEq, not_false_eq_true, Option.getD_some, if_true, if_false, and_self, false_and, and_false, Nat.add_left_cancel_iff, Nat.add_eq_left, Nat.left_eq_add, Nat.one_ne_zero, Nat.reduceAdd, Nat.reduceLT, Nat.reduceLeDiff, Nat.reduceEqDiff, true_implies, false_implies, implies_true, Option.some.injEq, forall_eq', forall_eq, reduceCtorEq, brT, brF, br_s, i_10, i_01, ib_0_2, ib_1_2, tn_0, tn_1, Int32.le_refl, eq_self, rv_bN, rv_iM, RCM 81, RLY, lit_at hw, ad_2, ad_4, ad_6, ad_8, ad_10, ad_12, ad_16, ad_24, ad_27, ad_28, ad_31, ad_35, ad_43, ad_51, ad_107, ad_131, ad_311, ml_3, ml_6, ml_7, ml_60, ml_100, ml_2471, mq_12, ar_2, ar_3, ar_4, ar_5, ar_6, of_add, of_mul, on_succ, g_151 hw hτ hv hd, z, z10, g_129 hd1, vin_02, iB_t y, c00, c0, c1, mr hρ (by omega : 12 + l < 2471)]
    exact hQ
theorem m_163z {w : mT} {σ : mS} {tp n : Nat} {t : Nat → Nat} {τ ρ : Rw} {bk : Nat → Rw} {has : Nat → Bool} {im : Nat → Rw} {s a : Int32} {D : Nat} {K : Int32 → Hp → Prop} (h : mIn w σ tp t τ ρ n bk has im) (hn1 : ¬ shP τ s a) (hD : 3 ≤ D) : wpI D 163 [.ref 81, .int s, .int a] (mW w σ) K ↔ K 0 (mW w (uI σ 81 0 1)) := by
  have M := h
  obtain ⟨hw, hτ, hρ, hv, hr, hp2, htp, htb, htl, hn, hn12, hbk, him⟩ := h
  refine cI_of (m := 2) (fun d hd Q hQ => ?_) rfl hD
  have hd1 : 1 ≤ d := by omega
  have c10 : ((1 : Int32) ≤ 0) ↔ False := by decide
  refine b163_0 ?_
  rcases bN_01 (a := s) (n := τ 2) with z | z
  · simp only [↓br_pos, ↓br_neg, ↓rF_I, ↓rF_L, ↓rF_R, ↓rF_N, rO_m, rB_m, ↓rI_m, wI_m, ↓rB2_m, ↓rB3_m, wB2_m, wB3_m, ↓rL_m, wL_m, ↓rQ_m, wQ_m, ↓lI_m, pI_m, pL_m, pR_m, sI_m, sBy_m, sBo_m, sL_m, sQ_m, fst_m, true_and, and_true, tg_some, ln_some, uI_1, uI_2, uL_1, uL_2, uL_3, uQ_1, uQ_2, uQ_3, rv_i, rv_l, rv_n, rv_b0, rv_b1, RMR, ne_eq, reduceCtorEq, not_false_eq_true, Option.getD_some, if_true, if_false, and_self, false_and, and_false, Nat.add_left_cancel_iff, Nat.add_eq_left, Nat.left_eq_add, Nat.one_ne_zero, Nat.reduceAdd, Nat.reduceLT, Nat.reduceLeDiff, Nat.reduceEqDiff, true_implies, false_implies, implies_true, Option.some.injEq, forall_eq', forall_eq, reduceCtorEq, brT, brF, br_s, i_10, i_01, ib_0_2, ib_1_2, tn_0, tn_1, Int32.le_refl, eq_self, rv_bN, rv_iM, RCM 81, RLY, lit_at hw, g_153 hw hτ hv hd, z, z00, c10]
    exact hQ
  · have y : ¬ (0 ≤ a.toInt ∧ a.toInt ≤ 9) := fun q => hn1 ⟨z, q⟩
    simp only [↓br_pos, ↓br_neg, ↓rF_I, ↓rF_L, ↓rF_R, ↓rF_N, rO_m, rB_m, ↓rI_m, wI_m, ↓rB2_m, ↓rB3_m, wB2_m, wB3_m, ↓rL_m, wL_m, ↓rQ_m, wQ_m, ↓lI_m, pI_m, pL_m, pR_m, sI_m, sBy_m, sBo_m, sL_m, sQ_m, fst_m, true_and, and_true, tg_some, ln_some, uI_1, uI_2, uL_1, uL_2, uL_3, uQ_1, uQ_2, uQ_3, rv_i, rv_l, rv_n, rv_b0, rv_b1, RMR, ne_eq, reduceCtorEq, not_false_eq_true, Option.getD_some, if_true, if_false, and_self, false_and, and_false, Nat.add_left_cancel_iff, Nat.add_eq_left, Nat.left_eq_add, Nat.one_ne_zero, Nat.reduceAdd, Nat.reduceLT, Nat.reduceLeDiff, Nat.reduceEqDiff, true_implies, false_implies, implies_true, Option.some.injEq, forall_eq', forall_eq, reduceCtorEq, brT, brF, br_s, i_10, i_01, ib_0_2, ib_1_2, tn_0, tn_1, Int32.le_refl, eq_self, rv_bN, rv_iM, RCM 81, RLY, lit_at hw, g_153 hw hτ hv hd, z, z10, z00, g_129 hd1, vin_09, iB_f y, c10]
    exact hQ
theorem m_163 {w : mT} {σ : mS} {tp n : Nat} {t : Nat → Nat} {τ ρ : Rw} {bk : Nat → Rw} {has : Nat → Bool} {im : Nat → Rw} {s a : Nat} {D : Nat} {K : Int32 → Hp → Prop} (h : mIn w σ tp t τ ρ n bk has im) (hs : s < τ 2) (ha : a ≤ 9) (hD : 3 ≤ D) : wpI D 163 [.ref 81, .int (Int32.ofNat s), .int (Int32.ofNat a)] (mW w σ) K ↔ K (shipV τ ρ s a) (mW w (uI σ 81 0 0)) := by
  have M := h
  obtain ⟨hw, hτ, hρ, hv, hr, hp2, htp, htb, htl, hn, hn12, hbk, him⟩ := h
  have M0 := mIn_Z M (frZ_0 (j := 0) (x := 0) (by omega))
  obtain ⟨_, hτ0, hρ0, _, _, hp20, _, htb0, _, hn0, _, hbk0, him0⟩ := M0
  have M0 := mIn_Z M (frZ_0 (j := 0) (x := 0) (by omega))
  refine cI_of (m := 2) (fun d hd Q hQ => ?_) rfl hD
  have hd1 : 1 ≤ d := by omega
  have v2 := hv.2.2.1
  have z := bN_on hs (by omega : τ 2 < 2147483648)
  have y : 0 ≤ (Int32.ofNat a).toInt ∧ (Int32.ofNat a).toInt ≤ 9 := by rw [on_int (by omega)]; omega
  have c00 : ((0 : Int32) ≤ 0) ↔ True := by decide
  have ai := on_int (i := a) (by omega)
  refine b163_0 ?_
  simp only [↓br_pos, ↓br_neg, ↓rF_I, ↓rF_L, ↓rF_R, ↓rF_N, rO_m, rB_m, ↓rI_m, wI_m, ↓rB2_m, ↓rB3_m, wB2_m, wB3_m, ↓rL_m, wL_m, ↓rQ_m, wQ_m, ↓lI_m, pI_m, pL_m, pR_m, sI_m, sBy_m, sBo_m, sL_m, sQ_m, fst_m, true_and, and_true, tg_some, ln_some, uI_1, uI_2, uL_1, uL_2, uL_3, uQ_1, uQ_2, uQ_3, rv_i, rv_l, rv_n, rv_b0, rv_b1, RMR, ne_eq, reduceCtorEq, not_false_eq_true, Option.getD_some, if_true, if_false, and_self, false_and, and_false, Nat.add_left_cancel_iff, Nat.add_eq_left, Nat.left_eq_add, Nat.one_ne_zero, Nat.reduceAdd, Nat.reduceLT, Nat.reduceLeDiff, Nat.reduceEqDiff, true_implies, false_implies, implies_true, Option.some.injEq, forall_eq', forall_eq, reduceCtorEq, brT, brF, br_s, i_10, i_01, ib_0_2, ib_1_2, tn_0, tn_1, Int32.le_refl, eq_self, rv_bN, rv_iM, RCM 81, RLY, lit_at hw, g_153 hw hτ hv hd, z, z10, g_129 hd1, vin_09, iB_t y, c00]
  refine sw163 (fun e => ?_) (fun e => ?_) (fun e => ?_) (fun e => ?_) (fun e => ?_)
  · have q : a = 6 := by omega
    subst q
    refine b163_68 ?_
    simp only [↓br_pos, ↓br_neg, ↓rF_I, ↓rF_L, ↓rF_R, ↓rF_N, rO_m, rB_m, ↓rI_m, wI_m, ↓rB2_m, ↓rB3_m, wB2_m, wB3_m, ↓rL_m, wL_m, ↓rQ_m, wQ_m, ↓lI_m, pI_m, pL_m, pR_m, sI_m, sBy_m, sBo_m, sL_m, sQ_m, fst_m, true_and, and_true, tg_some, ln_some, uI_1, uI_2, uL_1, uL_2, uL_3, uQ_1, uQ_2, uQ_3, rv_i, rv_l, rv_n, rv_b0, rv_b1, RMR, ne_eq, reduceCtorEq, not_false_eq_true, Option.getD_some, if_true, if_false, and_self, false_and, and_false, Nat.add_left_cancel_iff, Nat.add_eq_left, Nat.left_eq_add, Nat.one_ne_zero, Nat.reduceAdd, Nat.reduceLT, Nat.reduceLeDiff, Nat.reduceEqDiff, true_implies, false_implies, implies_true, Option.some.injEq, forall_eq', forall_eq, reduceCtorEq, brT, brF, br_s, i_10, i_01, ib_0_2, ib_1_2, tn_0, tn_1, Int32.le_refl, eq_self, rv_bN, rv_iM, RCM 81, RLY, lit_at hw, ad_2, ad_4, ad_6, ad_8, ad_10, ad_12, ad_16, ad_24, ad_27, ad_28, ad_31, ad_35, ad_43, ad_51, ad_107, ad_131, ad_311, ml_3, ml_6, ml_7, ml_60, ml_100, ml_2471, mq_12, ar_2, ar_3, ar_4, ar_5, ar_6, of_add, of_mul, on_succ, mr hρ (by omega : 27 + s < 2471)]
    exact hQ
  · have q : a = 7 := by omega
    subst q
    refine b163_78 ?_
    simp only [↓br_pos, ↓br_neg, ↓rF_I, ↓rF_L, ↓rF_R, ↓rF_N, rO_m, rB_m, ↓rI_m, wI_m, ↓rB2_m, ↓rB3_m, wB2_m, wB3_m, ↓rL_m, wL_m, ↓rQ_m, wQ_m, ↓lI_m, pI_m, pL_m, pR_m, sI_m, sBy_m, sBo_m, sL_m, sQ_m, fst_m, true_and, and_true, tg_some, ln_some, uI_1, uI_2, uL_1, uL_2, uL_3, uQ_1, uQ_2, uQ_3, rv_i, rv_l, rv_n, rv_b0, rv_b1, RMR, ne_eq, reduceCtorEq, not_false_eq_true, Option.getD_some, if_true, if_false, and_self, false_and, and_false, Nat.add_left_cancel_iff, Nat.add_eq_left, Nat.left_eq_add, Nat.one_ne_zero, Nat.reduceAdd, Nat.reduceLT, Nat.reduceLeDiff, Nat.reduceEqDiff, true_implies, false_implies, implies_true, Option.some.injEq, forall_eq', forall_eq, reduceCtorEq, brT, brF, br_s, i_10, i_01, ib_0_2, ib_1_2, tn_0, tn_1, Int32.le_refl, eq_self, rv_bN, rv_iM, RCM 81, RLY, lit_at hw, ad_2, ad_4, ad_6, ad_8, ad_10, ad_12, ad_16, ad_24, ad_27, ad_28, ad_31, ad_35, ad_43, ad_51, ad_107, ad_131, ad_311, ml_3, ml_6, ml_7, ml_60, ml_100, ml_2471, mq_12, ar_2, ar_3, ar_4, ar_5, ar_6, of_add, of_mul, on_succ, mr hρ (by omega : 43 + s < 2471)]
    exact hQ
  · have q : a = 8 := by omega
    subst q
    refine b163_90 ?_
    simp only [↓br_pos, ↓br_neg, ↓rF_I, ↓rF_L, ↓rF_R, ↓rF_N, rO_m, rB_m, ↓rI_m, wI_m, ↓rB2_m, ↓rB3_m, wB2_m, wB3_m, ↓rL_m, wL_m, ↓rQ_m, wQ_m, ↓lI_m, pI_m, pL_m, pR_m, sI_m, sBy_m, sBo_m, sL_m, sQ_m, fst_m, true_and, and_true, tg_some, ln_some, uI_1, uI_2, uL_1, uL_2, uL_3, uQ_1, uQ_2, uQ_3, rv_i, rv_l, rv_n, rv_b0, rv_b1, RMR, ne_eq, reduceCtorEq, not_false_eq_true, Option.getD_some, if_true, if_false, and_self, false_and, and_false, Nat.add_left_cancel_iff, Nat.add_eq_left, Nat.left_eq_add, Nat.one_ne_zero, Nat.reduceAdd, Nat.reduceLT, Nat.reduceLeDiff, Nat.reduceEqDiff, true_implies, false_implies, implies_true, Option.some.injEq, forall_eq', forall_eq, reduceCtorEq, brT, brF, br_s, i_10, i_01, ib_0_2, ib_1_2, tn_0, tn_1, Int32.le_refl, eq_self, rv_bN, rv_iM, RCM 81, RLY, lit_at hw, g_160 hw hτ0 hρ0 hv hr hs hd]
    exact hQ
  · have q : a = 9 := by omega
    subst q
    refine b163_96 ?_
    simp only [↓br_pos, ↓br_neg, ↓rF_I, ↓rF_L, ↓rF_R, ↓rF_N, rO_m, rB_m, ↓rI_m, wI_m, ↓rB2_m, ↓rB3_m, wB2_m, wB3_m, ↓rL_m, wL_m, ↓rQ_m, wQ_m, ↓lI_m, pI_m, pL_m, pR_m, sI_m, sBy_m, sBo_m, sL_m, sQ_m, fst_m, true_and, and_true, tg_some, ln_some, uI_1, uI_2, uL_1, uL_2, uL_3, uQ_1, uQ_2, uQ_3, rv_i, rv_l, rv_n, rv_b0, rv_b1, RMR, ne_eq, reduceCtorEq, not_false_eq_true, Option.getD_some, if_true, if_false, and_self, false_and, and_false, Nat.add_left_cancel_iff, Nat.add_eq_left, Nat.left_eq_add, Nat.one_ne_zero, Nat.reduceAdd, Nat.reduceLT, Nat.reduceLeDiff, Nat.reduceEqDiff, true_implies, false_implies, implies_true, Option.some.injEq, forall_eq', forall_eq, reduceCtorEq, brT, brF, br_s, i_10, i_01, ib_0_2, ib_1_2, tn_0, tn_1, Int32.le_refl, eq_self, rv_bN, rv_iM, RCM 81, RLY, lit_at hw, ad_2, ad_4, ad_6, ad_8, ad_10, ad_12, ad_16, ad_24, ad_27, ad_28, ad_31, ad_35, ad_43, ad_51, ad_107, ad_131, ad_311, ml_3, ml_6, ml_7, ml_60, ml_100, ml_2471, mq_12, ar_2, ar_3, ar_4, ar_5, ar_6, of_add, of_mul, on_succ, g_160 hw hτ0 hρ0 hv hr hs hd, g_155 (x := 5) (a := 5) hw hτ0 rfl (by omega : 31 + 6 * s + 5 < 79) hd1]
    exact hQ
  · have q : a < 6 := by omega
    have e : shipV τ ρ s a = Int32.ofNat (τ (31 + 6 * s + a)) := if_pos q
    rw [e] at hQ
    refine b163_109 ?_
    simp only [↓br_pos, ↓br_neg, ↓rF_I, ↓rF_L, ↓rF_R, ↓rF_N, rO_m, rB_m, ↓rI_m, wI_m, ↓rB2_m, ↓rB3_m, wB2_m, wB3_m, ↓rL_m, wL_m, ↓rQ_m, wQ_m, ↓lI_m, pI_m, pL_m, pR_m, sI_m, sBy_m, sBo_m, sL_m, sQ_m, fst_m, true_and, and_true, tg_some, ln_some, uI_1, uI_2, uL_1, uL_2, uL_3, uQ_1, uQ_2, uQ_3, rv_i, rv_l, rv_n, rv_b0, rv_b1, RMR, ne_eq, reduceCtorEq, not_false_eq_true, Option.getD_some, if_true, if_false, and_self, false_and, and_false, Nat.add_left_cancel_iff, Nat.add_eq_left, Nat.left_eq_add, Nat.one_ne_zero, Nat.reduceAdd, Nat.reduceLT, Nat.reduceLeDiff, Nat.reduceEqDiff, true_implies, false_implies, implies_true, Option.some.injEq, forall_eq', forall_eq, reduceCtorEq, brT, brF, br_s, i_10, i_01, ib_0_2, ib_1_2, tn_0, tn_1, Int32.le_refl, eq_self, rv_bN, rv_iM, RCM 81, RLY, lit_at hw, g_155 (x := Int32.ofNat a) (a := a) hw hτ0 rfl (by omega : 31 + 6 * s + a < 79) hd1]
    exact hQ
theorem m_164z {w : mT} {σ : mS} {tp n : Nat} {t : Nat → Nat} {τ ρ : Rw} {bk : Nat → Rw} {has : Nat → Bool} {im : Nat → Rw} {p a : Int32} {D : Nat} {K : Int32 → Hp → Prop} (h : mIn w σ tp t τ ρ n bk has im) (hn1 : ¬ (bN p (τ 1) = 1 ∧ 0 ≤ a.toInt ∧ a.toInt ≤ 2)) (hD : 3 ≤ D) : wpI D 164 [.ref 81, .int p, .int a] (mW w σ) K ↔ K (-2) (mW w (uI σ 81 0 0)) := by
  have M := h
  obtain ⟨hw, hτ, hρ, hv, hr, hp2, htp, htb, htl, hn, hn12, hbk, him⟩ := h
  have M0 := mIn_Z M (frZ_0 (j := 0) (x := 0) (by omega))
  obtain ⟨_, hτ0, hρ0, _, _, hp20, _, htb0, _, hn0, _, hbk0, him0⟩ := M0
  have M0 := mIn_Z M (frZ_0 (j := 0) (x := 0) (by omega))
  refine cI_of (m := 2) (fun d hd Q hQ => ?_) rfl hD
  have hd1 : 1 ≤ d := by omega
  refine b164_0 ?_
  rcases bN_01 (a := p) (n := τ 1) with z | z
  · simp only [↓br_pos, ↓br_neg, ↓rF_I, ↓rF_L, ↓rF_R, ↓rF_N, rO_m, rB_m, ↓rI_m, wI_m, ↓rB2_m, ↓rB3_m, wB2_m, wB3_m, ↓rL_m, wL_m, ↓rQ_m, wQ_m, ↓lI_m, pI_m, pL_m, pR_m, sI_m, sBy_m, sBo_m, sL_m, sQ_m, fst_m, true_and, and_true, tg_some, ln_some, uI_1, uI_2, uL_1, uL_2, uL_3, uQ_1, uQ_2, uQ_3, rv_i, rv_l, rv_n, rv_b0, rv_b1, RMR, ne_eq, reduceCtorEq, not_false_eq_true, Option.getD_some, if_true, if_false, and_self, false_and, and_false, Nat.add_left_cancel_iff, Nat.add_eq_left, Nat.left_eq_add, Nat.one_ne_zero, Nat.reduceAdd, Nat.reduceLT, Nat.reduceLeDiff, Nat.reduceEqDiff, true_implies, false_implies, implies_true, Option.some.injEq, forall_eq', forall_eq, reduceCtorEq, brT, brF, br_s, i_10, i_01, ib_0_2, ib_1_2, tn_0, tn_1, Int32.le_refl, eq_self, rv_bN, rv_iM, RCM 81, RLY, lit_at hw, g_152 hw hτ0 hv hd, z, z00]
    exact hQ
  · have y : ¬ (0 ≤ a.toInt ∧ a.toInt ≤ 2) := fun q => hn1 ⟨z, q⟩
    simp only [↓br_pos, ↓br_neg, ↓rF_I, ↓rF_L, ↓rF_R, ↓rF_N, rO_m, rB_m, ↓rI_m, wI_m, ↓rB2_m, ↓rB3_m, wB2_m, wB3_m, ↓rL_m, wL_m, ↓rQ_m, wQ_m, ↓lI_m, pI_m, pL_m, pR_m, sI_m, sBy_m, sBo_m, sL_m, sQ_m, fst_m, true_and, and_true, tg_some, ln_some, uI_1, uI_2, uL_1, uL_2, uL_3, uQ_1, uQ_2, uQ_3, rv_i, rv_l, rv_n, rv_b0, rv_b1, RMR, ne_eq, reduceCtorEq, not_false_eq_true, Option.getD_some, if_true, if_false, and_self, false_and, and_false, Nat.add_left_cancel_iff, Nat.add_eq_left, Nat.left_eq_add, Nat.one_ne_zero, Nat.reduceAdd, Nat.reduceLT, Nat.reduceLeDiff, Nat.reduceEqDiff, true_implies, false_implies, implies_true, Option.some.injEq, forall_eq', forall_eq, reduceCtorEq, brT, brF, br_s, i_10, i_01, ib_0_2, ib_1_2, tn_0, tn_1, Int32.le_refl, eq_self, rv_bN, rv_iM, RCM 81, RLY, lit_at hw, g_152 hw hτ0 hv hd, z, z10, z00, g_129 hd1, vin_02, iB_f y]
    exact hQ
theorem m_164 {w : mT} {σ : mS} {tp n : Nat} {t : Nat → Nat} {τ ρ : Rw} {bk : Nat → Rw} {has : Nat → Bool} {im : Nat → Rw} {p a : Nat} (h : mIn w σ tp t τ ρ n bk has im) (hp : p < τ 1) (ha : a ≤ 2) : ∃ σ', frA σ σ' ∧ mIn w σ' tp t τ ρ n bk has im ∧ ∀ {D : Nat} {K : Int32 → Hp → Prop}, 3 ≤ D → (wpI D 164 [.ref 81, .int (Int32.ofNat p), .int (Int32.ofNat a)] (mW w σ) K ↔ K (Int32.ofNat (pileV τ ρ p a)) (mW w σ')) := by
  have M := h
  obtain ⟨hw, hτ, hρ, hv, hr, hp2, htp, htb, htl, hn, hn12, hbk, him⟩ := h
  have M0 := mIn_Z M (frZ_0 (j := 0) (x := 0) (by omega))
  obtain ⟨_, hτ0, hρ0, _, _, hp20, _, htb0, _, hn0, _, hbk0, him0⟩ := M0
  have M0 := mIn_Z M (frZ_0 (j := 0) (x := 0) (by omega))
  have v1 := hv.2.1
  have v2 := (hv.2.2.2.2.2.1 p hp).2
  refine ⟨su (uI σ 81 0 0) (tPi τ ρ p) (gPi τ ρ p), frZ_A uI_0s, mIn_Z M uI_0s, fun hD => cI_of (m := 2) (fun d hd Q hQ => ?_) rfl hD⟩
  have hd1 : 1 ≤ d := by omega
  have hτS := mT_c hτ0 (su_a (σ := (uI σ 81 0 0)) (T := tPi τ ρ p) (G := gPi τ ρ p) (by omega : (83 : Nat) ≠ 81))
  have hρS := mR_c hρ0 (su_a (σ := (uI σ 81 0 0)) (T := tPi τ ρ p) (G := gPi τ ρ p) (by omega : (85 : Nat) ≠ 81))
  have y : 0 ≤ (Int32.ofNat a).toInt ∧ (Int32.ofNat a).toInt ≤ 2 := by rw [on_int (by omega)]; omega
  have z := bN_on hp (by omega : τ 1 < 2147483648)
  refine b164_0 ?_
  have q : a = 0 ∨ a = 1 ∨ a = 2 := by omega
  rcases q with rfl | rfl | rfl
  · have c0 : (Int32.ofNat 0 = (0 : Int32)) ↔ True := by decide
    simp only [↓br_pos, ↓br_neg, ↓rF_I, ↓rF_L, ↓rF_R, ↓rF_N, rO_m, rB_m, ↓rI_m, wI_m, ↓rB2_m, ↓rB3_m, wB2_m, wB3_m, ↓rL_m, wL_m, ↓rQ_m, wQ_m, ↓lI_m, pI_m, pL_m, pR_m, sI_m, sBy_m, sBo_m, sL_m, sQ_m, fst_m, true_and, and_true, tg_some, ln_some, uI_1, uI_2, uL_1, uL_2, uL_3, uQ_1, uQ_2, uQ_3, rv_i, rv_l, rv_n, rv_b0, rv_b1, RMR, ne_eq, reduceCtorEq, not_false_eq_true, Option.getD_some, if_true, if_false, and_self, false_and, and_false, Nat.add_left_cancel_iff, Nat.add_eq_left, Nat.left_eq_add, Nat.one_ne_zero, Nat.reduceAdd, Nat.reduceLT, Nat.reduceLeDiff, Nat.reduceEqDiff, true_implies, false_implies, implies_true, Option.some.injEq, forall_eq', forall_eq, reduceCtorEq, brT, brF, br_s, i_10, i_01, ib_0_2, ib_1_2, tn_0, tn_1, Int32.le_refl, eq_self, rv_bN, rv_iM, RCM 81, RLY, lit_at hw, ad_2, ad_4, ad_6, ad_8, ad_10, ad_12, ad_16, ad_24, ad_27, ad_28, ad_31, ad_35, ad_43, ad_51, ad_107, ad_131, ad_311, ml_3, ml_6, ml_7, ml_60, ml_100, ml_2471, mq_12, ar_2, ar_3, ar_4, ar_5, ar_6, of_add, of_mul, on_succ, g_152 hw hτ0 hv hd, z, z10, g_129 hd1, vin_02, iB_t y, mt hτ (by omega : 28 + p < 79), g_158p hw hτ0 hρ0 hv hr hp hd, c0, mt hτS (by omega : 28 + p < 79)]
    exact hQ
  · have c0 : (Int32.ofNat 1 = (0 : Int32)) ↔ False := by decide
    have c1 : (Int32.ofNat 1 = (1 : Int32)) ↔ True := by decide
    simp only [↓br_pos, ↓br_neg, ↓rF_I, ↓rF_L, ↓rF_R, ↓rF_N, rO_m, rB_m, ↓rI_m, wI_m, ↓rB2_m, ↓rB3_m, wB2_m, wB3_m, ↓rL_m, wL_m, ↓rQ_m, wQ_m, ↓lI_m, pI_m, pL_m, pR_m, sI_m, sBy_m, sBo_m, sL_m, sQ_m, fst_m, true_and, and_true, tg_some, ln_some, uI_1, uI_2, uL_1, uL_2, uL_3, uQ_1, uQ_2, uQ_3, rv_i, rv_l, rv_n, rv_b0, rv_b1, RMR, ne_eq, reduceCtorEq, not_false_eq_true, Option.getD_some, if_true, if_false, and_self, false_and, and_false, Nat.add_left_cancel_iff, Nat.add_eq_left, Nat.left_eq_add, Nat.one_ne_zero, Nat.reduceAdd, Nat.reduceLT, Nat.reduceLeDiff, Nat.reduceEqDiff, true_implies, false_implies, implies_true, Option.some.injEq, forall_eq', forall_eq, reduceCtorEq, brT, brF, br_s, i_10, i_01, ib_0_2, ib_1_2, tn_0, tn_1, Int32.le_refl, eq_self, rv_bN, rv_iM, RCM 81, RLY, lit_at hw, ad_2, ad_4, ad_6, ad_8, ad_10, ad_12, ad_16, ad_24, ad_27, ad_28, ad_31, ad_35, ad_43, ad_51, ad_107, ad_131, ad_311, ml_3, ml_6, ml_7, ml_60, ml_100, ml_2471, mq_12, ar_2, ar_3, ar_4, ar_5, ar_6, of_add, of_mul, on_succ, g_152 hw hτ0 hv hd, z, z10, g_129 hd1, vin_02, iB_t y, mt hτ (by omega : 28 + p < 79), g_158p hw hτ0 hρ0 hv hr hp hd, c0, c1, mr hρS (by omega : 24 + p < 2471)]
    exact hQ
  · have c0 : (Int32.ofNat 2 = (0 : Int32)) ↔ False := by decide
    have c1 : (Int32.ofNat 2 = (1 : Int32)) ↔ False := by decide
    simp only [↓br_pos, ↓br_neg, ↓rF_I, ↓rF_L, ↓rF_R, ↓rF_N, rO_m, rB_m, ↓rI_m, wI_m, ↓rB2_m, ↓rB3_m, wB2_m, wB3_m, ↓rL_m, wL_m, ↓rQ_m, wQ_m, ↓lI_m, pI_m, pL_m, pR_m, sI_m, sBy_m, sBo_m, sL_m, sQ_m, fst_m, true_and, and_true, tg_some, ln_some, uI_1, uI_2, uL_1, uL_2, uL_3, uQ_1, uQ_2, uQ_3, rv_i, rv_l, rv_n, rv_b0, rv_b1, RMR, ne_eq, reduceCtorEq, not_false_eq_true, Option.getD_some, if_true, if_false, and_self, false_and, and_false, Nat.add_left_cancel_iff, Nat.add_eq_left, Nat.left_eq_add, Nat.one_ne_zero, Nat.reduceAdd, Nat.reduceLT, Nat.reduceLeDiff, Nat.reduceEqDiff, true_implies, false_implies, implies_true, Option.some.injEq, forall_eq', forall_eq, reduceCtorEq, brT, brF, br_s, i_10, i_01, ib_0_2, ib_1_2, tn_0, tn_1, Int32.le_refl, eq_self, rv_bN, rv_iM, RCM 81, RLY, lit_at hw, ad_2, ad_4, ad_6, ad_8, ad_10, ad_12, ad_16, ad_24, ad_27, ad_28, ad_31, ad_35, ad_43, ad_51, ad_107, ad_131, ad_311, ml_3, ml_6, ml_7, ml_60, ml_100, ml_2471, mq_12, ar_2, ar_3, ar_4, ar_5, ar_6, of_add, of_mul, on_succ, g_152 hw hτ0 hv hd, z, z10, g_129 hd1, vin_02, iB_t y, mt hτ (by omega : 28 + p < 79), g_158p hw hτ0 hρ0 hv hr hp hd, c0, c1, su_16]
    exact hQ
theorem m_167z {w : mT} {σ : mS} {tp n : Nat} {t : Nat → Nat} {τ ρ : Rw} {bk : Nat → Rw} {has : Nat → Bool} {im : Nat → Rw} {p k c : Int32} {D : Nat} {K : Int32 → Hp → Prop} (h : mIn w σ tp t τ ρ n bk has im) (hn1 : ¬ (laP τ ρ p k ∧ bC τ p c = 1)) (hD : 4 ≤ D) : wpI D 167 [.ref 81, .int p, .int k, .int c] (mW w σ) K ↔ K (-2) (mW w (uI σ 81 0 0)) := by
  have M := h
  obtain ⟨hw, hτ, hρ, hv, hr, hp2, htp, htb, htl, hn, hn12, hbk, him⟩ := h
  have M0 := mIn_Z M (frZ_0 (j := 0) (x := 0) (by omega))
  obtain ⟨_, hτ0, hρ0, _, _, hp20, _, htb0, _, hn0, _, hbk0, him0⟩ := M0
  have M0 := mIn_Z M (frZ_0 (j := 0) (x := 0) (by omega))
  refine cI_of (m := 3) (fun d hd Q hQ => ?_) rfl hD
  refine b167_0 ?_
  by_cases z : laP τ ρ p k
  · have y : bC τ p c = 0 := bC_01.resolve_right (fun q => hn1 ⟨z, q⟩)
    simp only [↓br_pos, ↓br_neg, ↓rF_I, ↓rF_L, ↓rF_R, ↓rF_N, rO_m, rB_m, ↓rI_m, wI_m, ↓rB2_m, ↓rB3_m, wB2_m, wB3_m, ↓rL_m, wL_m, ↓rQ_m, wQ_m, ↓lI_m, pI_m, pL_m, pR_m, sI_m, sBy_m, sBo_m, sL_m, sQ_m, fst_m, true_and, and_true, tg_some, ln_some, uI_1, uI_2, uL_1, uL_2, uL_3, uQ_1, uQ_2, uQ_3, rv_i, rv_l, rv_n, rv_b0, rv_b1, RMR, ne_eq, reduceCtorEq, not_false_eq_true, Option.getD_some, if_true, if_false, and_self, false_and, and_false, Nat.add_left_cancel_iff, Nat.add_eq_left, Nat.left_eq_add, Nat.one_ne_zero, Nat.reduceAdd, Nat.reduceLT, Nat.reduceLeDiff, Nat.reduceEqDiff, true_implies, false_implies, implies_true, Option.some.injEq, forall_eq', forall_eq, reduceCtorEq, brT, brF, br_s, i_10, i_01, ib_0_2, ib_1_2, tn_0, tn_1, Int32.le_refl, eq_self, rv_bN, rv_iM, RCM 81, RLY, lit_at hw, g_165 hw hτ0 hρ0 hv hr hd, iB_t z, z10, z00, g_154 hw hτ0 hv hd, y]
    exact hQ
  · simp only [↓br_pos, ↓br_neg, ↓rF_I, ↓rF_L, ↓rF_R, ↓rF_N, rO_m, rB_m, ↓rI_m, wI_m, ↓rB2_m, ↓rB3_m, wB2_m, wB3_m, ↓rL_m, wL_m, ↓rQ_m, wQ_m, ↓lI_m, pI_m, pL_m, pR_m, sI_m, sBy_m, sBo_m, sL_m, sQ_m, fst_m, true_and, and_true, tg_some, ln_some, uI_1, uI_2, uL_1, uL_2, uL_3, uQ_1, uQ_2, uQ_3, rv_i, rv_l, rv_n, rv_b0, rv_b1, RMR, ne_eq, reduceCtorEq, not_false_eq_true, Option.getD_some, if_true, if_false, and_self, false_and, and_false, Nat.add_left_cancel_iff, Nat.add_eq_left, Nat.left_eq_add, Nat.one_ne_zero, Nat.reduceAdd, Nat.reduceLT, Nat.reduceLeDiff, Nat.reduceEqDiff, true_implies, false_implies, implies_true, Option.some.injEq, forall_eq', forall_eq, reduceCtorEq, brT, brF, br_s, i_10, i_01, ib_0_2, ib_1_2, tn_0, tn_1, Int32.le_refl, eq_self, rv_bN, rv_iM, RCM 81, RLY, lit_at hw, g_165 hw hτ0 hρ0 hv hr hd, iB_f z, z00]
    exact hQ
theorem m_167 {w : mT} {σ : mS} {tp n : Nat} {t : Nat → Nat} {τ ρ : Rw} {bk : Nat → Rw} {has : Nat → Bool} {im : Nat → Rw} {p k c : Nat} {D : Nat} {K : Int32 → Hp → Prop} (h : mIn w σ tp t τ ρ n bk has im) (hp : p < τ 1) (hk : k < ρ (24 + p)) (hc : c < τ (28 + p)) (hD : 4 ≤ D) : wpI D 167 [.ref 81, .int (Int32.ofNat p), .int (Int32.ofNat k), .int (Int32.ofNat c)] (mW w σ) K ↔ K (Int32.ofNat (ρ (li p k c))) (mW w (uI σ 81 0 0)) := by
  have M := h
  obtain ⟨hw, hτ, hρ, hv, hr, hp2, htp, htb, htl, hn, hn12, hbk, him⟩ := h
  have M0 := mIn_Z M (frZ_0 (j := 0) (x := 0) (by omega))
  obtain ⟨_, hτ0, hρ0, _, _, hp20, _, htb0, _, hn0, _, hbk0, him0⟩ := M0
  have M0 := mIn_Z M (frZ_0 (j := 0) (x := 0) (by omega))
  refine cI_of (m := 3) (fun d hd Q hQ => ?_) rfl hD
  have hd1 : 1 ≤ d := by omega
  have v1 := hv.2.1
  have v2 := (hv.2.2.2.2.2.1 p hp).2
  have la := vR_la hr p (by omega)
  have z : laP τ ρ (Int32.ofNat p) (Int32.ofNat k) := ⟨bN_on hp (by omega), by rw [on_int (by omega)]; omega, by rw [on_int (by omega), on_nat (by omega)]; omega⟩
  refine b167_0 ?_
  simp only [↓br_pos, ↓br_neg, ↓rF_I, ↓rF_L, ↓rF_R, ↓rF_N, rO_m, rB_m, ↓rI_m, wI_m, ↓rB2_m, ↓rB3_m, wB2_m, wB3_m, ↓rL_m, wL_m, ↓rQ_m, wQ_m, ↓lI_m, pI_m, pL_m, pR_m, sI_m, sBy_m, sBo_m, sL_m, sQ_m, fst_m, true_and, and_true, tg_some, ln_some, uI_1, uI_2, uL_1, uL_2, uL_3, uQ_1, uQ_2, uQ_3, rv_i, rv_l, rv_n, rv_b0, rv_b1, RMR, ne_eq, reduceCtorEq, not_false_eq_true, Option.getD_some, if_true, if_false, and_self, false_and, and_false, Nat.add_left_cancel_iff, Nat.add_eq_left, Nat.left_eq_add, Nat.one_ne_zero, Nat.reduceAdd, Nat.reduceLT, Nat.reduceLeDiff, Nat.reduceEqDiff, true_implies, false_implies, implies_true, Option.some.injEq, forall_eq', forall_eq, reduceCtorEq, brT, brF, br_s, i_10, i_01, ib_0_2, ib_1_2, tn_0, tn_1, Int32.le_refl, eq_self, rv_bN, rv_iM, RCM 81, RLY, lit_at hw, g_165 hw hτ0 hρ0 hv hr hd, iB_t z, z10, g_154 hw hτ0 hv hd, bC_t hp hv hc, g_156 hd1, mr hρ (by unfold li; omega : li p k c < 2471)]
  exact hQ
theorem m_168z {w : mT} {σ : mS} {tp n : Nat} {t : Nat → Nat} {τ ρ : Rw} {bk : Nat → Rw} {has : Nat → Bool} {im : Nat → Rw} {a : Int32} {D : Nat} {K : Int32 → Hp → Prop} (h : mIn w σ tp t τ ρ n bk has im) (hn1 : bN a 2 ≠ 1) (hD : 2 ≤ D) : wpI D 168 [.ref 81, .int a] (mW w σ) K ↔ K (-2) (mW w (uI σ 81 0 0)) := by
  have M := h
  obtain ⟨hw, hτ, hρ, hv, hr, hp2, htp, htb, htl, hn, hn12, hbk, him⟩ := h
  have M0 := mIn_Z M (frZ_0 (j := 0) (x := 0) (by omega))
  obtain ⟨_, hτ0, hρ0, _, _, hp20, _, htb0, _, hn0, _, hbk0, him0⟩ := M0
  have M0 := mIn_Z M (frZ_0 (j := 0) (x := 0) (by omega))
  refine cI_of (m := 1) (fun d hd Q hQ => ?_) rfl hD
  have z := bN_01.resolve_right hn1
  have e : iB (0 ≤ a.toInt ∧ a.toInt ≤ 1) = bN a 2 := iB_bN (by omega)
  refine b168_0 ?_
  simp only [↓br_pos, ↓br_neg, ↓rF_I, ↓rF_L, ↓rF_R, ↓rF_N, rO_m, rB_m, ↓rI_m, wI_m, ↓rB2_m, ↓rB3_m, wB2_m, wB3_m, ↓rL_m, wL_m, ↓rQ_m, wQ_m, ↓lI_m, pI_m, pL_m, pR_m, sI_m, sBy_m, sBo_m, sL_m, sQ_m, fst_m, true_and, and_true, tg_some, ln_some, uI_1, uI_2, uL_1, uL_2, uL_3, uQ_1, uQ_2, uQ_3, rv_i, rv_l, rv_n, rv_b0, rv_b1, RMR, ne_eq, reduceCtorEq, not_false_eq_true, Option.getD_some, if_true, if_false, and_self, false_and, and_false, Nat.add_left_cancel_iff, Nat.add_eq_left, Nat.left_eq_add, Nat.one_ne_zero, Nat.reduceAdd, Nat.reduceLT, Nat.reduceLeDiff, Nat.reduceEqDiff, true_implies, false_implies, implies_true, Option.some.injEq, forall_eq', forall_eq, reduceCtorEq, brT, brF, br_s, i_10, i_01, ib_0_2, ib_1_2, tn_0, tn_1, Int32.le_refl, eq_self, rv_bN, rv_iM, RCM 81, RLY, lit_at hw, g_129 hd, vin_01, e, z, z00]
  exact hQ
theorem m_168 {w : mT} {σ : mS} {tp n : Nat} {t : Nat → Nat} {τ ρ : Rw} {bk : Nat → Rw} {has : Nat → Bool} {im : Nat → Rw} {m : Nat} {D : Nat} {K : Int32 → Hp → Prop} (h : mIn w σ tp t τ ρ n bk has im) (hm : m < 2) (hD : 2 ≤ D) : wpI D 168 [.ref 81, .int (Int32.ofNat m)] (mW w σ) K ↔ K (Int32.ofNat (ρ (2 + m)) - 1) (mW w (uI σ 81 0 0)) := by
  have M := h
  obtain ⟨hw, hτ, hρ, hv, hr, hp2, htp, htb, htl, hn, hn12, hbk, him⟩ := h
  have M0 := mIn_Z M (frZ_0 (j := 0) (x := 0) (by omega))
  obtain ⟨_, hτ0, hρ0, _, _, hp20, _, htb0, _, hn0, _, hbk0, him0⟩ := M0
  have M0 := mIn_Z M (frZ_0 (j := 0) (x := 0) (by omega))
  refine cI_of (m := 1) (fun d hd Q hQ => ?_) rfl hD
  have c1 : 0 ≤ (Int32.ofNat m).toInt ∧ (Int32.ofNat m).toInt ≤ 1 := by rw [on_int (by omega)]; omega
  refine b168_0 ?_
  simp only [↓br_pos, ↓br_neg, ↓rF_I, ↓rF_L, ↓rF_R, ↓rF_N, rO_m, rB_m, ↓rI_m, wI_m, ↓rB2_m, ↓rB3_m, wB2_m, wB3_m, ↓rL_m, wL_m, ↓rQ_m, wQ_m, ↓lI_m, pI_m, pL_m, pR_m, sI_m, sBy_m, sBo_m, sL_m, sQ_m, fst_m, true_and, and_true, tg_some, ln_some, uI_1, uI_2, uL_1, uL_2, uL_3, uQ_1, uQ_2, uQ_3, rv_i, rv_l, rv_n, rv_b0, rv_b1, RMR, ne_eq, reduceCtorEq, not_false_eq_true, Option.getD_some, if_true, if_false, and_self, false_and, and_false, Nat.add_left_cancel_iff, Nat.add_eq_left, Nat.left_eq_add, Nat.one_ne_zero, Nat.reduceAdd, Nat.reduceLT, Nat.reduceLeDiff, Nat.reduceEqDiff, true_implies, false_implies, implies_true, Option.some.injEq, forall_eq', forall_eq, reduceCtorEq, brT, brF, br_s, i_10, i_01, ib_0_2, ib_1_2, tn_0, tn_1, Int32.le_refl, eq_self, rv_bN, rv_iM, RCM 81, RLY, lit_at hw, ad_2, ad_4, ad_6, ad_8, ad_10, ad_12, ad_16, ad_24, ad_27, ad_28, ad_31, ad_35, ad_43, ad_51, ad_107, ad_131, ad_311, ml_3, ml_6, ml_7, ml_60, ml_100, ml_2471, mq_12, ar_2, ar_3, ar_4, ar_5, ar_6, of_add, of_mul, on_succ, g_129 hd, vin_01, iB_t c1, z10, mr hρ (by omega : 2 + m < 2471)]
  exact hQ
theorem m_169 {w : mT} {σ : mS} {tp n : Nat} {t : Nat → Nat} {τ ρ : Rw} {bk : Nat → Rw} {has : Nat → Bool} {im : Nat → Rw}  {D : Nat} {K : Int32 → Hp → Prop} (h : mIn w σ tp t τ ρ n bk has im) (hD : 1 ≤ D) : wpI D 169 [.ref 81] (mW w σ) K ↔ K (if apaP ρ then Int32.ofNat (dist (cellAt ρ 0) (cellAt ρ 1)) else -2) (mW w (uI σ 81 0 0)) := by
  have M := h
  obtain ⟨hw, hτ, hρ, hv, hr, hp2, htp, htb, htl, hn, hn12, hbk, him⟩ := h
  have M0 := mIn_Z M (frZ_0 (j := 0) (x := 0) (by omega))
  obtain ⟨_, hτ0, hρ0, _, _, hp20, _, htb0, _, hn0, _, hbk0, him0⟩ := M0
  have M0 := mIn_Z M (frZ_0 (j := 0) (x := 0) (by omega))
  refine cI_of (m := 0) (fun d hd Q hQ => ?_) rfl hD
  have s0 : ρ 2 < 1000 := onP_lt hv (vR_on hr (by omega : 0 < 2))
  have s1 : ρ 3 < 1000 := onP_lt hv (vR_on hr (by omega : 1 < 2))
  refine b169_0 ?_
  by_cases z0 : ρ 2 = 0
  · rw [if_neg (fun q : apaP ρ => q.1 z0)] at hQ
    have c0 : (Int32.ofNat (ρ 2) - 1 < 0) ↔ True := by rw [z0]; decide
    simp only [↓br_pos, ↓br_neg, ↓rF_I, ↓rF_L, ↓rF_R, ↓rF_N, rO_m, rB_m, ↓rI_m, wI_m, ↓rB2_m, ↓rB3_m, wB2_m, wB3_m, ↓rL_m, wL_m, ↓rQ_m, wQ_m, ↓lI_m, pI_m, pL_m, pR_m, sI_m, sBy_m, sBo_m, sL_m, sQ_m, fst_m, true_and, and_true, tg_some, ln_some, uI_1, uI_2, uL_1, uL_2, uL_3, uQ_1, uQ_2, uQ_3, rv_i, rv_l, rv_n, rv_b0, rv_b1, RMR, ne_eq, reduceCtorEq, not_false_eq_true, Option.getD_some, if_true, if_false, and_self, false_and, and_false, Nat.add_left_cancel_iff, Nat.add_eq_left, Nat.left_eq_add, Nat.one_ne_zero, Nat.reduceAdd, Nat.reduceLT, Nat.reduceLeDiff, Nat.reduceEqDiff, true_implies, false_implies, implies_true, Option.some.injEq, forall_eq', forall_eq, reduceCtorEq, brT, brF, br_s, i_10, i_01, ib_0_2, ib_1_2, tn_0, tn_1, Int32.le_refl, eq_self, rv_bN, rv_iM, RCM 81, RLY, lit_at hw, mr_2l hρ, mr_3l hρ, c0]
    exact hQ
  · have c0 : (Int32.ofNat (ρ 2 - 1) < 0) ↔ False := iff_false_intro (fun q => absurd ((on_lt (j := 0) (by omega) (by omega)).mp q) (by omega))
    by_cases z1 : ρ 3 = 0
    · rw [if_neg (fun q : apaP ρ => q.2.1 z1)] at hQ
      have c1 : (Int32.ofNat (ρ 3) - 1 < 0) ↔ True := by rw [z1]; decide
      simp only [↓br_pos, ↓br_neg, ↓rF_I, ↓rF_L, ↓rF_R, ↓rF_N, rO_m, rB_m, ↓rI_m, wI_m, ↓rB2_m, ↓rB3_m, wB2_m, wB3_m, ↓rL_m, wL_m, ↓rQ_m, wQ_m, ↓lI_m, pI_m, pL_m, pR_m, sI_m, sBy_m, sBo_m, sL_m, sQ_m, fst_m, true_and, and_true, tg_some, ln_some, uI_1, uI_2, uL_1, uL_2, uL_3, uQ_1, uQ_2, uQ_3, rv_i, rv_l, rv_n, rv_b0, rv_b1, RMR, ne_eq, reduceCtorEq, not_false_eq_true, Option.getD_some, if_true, if_false, and_self, false_and, and_false, Nat.add_left_cancel_iff, Nat.add_eq_left, Nat.left_eq_add, Nat.one_ne_zero, Nat.reduceAdd, Nat.reduceLT, Nat.reduceLeDiff, Nat.reduceEqDiff, true_implies, false_implies, implies_true, Option.some.injEq, forall_eq', forall_eq, reduceCtorEq, brT, brF, br_s, i_10, i_01, ib_0_2, ib_1_2, tn_0, tn_1, Int32.le_refl, eq_self, rv_bN, rv_iM, RCM 81, RLY, lit_at hw, mr_2l hρ, mr_3l hρ, on_pred (by omega : 0 < ρ 2), c0, c1]
      exact hQ
    · have c1 : (Int32.ofNat (ρ 3 - 1) < 0) ↔ False := iff_false_intro (fun q => absurd ((on_lt (j := 0) (by omega) (by omega)).mp q) (by omega))
      have ci := of_inj (a := (ρ 2 - 1) / 100) (b := (ρ 3 - 1) / 100) (by omega) (by omega)
      by_cases y : (ρ 2 - 1) / 100 = (ρ 3 - 1) / 100
      · rw [if_pos (show apaP ρ from ⟨z0, z1, y⟩)] at hQ
        have e : dist (ρ 2 - 1) (ρ 3 - 1) = dist (cellAt ρ 0) (cellAt ρ 1) := by
          show dist (ρ 2 - 1) (ρ 3 - 1) = dist ((ρ 2 - 1) % 100) ((ρ 3 - 1) % 100)
          unfold dist
          omega
        have c2 := iff_true_intro (ci.mpr y)
        rw [← e] at hQ
        simp only [↓br_pos, ↓br_neg, ↓rF_I, ↓rF_L, ↓rF_R, ↓rF_N, rO_m, rB_m, ↓rI_m, wI_m, ↓rB2_m, ↓rB3_m, wB2_m, wB3_m, ↓rL_m, wL_m, ↓rQ_m, wQ_m, ↓lI_m, pI_m, pL_m, pR_m, sI_m, sBy_m, sBo_m, sL_m, sQ_m, fst_m, true_and, and_true, tg_some, ln_some, uI_1, uI_2, uL_1, uL_2, uL_3, uQ_1, uQ_2, uQ_3, rv_i, rv_l, rv_n, rv_b0, rv_b1, RMR, ne_eq, reduceCtorEq, not_false_eq_true, Option.getD_some, if_true, if_false, and_self, false_and, and_false, Nat.add_left_cancel_iff, Nat.add_eq_left, Nat.left_eq_add, Nat.one_ne_zero, Nat.reduceAdd, Nat.reduceLT, Nat.reduceLeDiff, Nat.reduceEqDiff, true_implies, false_implies, implies_true, Option.some.injEq, forall_eq', forall_eq, reduceCtorEq, brT, brF, br_s, i_10, i_01, ib_0_2, ib_1_2, tn_0, tn_1, Int32.le_refl, eq_self, rv_bN, rv_iM, RCM 81, RLY, lit_at hw, mr_2l hρ, mr_3l hρ, on_pred (by omega : 0 < ρ 2), on_pred (by omega : 0 < ρ 3), c0, c1, h0_c, of_div (by omega : ρ 2 - 1 < 2147483648), of_div (by omega : ρ 3 - 1 < 2147483648), c2, abs_of (by omega : ρ 2 - 1 < 2147483648) (by omega : ρ 3 - 1 < 2147483648)]
        exact hQ
      · rw [if_neg (fun q : apaP ρ => y q.2.2)] at hQ
        have c2 := iff_false_intro (fun q => y (ci.mp q))
        simp only [↓br_pos, ↓br_neg, ↓rF_I, ↓rF_L, ↓rF_R, ↓rF_N, rO_m, rB_m, ↓rI_m, wI_m, ↓rB2_m, ↓rB3_m, wB2_m, wB3_m, ↓rL_m, wL_m, ↓rQ_m, wQ_m, ↓lI_m, pI_m, pL_m, pR_m, sI_m, sBy_m, sBo_m, sL_m, sQ_m, fst_m, true_and, and_true, tg_some, ln_some, uI_1, uI_2, uL_1, uL_2, uL_3, uQ_1, uQ_2, uQ_3, rv_i, rv_l, rv_n, rv_b0, rv_b1, RMR, ne_eq, reduceCtorEq, not_false_eq_true, Option.getD_some, if_true, if_false, and_self, false_and, and_false, Nat.add_left_cancel_iff, Nat.add_eq_left, Nat.left_eq_add, Nat.one_ne_zero, Nat.reduceAdd, Nat.reduceLT, Nat.reduceLeDiff, Nat.reduceEqDiff, true_implies, false_implies, implies_true, Option.some.injEq, forall_eq', forall_eq, reduceCtorEq, brT, brF, br_s, i_10, i_01, ib_0_2, ib_1_2, tn_0, tn_1, Int32.le_refl, eq_self, rv_bN, rv_iM, RCM 81, RLY, lit_at hw, mr_2l hρ, mr_3l hρ, on_pred (by omega : 0 < ρ 2), on_pred (by omega : 0 < ρ 3), c0, c1, h0_c, of_div (by omega : ρ 2 - 1 < 2147483648), of_div (by omega : ρ 3 - 1 < 2147483648), c2]
        exact hQ
end
section
/-! the model's calls: count, layer, ifLaid -/
theorem lp_161a {w : mT} {σ : mS} {τ ρ : Rw} {d : Nat} {a : Int32} {Q : Option (Option Value) → Hp → Prop} (hw : lit w) (hτ : mTold σ τ) (hρ : mRow σ 85 0 ρ) (hv : vTold τ) (hr : vRow τ ρ) (hQ : Q (some (some (.int (Int32.ofNat (sailN τ ρ))))) (mW w σ)) : ∀ (r i : Nat), i + r = τ 2 → Wp 161 129 [.ref 81, .int a, .int (Int32.ofNat (sm i (fun s => if ρ (43 + s) = 0 then 0 else 1))), .int (Int32.ofNat i)] [] (mW w σ) Q d := by
  have v2 := hv.2.2.1
  intro r
  induction r with
  | zero =>
    intro i hi
    have hi' : i = τ 2 := by omega
    subst hi'
    refine b161_129 ?_
    simp only [↓br_pos, ↓br_neg, ↓rF_I, ↓rF_L, ↓rF_R, ↓rF_N, rO_m, rB_m, ↓rI_m, wI_m, ↓rB2_m, ↓rB3_m, wB2_m, wB3_m, ↓rL_m, wL_m, ↓rQ_m, wQ_m, ↓lI_m, pI_m, pL_m, pR_m, sI_m, sBy_m, sBo_m, sL_m, sQ_m, fst_m, true_and, and_true, tg_some, ln_some, uI_1, uI_2, uL_1, uL_2, uL_3, uQ_1, uQ_2, uQ_3, rv_i, rv_l, rv_n, rv_b0, rv_b1, RMR, ne_eq, reduceCtorEq, not_false_eq_true, Option.getD_some, if_true, if_false, and_self, false_and, and_false, Nat.add_left_cancel_iff, Nat.add_eq_left, Nat.left_eq_add, Nat.one_ne_zero, Nat.reduceAdd, Nat.reduceLT, Nat.reduceLeDiff, Nat.reduceEqDiff, true_implies, false_implies, implies_true, Option.some.injEq, forall_eq', forall_eq, reduceCtorEq, brT, brF, br_s, i_10, i_01, ib_0_2, ib_1_2, tn_0, tn_1, Int32.le_refl, eq_self, rv_bN, rv_iM, RCM 81, RLY, lit_at hw, mt_2 hτ, Int32.le_refl]
    exact hQ
  | succ r ih =>
    intro i hi
    have l1 : (Int32.ofNat (τ 2) ≤ Int32.ofNat i) ↔ False := iff_false_intro (fun q => absurd ((on_le (by omega) (by omega)).mp q) (by omega))
    have rs := vR_sa hr i (by omega)
    have nx := ih (i + 1) (by omega)
    rw [sm_s] at nx
    refine b161_129 ?_
    by_cases z : ρ (43 + i) = 0
    · rw [if_pos z, Nat.add_zero] at nx
      have c : (Int32.ofNat (ρ (43 + i)) ≤ 0) ↔ True := iff_true_intro ((of_le0 (by omega)).mpr z)
      simp only [↓br_pos, ↓br_neg, ↓rF_I, ↓rF_L, ↓rF_R, ↓rF_N, rO_m, rB_m, ↓rI_m, wI_m, ↓rB2_m, ↓rB3_m, wB2_m, wB3_m, ↓rL_m, wL_m, ↓rQ_m, wQ_m, ↓lI_m, pI_m, pL_m, pR_m, sI_m, sBy_m, sBo_m, sL_m, sQ_m, fst_m, true_and, and_true, tg_some, ln_some, uI_1, uI_2, uL_1, uL_2, uL_3, uQ_1, uQ_2, uQ_3, rv_i, rv_l, rv_n, rv_b0, rv_b1, RMR, ne_eq, reduceCtorEq, not_false_eq_true, Option.getD_some, if_true, if_false, and_self, false_and, and_false, Nat.add_left_cancel_iff, Nat.add_eq_left, Nat.left_eq_add, Nat.one_ne_zero, Nat.reduceAdd, Nat.reduceLT, Nat.reduceLeDiff, Nat.reduceEqDiff, true_implies, false_implies, implies_true, Option.some.injEq, forall_eq', forall_eq, reduceCtorEq, brT, brF, br_s, i_10, i_01, ib_0_2, ib_1_2, tn_0, tn_1, Int32.le_refl, eq_self, rv_bN, rv_iM, RCM 81, RLY, lit_at hw, ad_2, ad_4, ad_6, ad_8, ad_10, ad_12, ad_16, ad_24, ad_27, ad_28, ad_31, ad_35, ad_43, ad_51, ad_107, ad_131, ad_311, ml_3, ml_6, ml_7, ml_60, ml_100, ml_2471, mq_12, ar_2, ar_3, ar_4, ar_5, ar_6, of_add, of_mul, on_succ, mt_2 hτ, l1, mr hρ (by omega : 43 + i < 2471), c, Int32.add_zero]
      exact nx
    · rw [if_neg z] at nx
      have c : (Int32.ofNat (ρ (43 + i)) ≤ 0) ↔ False := iff_false_intro (fun q => z ((of_le0 (by omega)).mp q))
      simp only [↓br_pos, ↓br_neg, ↓rF_I, ↓rF_L, ↓rF_R, ↓rF_N, rO_m, rB_m, ↓rI_m, wI_m, ↓rB2_m, ↓rB3_m, wB2_m, wB3_m, ↓rL_m, wL_m, ↓rQ_m, wQ_m, ↓lI_m, pI_m, pL_m, pR_m, sI_m, sBy_m, sBo_m, sL_m, sQ_m, fst_m, true_and, and_true, tg_some, ln_some, uI_1, uI_2, uL_1, uL_2, uL_3, uQ_1, uQ_2, uQ_3, rv_i, rv_l, rv_n, rv_b0, rv_b1, RMR, ne_eq, reduceCtorEq, not_false_eq_true, Option.getD_some, if_true, if_false, and_self, false_and, and_false, Nat.add_left_cancel_iff, Nat.add_eq_left, Nat.left_eq_add, Nat.one_ne_zero, Nat.reduceAdd, Nat.reduceLT, Nat.reduceLeDiff, Nat.reduceEqDiff, true_implies, false_implies, implies_true, Option.some.injEq, forall_eq', forall_eq, reduceCtorEq, brT, brF, br_s, i_10, i_01, ib_0_2, ib_1_2, tn_0, tn_1, Int32.le_refl, eq_self, rv_bN, rv_iM, RCM 81, RLY, lit_at hw, ad_2, ad_4, ad_6, ad_8, ad_10, ad_12, ad_16, ad_24, ad_27, ad_28, ad_31, ad_35, ad_43, ad_51, ad_107, ad_131, ad_311, ml_3, ml_6, ml_7, ml_60, ml_100, ml_2471, mq_12, ar_2, ar_3, ar_4, ar_5, ar_6, of_add, of_mul, on_succ, mt_2 hτ, l1, mr hρ (by omega : 43 + i < 2471), c]
      exact nx
theorem lp_161b {w : mT} {σ : mS} {τ ρ : Rw} {d : Nat} {a : Int32} {Q : Option (Option Value) → Hp → Prop} (hw : lit w) (hτ : mTold σ τ) (hρ : mRow σ 85 0 ρ) (hv : vTold τ) (hr : vRow τ ρ) (hd : 2 ≤ d) (hQ : Q (some (some (.int (Int32.ofNat (lateN τ ρ))))) (mW w σ)) : ∀ (r i : Nat), i + r = τ 2 → Wp 161 221 [.ref 81, .int a, .int (Int32.ofNat (sm i (fun s => if lateD τ ρ s = 0 then 0 else 1))), .int (Int32.ofNat i)] [] (mW w σ) Q d := by
  have v2 := hv.2.2.1
  intro r
  induction r with
  | zero =>
    intro i hi
    have hi' : i = τ 2 := by omega
    subst hi'
    refine b161_221 ?_
    simp only [↓br_pos, ↓br_neg, ↓rF_I, ↓rF_L, ↓rF_R, ↓rF_N, rO_m, rB_m, ↓rI_m, wI_m, ↓rB2_m, ↓rB3_m, wB2_m, wB3_m, ↓rL_m, wL_m, ↓rQ_m, wQ_m, ↓lI_m, pI_m, pL_m, pR_m, sI_m, sBy_m, sBo_m, sL_m, sQ_m, fst_m, true_and, and_true, tg_some, ln_some, uI_1, uI_2, uL_1, uL_2, uL_3, uQ_1, uQ_2, uQ_3, rv_i, rv_l, rv_n, rv_b0, rv_b1, RMR, ne_eq, reduceCtorEq, not_false_eq_true, Option.getD_some, if_true, if_false, and_self, false_and, and_false, Nat.add_left_cancel_iff, Nat.add_eq_left, Nat.left_eq_add, Nat.one_ne_zero, Nat.reduceAdd, Nat.reduceLT, Nat.reduceLeDiff, Nat.reduceEqDiff, true_implies, false_implies, implies_true, Option.some.injEq, forall_eq', forall_eq, reduceCtorEq, brT, brF, br_s, i_10, i_01, ib_0_2, ib_1_2, tn_0, tn_1, Int32.le_refl, eq_self, rv_bN, rv_iM, RCM 81, RLY, lit_at hw, mt_2 hτ, Int32.le_refl]
    exact hQ
  | succ r ih =>
    intro i hi
    have l1 : (Int32.ofNat (τ 2) ≤ Int32.ofNat i) ↔ False := iff_false_intro (fun q => absurd ((on_le (by omega) (by omega)).mp q) (by omega))
    have rs := vR_sa hr i (by omega)
    have r0 := vR_day hr
    have lb : lateD τ ρ i ≤ 1000 := by unfold lateD; split <;> omega
    have nx := ih (i + 1) (by omega)
    rw [sm_s] at nx
    refine b161_221 ?_
    by_cases z : lateD τ ρ i = 0
    · rw [if_pos z, Nat.add_zero] at nx
      have c : (Int32.ofNat (lateD τ ρ i) ≤ 0) ↔ True := iff_true_intro ((of_le0 (by omega)).mpr z)
      simp only [↓br_pos, ↓br_neg, ↓rF_I, ↓rF_L, ↓rF_R, ↓rF_N, rO_m, rB_m, ↓rI_m, wI_m, ↓rB2_m, ↓rB3_m, wB2_m, wB3_m, ↓rL_m, wL_m, ↓rQ_m, wQ_m, ↓lI_m, pI_m, pL_m, pR_m, sI_m, sBy_m, sBo_m, sL_m, sQ_m, fst_m, true_and, and_true, tg_some, ln_some, uI_1, uI_2, uL_1, uL_2, uL_3, uQ_1, uQ_2, uQ_3, rv_i, rv_l, rv_n, rv_b0, rv_b1, RMR, ne_eq, reduceCtorEq, not_false_eq_true, Option.getD_some, if_true, if_false, and_self, false_and, and_false, Nat.add_left_cancel_iff, Nat.add_eq_left, Nat.left_eq_add, Nat.one_ne_zero, Nat.reduceAdd, Nat.reduceLT, Nat.reduceLeDiff, Nat.reduceEqDiff, true_implies, false_implies, implies_true, Option.some.injEq, forall_eq', forall_eq, reduceCtorEq, brT, brF, br_s, i_10, i_01, ib_0_2, ib_1_2, tn_0, tn_1, Int32.le_refl, eq_self, rv_bN, rv_iM, RCM 81, RLY, lit_at hw, mt_2 hτ, l1, g_160 hw hτ hρ hv hr (by omega : i < τ 2) hd, c, Int32.add_zero, on_succ]
      exact nx
    · rw [if_neg z] at nx
      have c : (Int32.ofNat (lateD τ ρ i) ≤ 0) ↔ False := iff_false_intro (fun q => z ((of_le0 (by omega)).mp q))
      simp only [↓br_pos, ↓br_neg, ↓rF_I, ↓rF_L, ↓rF_R, ↓rF_N, rO_m, rB_m, ↓rI_m, wI_m, ↓rB2_m, ↓rB3_m, wB2_m, wB3_m, ↓rL_m, wL_m, ↓rQ_m, wQ_m, ↓lI_m, pI_m, pL_m, pR_m, sI_m, sBy_m, sBo_m, sL_m, sQ_m, fst_m, true_and, and_true, tg_some, ln_some, uI_1, uI_2, uL_1, uL_2, uL_3, uQ_1, uQ_2, uQ_3, rv_i, rv_l, rv_n, rv_b0, rv_b1, RMR, ne_eq, reduceCtorEq, not_false_eq_true, Option.getD_some, if_true, if_false, and_self, false_and, and_false, Nat.add_left_cancel_iff, Nat.add_eq_left, Nat.left_eq_add, Nat.one_ne_zero, Nat.reduceAdd, Nat.reduceLT, Nat.reduceLeDiff, Nat.reduceEqDiff, true_implies, false_implies, implies_true, Option.some.injEq, forall_eq', forall_eq, reduceCtorEq, brT, brF, br_s, i_10, i_01, ib_0_2, ib_1_2, tn_0, tn_1, Int32.le_refl, eq_self, rv_bN, rv_iM, RCM 81, RLY, lit_at hw, mt_2 hτ, l1, g_160 hw hτ hρ hv hr (by omega : i < τ 2) hd, c, on_succ]
      exact nx
theorem m_161 {w : mT} {σ : mS} {tp n : Nat} {t : Nat → Nat} {τ ρ : Rw} {bk : Nat → Rw} {has : Nat → Bool} {im : Nat → Rw} {a : Int32} {D : Nat} {K : Int32 → Hp → Prop} (h : mIn w σ tp t τ ρ n bk has im) (hD : 3 ≤ D) : wpI D 161 [.ref 81, .int a] (mW w σ) K ↔ K (cntV τ ρ n has tp a.toInt) (mW w (uI σ 81 0 0)) := by
  have M := h
  obtain ⟨hw, hτ, hρ, hv, hr, hp2, htp, htb, htl, hn, hn12, hbk, him⟩ := h
  have M0 := mIn_Z M (frZ_0 (j := 0) (x := 0) (by omega))
  obtain ⟨_, hτ0, hρ0, _, _, hp20, _, htb0, _, hn0, _, hbk0, him0⟩ := M0
  have M0 := mIn_Z M (frZ_0 (j := 0) (x := 0) (by omega))
  refine cI_of (m := 2) (fun d hd Q hQ => ?_) rfl hD
  have k0 := (him 0 (by omega)).1
  have k1 := (him 1 (by omega)).1
  refine b161_0 ?_
  simp only [↓br_pos, ↓br_neg, ↓rF_I, ↓rF_L, ↓rF_R, ↓rF_N, rO_m, rB_m, ↓rI_m, wI_m, ↓rB2_m, ↓rB3_m, wB2_m, wB3_m, ↓rL_m, wL_m, ↓rQ_m, wQ_m, ↓lI_m, pI_m, pL_m, pR_m, sI_m, sBy_m, sBo_m, sL_m, sQ_m, fst_m, true_and, and_true, tg_some, ln_some, uI_1, uI_2, uL_1, uL_2, uL_3, uQ_1, uQ_2, uQ_3, rv_i, rv_l, rv_n, rv_b0, rv_b1, RMR, ne_eq, reduceCtorEq, not_false_eq_true, Option.getD_some, if_true, if_false, and_self, false_and, and_false, Nat.add_left_cancel_iff, Nat.add_eq_left, Nat.left_eq_add, Nat.one_ne_zero, Nat.reduceAdd, Nat.reduceLT, Nat.reduceLeDiff, Nat.reduceEqDiff, true_implies, false_implies, implies_true, Option.some.injEq, forall_eq', forall_eq, reduceCtorEq, brT, brF, br_s, i_10, i_01, ib_0_2, ib_1_2, tn_0, tn_1, Int32.le_refl, eq_self, rv_bN, rv_iM, RCM 81, RLY, lit_at hw]
  refine sw161
    (fun e => by
      rw [show cntV τ ρ n has tp a.toInt = Int32.ofNat (τ 0) from by rw [e]; rfl] at hQ
      refine b161_92 ?_
      simp only [↓br_pos, ↓br_neg, ↓rF_I, ↓rF_L, ↓rF_R, ↓rF_N, rO_m, rB_m, ↓rI_m, wI_m, ↓rB2_m, ↓rB3_m, wB2_m, wB3_m, ↓rL_m, wL_m, ↓rQ_m, wQ_m, ↓lI_m, pI_m, pL_m, pR_m, sI_m, sBy_m, sBo_m, sL_m, sQ_m, fst_m, true_and, and_true, tg_some, ln_some, uI_1, uI_2, uL_1, uL_2, uL_3, uQ_1, uQ_2, uQ_3, rv_i, rv_l, rv_n, rv_b0, rv_b1, RMR, ne_eq, reduceCtorEq, not_false_eq_true, Option.getD_some, if_true, if_false, and_self, false_and, and_false, Nat.add_left_cancel_iff, Nat.add_eq_left, Nat.left_eq_add, Nat.one_ne_zero, Nat.reduceAdd, Nat.reduceLT, Nat.reduceLeDiff, Nat.reduceEqDiff, true_implies, false_implies, implies_true, Option.some.injEq, forall_eq', forall_eq, reduceCtorEq, brT, brF, br_s, i_10, i_01, ib_0_2, ib_1_2, tn_0, tn_1, Int32.le_refl, eq_self, rv_bN, rv_iM, RCM 81, RLY, lit_at hw, mt_0 hτ]
      exact hQ)
    (fun e => by
      rw [show cntV τ ρ n has tp a.toInt = Int32.ofNat (τ 1) from by rw [e]; rfl] at hQ
      refine b161_99 ?_
      simp only [↓br_pos, ↓br_neg, ↓rF_I, ↓rF_L, ↓rF_R, ↓rF_N, rO_m, rB_m, ↓rI_m, wI_m, ↓rB2_m, ↓rB3_m, wB2_m, wB3_m, ↓rL_m, wL_m, ↓rQ_m, wQ_m, ↓lI_m, pI_m, pL_m, pR_m, sI_m, sBy_m, sBo_m, sL_m, sQ_m, fst_m, true_and, and_true, tg_some, ln_some, uI_1, uI_2, uL_1, uL_2, uL_3, uQ_1, uQ_2, uQ_3, rv_i, rv_l, rv_n, rv_b0, rv_b1, RMR, ne_eq, reduceCtorEq, not_false_eq_true, Option.getD_some, if_true, if_false, and_self, false_and, and_false, Nat.add_left_cancel_iff, Nat.add_eq_left, Nat.left_eq_add, Nat.one_ne_zero, Nat.reduceAdd, Nat.reduceLT, Nat.reduceLeDiff, Nat.reduceEqDiff, true_implies, false_implies, implies_true, Option.some.injEq, forall_eq', forall_eq, reduceCtorEq, brT, brF, br_s, i_10, i_01, ib_0_2, ib_1_2, tn_0, tn_1, Int32.le_refl, eq_self, rv_bN, rv_iM, RCM 81, RLY, lit_at hw, mt_1 hτ]
      exact hQ)
    (fun e => by
      rw [show cntV τ ρ n has tp a.toInt = Int32.ofNat (τ 2) from by rw [e]; rfl] at hQ
      refine b161_106 ?_
      simp only [↓br_pos, ↓br_neg, ↓rF_I, ↓rF_L, ↓rF_R, ↓rF_N, rO_m, rB_m, ↓rI_m, wI_m, ↓rB2_m, ↓rB3_m, wB2_m, wB3_m, ↓rL_m, wL_m, ↓rQ_m, wQ_m, ↓lI_m, pI_m, pL_m, pR_m, sI_m, sBy_m, sBo_m, sL_m, sQ_m, fst_m, true_and, and_true, tg_some, ln_some, uI_1, uI_2, uL_1, uL_2, uL_3, uQ_1, uQ_2, uQ_3, rv_i, rv_l, rv_n, rv_b0, rv_b1, RMR, ne_eq, reduceCtorEq, not_false_eq_true, Option.getD_some, if_true, if_false, and_self, false_and, and_false, Nat.add_left_cancel_iff, Nat.add_eq_left, Nat.left_eq_add, Nat.one_ne_zero, Nat.reduceAdd, Nat.reduceLT, Nat.reduceLeDiff, Nat.reduceEqDiff, true_implies, false_implies, implies_true, Option.some.injEq, forall_eq', forall_eq, reduceCtorEq, brT, brF, br_s, i_10, i_01, ib_0_2, ib_1_2, tn_0, tn_1, Int32.le_refl, eq_self, rv_bN, rv_iM, RCM 81, RLY, lit_at hw, mt_2 hτ]
      exact hQ)
    (fun e => by
      rw [show cntV τ ρ n has tp a.toInt = Int32.ofNat (τ 3) from by rw [e]; rfl] at hQ
      refine b161_113 ?_
      simp only [↓br_pos, ↓br_neg, ↓rF_I, ↓rF_L, ↓rF_R, ↓rF_N, rO_m, rB_m, ↓rI_m, wI_m, ↓rB2_m, ↓rB3_m, wB2_m, wB3_m, ↓rL_m, wL_m, ↓rQ_m, wQ_m, ↓lI_m, pI_m, pL_m, pR_m, sI_m, sBy_m, sBo_m, sL_m, sQ_m, fst_m, true_and, and_true, tg_some, ln_some, uI_1, uI_2, uL_1, uL_2, uL_3, uQ_1, uQ_2, uQ_3, rv_i, rv_l, rv_n, rv_b0, rv_b1, RMR, ne_eq, reduceCtorEq, not_false_eq_true, Option.getD_some, if_true, if_false, and_self, false_and, and_false, Nat.add_left_cancel_iff, Nat.add_eq_left, Nat.left_eq_add, Nat.one_ne_zero, Nat.reduceAdd, Nat.reduceLT, Nat.reduceLeDiff, Nat.reduceEqDiff, true_implies, false_implies, implies_true, Option.some.injEq, forall_eq', forall_eq, reduceCtorEq, brT, brF, br_s, i_10, i_01, ib_0_2, ib_1_2, tn_0, tn_1, Int32.le_refl, eq_self, rv_bN, rv_iM, RCM 81, RLY, lit_at hw, mt_3 hτ]
      exact hQ)
    (fun e => by
      rw [show cntV τ ρ n has tp a.toInt = Int32.ofNat (ρ 0) from by rw [e]; rfl] at hQ
      refine b161_120 ?_
      simp only [↓br_pos, ↓br_neg, ↓rF_I, ↓rF_L, ↓rF_R, ↓rF_N, rO_m, rB_m, ↓rI_m, wI_m, ↓rB2_m, ↓rB3_m, wB2_m, wB3_m, ↓rL_m, wL_m, ↓rQ_m, wQ_m, ↓lI_m, pI_m, pL_m, pR_m, sI_m, sBy_m, sBo_m, sL_m, sQ_m, fst_m, true_and, and_true, tg_some, ln_some, uI_1, uI_2, uL_1, uL_2, uL_3, uQ_1, uQ_2, uQ_3, rv_i, rv_l, rv_n, rv_b0, rv_b1, RMR, ne_eq, reduceCtorEq, not_false_eq_true, Option.getD_some, if_true, if_false, and_self, false_and, and_false, Nat.add_left_cancel_iff, Nat.add_eq_left, Nat.left_eq_add, Nat.one_ne_zero, Nat.reduceAdd, Nat.reduceLT, Nat.reduceLeDiff, Nat.reduceEqDiff, true_implies, false_implies, implies_true, Option.some.injEq, forall_eq', forall_eq, reduceCtorEq, brT, brF, br_s, i_10, i_01, ib_0_2, ib_1_2, tn_0, tn_1, Int32.le_refl, eq_self, rv_bN, rv_iM, RCM 81, RLY, lit_at hw, mr_0l hρ]
      exact hQ)
    (fun e => by
      rw [show cntV τ ρ n has tp a.toInt = Int32.ofNat (sailN τ ρ) from by rw [e]; rfl] at hQ
      refine b161_127 ?_
      exact lp_161a hw hτ0 hρ0 hv hr hQ (τ 2) 0 (by omega))
    (fun e => by
      rw [show cntV τ ρ n has tp a.toInt = Int32.ofNat (ρ 4) from by rw [e]; rfl] at hQ
      refine b161_167 ?_
      have ea : a = Int32.ofNat 6 := i32_of e (by omega)
      subst ea
      have e1 : (4 : Int32) + Int32.ofNat 6 - 6 = 4 := by decide
      simp only [↓br_pos, ↓br_neg, ↓rF_I, ↓rF_L, ↓rF_R, ↓rF_N, rO_m, rB_m, ↓rI_m, wI_m, ↓rB2_m, ↓rB3_m, wB2_m, wB3_m, ↓rL_m, wL_m, ↓rQ_m, wQ_m, ↓lI_m, pI_m, pL_m, pR_m, sI_m, sBy_m, sBo_m, sL_m, sQ_m, fst_m, true_and, and_true, tg_some, ln_some, uI_1, uI_2, uL_1, uL_2, uL_3, uQ_1, uQ_2, uQ_3, rv_i, rv_l, rv_n, rv_b0, rv_b1, RMR, ne_eq, reduceCtorEq, not_false_eq_true, Option.getD_some, if_true, if_false, and_self, false_and, and_false, Nat.add_left_cancel_iff, Nat.add_eq_left, Nat.left_eq_add, Nat.one_ne_zero, Nat.reduceAdd, Nat.reduceLT, Nat.reduceLeDiff, Nat.reduceEqDiff, true_implies, false_implies, implies_true, Option.some.injEq, forall_eq', forall_eq, reduceCtorEq, brT, brF, br_s, i_10, i_01, ib_0_2, ib_1_2, tn_0, tn_1, Int32.le_refl, eq_self, rv_bN, rv_iM, RCM 81, RLY, lit_at hw, e1, mr_4l hρ]
      exact hQ)
    (fun e => by
      rw [show cntV τ ρ n has tp a.toInt = Int32.ofNat (ρ 5) from by rw [e]; rfl] at hQ
      refine b161_167 ?_
      have ea : a = Int32.ofNat 7 := i32_of e (by omega)
      subst ea
      have e1 : (4 : Int32) + Int32.ofNat 7 - 6 = 5 := by decide
      simp only [↓br_pos, ↓br_neg, ↓rF_I, ↓rF_L, ↓rF_R, ↓rF_N, rO_m, rB_m, ↓rI_m, wI_m, ↓rB2_m, ↓rB3_m, wB2_m, wB3_m, ↓rL_m, wL_m, ↓rQ_m, wQ_m, ↓lI_m, pI_m, pL_m, pR_m, sI_m, sBy_m, sBo_m, sL_m, sQ_m, fst_m, true_and, and_true, tg_some, ln_some, uI_1, uI_2, uL_1, uL_2, uL_3, uQ_1, uQ_2, uQ_3, rv_i, rv_l, rv_n, rv_b0, rv_b1, RMR, ne_eq, reduceCtorEq, not_false_eq_true, Option.getD_some, if_true, if_false, and_self, false_and, and_false, Nat.add_left_cancel_iff, Nat.add_eq_left, Nat.left_eq_add, Nat.one_ne_zero, Nat.reduceAdd, Nat.reduceLT, Nat.reduceLeDiff, Nat.reduceEqDiff, true_implies, false_implies, implies_true, Option.some.injEq, forall_eq', forall_eq, reduceCtorEq, brT, brF, br_s, i_10, i_01, ib_0_2, ib_1_2, tn_0, tn_1, Int32.le_refl, eq_self, rv_bN, rv_iM, RCM 81, RLY, lit_at hw, e1, mr_5l hρ]
      exact hQ)
    (fun e => by
      rw [show cntV τ ρ n has tp a.toInt = Int32.ofNat n from by rw [e]; rfl] at hQ
      refine b161_179 ?_
      simp only [↓br_pos, ↓br_neg, ↓rF_I, ↓rF_L, ↓rF_R, ↓rF_N, rO_m, rB_m, ↓rI_m, wI_m, ↓rB2_m, ↓rB3_m, wB2_m, wB3_m, ↓rL_m, wL_m, ↓rQ_m, wQ_m, ↓lI_m, pI_m, pL_m, pR_m, sI_m, sBy_m, sBo_m, sL_m, sQ_m, fst_m, true_and, and_true, tg_some, ln_some, uI_1, uI_2, uL_1, uL_2, uL_3, uQ_1, uQ_2, uQ_3, rv_i, rv_l, rv_n, rv_b0, rv_b1, RMR, ne_eq, reduceCtorEq, not_false_eq_true, Option.getD_some, if_true, if_false, and_self, false_and, and_false, Nat.add_left_cancel_iff, Nat.add_eq_left, Nat.left_eq_add, Nat.one_ne_zero, Nat.reduceAdd, Nat.reduceLT, Nat.reduceLeDiff, Nat.reduceEqDiff, true_implies, false_implies, implies_true, Option.some.injEq, forall_eq', forall_eq, reduceCtorEq, brT, brF, br_s, i_10, i_01, ib_0_2, ib_1_2, tn_0, tn_1, Int32.le_refl, eq_self, rv_bN, rv_iM, RCM 81, RLY, lit_at hw, hn]
      exact hQ)
    (fun e => by
      rw [show cntV τ ρ n has tp a.toInt = Int32.ofNat ((if has 0 = true then 1 else 0) + (if has 1 = true then 1 else 0)) from by rw [e]; rfl] at hQ
      refine b161_184 ?_
      have x00 : (0 : Int32) + 0 = Int32.ofNat 0 := rfl
      have x01 : (0 : Int32) + 1 = Int32.ofNat 1 := rfl
      have x10 : (1 : Int32) + 0 = Int32.ofNat 1 := rfl
      have x11 : (1 : Int32) + 1 = Int32.ofNat 2 := rfl
      by_cases z0 : has 0 = true
      · rw [if_pos z0] at k0
        by_cases z1 : has 1 = true
        · rw [if_pos z1] at k1
          rw [if_pos z0, if_pos z1] at hQ
          simp only [↓br_pos, ↓br_neg, ↓rF_I, ↓rF_L, ↓rF_R, ↓rF_N, rO_m, rB_m, ↓rI_m, wI_m, ↓rB2_m, ↓rB3_m, wB2_m, wB3_m, ↓rL_m, wL_m, ↓rQ_m, wQ_m, ↓lI_m, pI_m, pL_m, pR_m, sI_m, sBy_m, sBo_m, sL_m, sQ_m, fst_m, true_and, and_true, tg_some, ln_some, uI_1, uI_2, uL_1, uL_2, uL_3, uQ_1, uQ_2, uQ_3, rv_i, rv_l, rv_n, rv_b0, rv_b1, RMR, ne_eq, reduceCtorEq, not_false_eq_true, Option.getD_some, if_true, if_false, and_self, false_and, and_false, Nat.add_left_cancel_iff, Nat.add_eq_left, Nat.left_eq_add, Nat.one_ne_zero, Nat.reduceAdd, Nat.reduceLT, Nat.reduceLeDiff, Nat.reduceEqDiff, true_implies, false_implies, implies_true, Option.some.injEq, forall_eq', forall_eq, reduceCtorEq, brT, brF, br_s, i_10, i_01, ib_0_2, ib_1_2, tn_0, tn_1, Int32.le_refl, eq_self, rv_bN, rv_iM, RCM 81, RLY, lit_at hw, k0, k1, z10, x11]
          exact hQ
        · rw [if_neg z1] at k1
          rw [if_pos z0, if_neg z1] at hQ
          simp only [↓br_pos, ↓br_neg, ↓rF_I, ↓rF_L, ↓rF_R, ↓rF_N, rO_m, rB_m, ↓rI_m, wI_m, ↓rB2_m, ↓rB3_m, wB2_m, wB3_m, ↓rL_m, wL_m, ↓rQ_m, wQ_m, ↓lI_m, pI_m, pL_m, pR_m, sI_m, sBy_m, sBo_m, sL_m, sQ_m, fst_m, true_and, and_true, tg_some, ln_some, uI_1, uI_2, uL_1, uL_2, uL_3, uQ_1, uQ_2, uQ_3, rv_i, rv_l, rv_n, rv_b0, rv_b1, RMR, ne_eq, reduceCtorEq, not_false_eq_true, Option.getD_some, if_true, if_false, and_self, false_and, and_false, Nat.add_left_cancel_iff, Nat.add_eq_left, Nat.left_eq_add, Nat.one_ne_zero, Nat.reduceAdd, Nat.reduceLT, Nat.reduceLeDiff, Nat.reduceEqDiff, true_implies, false_implies, implies_true, Option.some.injEq, forall_eq', forall_eq, reduceCtorEq, brT, brF, br_s, i_10, i_01, ib_0_2, ib_1_2, tn_0, tn_1, Int32.le_refl, eq_self, rv_bN, rv_iM, RCM 81, RLY, lit_at hw, k0, k1, z10, z00, x10]
          exact hQ
      · rw [if_neg z0] at k0
        by_cases z1 : has 1 = true
        · rw [if_pos z1] at k1
          rw [if_neg z0, if_pos z1] at hQ
          simp only [↓br_pos, ↓br_neg, ↓rF_I, ↓rF_L, ↓rF_R, ↓rF_N, rO_m, rB_m, ↓rI_m, wI_m, ↓rB2_m, ↓rB3_m, wB2_m, wB3_m, ↓rL_m, wL_m, ↓rQ_m, wQ_m, ↓lI_m, pI_m, pL_m, pR_m, sI_m, sBy_m, sBo_m, sL_m, sQ_m, fst_m, true_and, and_true, tg_some, ln_some, uI_1, uI_2, uL_1, uL_2, uL_3, uQ_1, uQ_2, uQ_3, rv_i, rv_l, rv_n, rv_b0, rv_b1, RMR, ne_eq, reduceCtorEq, not_false_eq_true, Option.getD_some, if_true, if_false, and_self, false_and, and_false, Nat.add_left_cancel_iff, Nat.add_eq_left, Nat.left_eq_add, Nat.one_ne_zero, Nat.reduceAdd, Nat.reduceLT, Nat.reduceLeDiff, Nat.reduceEqDiff, true_implies, false_implies, implies_true, Option.some.injEq, forall_eq', forall_eq, reduceCtorEq, brT, brF, br_s, i_10, i_01, ib_0_2, ib_1_2, tn_0, tn_1, Int32.le_refl, eq_self, rv_bN, rv_iM, RCM 81, RLY, lit_at hw, k0, k1, z10, z00, x01]
          exact hQ
        · rw [if_neg z1] at k1
          rw [if_neg z0, if_neg z1] at hQ
          simp only [↓br_pos, ↓br_neg, ↓rF_I, ↓rF_L, ↓rF_R, ↓rF_N, rO_m, rB_m, ↓rI_m, wI_m, ↓rB2_m, ↓rB3_m, wB2_m, wB3_m, ↓rL_m, wL_m, ↓rQ_m, wQ_m, ↓lI_m, pI_m, pL_m, pR_m, sI_m, sBy_m, sBo_m, sL_m, sQ_m, fst_m, true_and, and_true, tg_some, ln_some, uI_1, uI_2, uL_1, uL_2, uL_3, uQ_1, uQ_2, uQ_3, rv_i, rv_l, rv_n, rv_b0, rv_b1, RMR, ne_eq, reduceCtorEq, not_false_eq_true, Option.getD_some, if_true, if_false, and_self, false_and, and_false, Nat.add_left_cancel_iff, Nat.add_eq_left, Nat.left_eq_add, Nat.one_ne_zero, Nat.reduceAdd, Nat.reduceLT, Nat.reduceLeDiff, Nat.reduceEqDiff, true_implies, false_implies, implies_true, Option.some.injEq, forall_eq', forall_eq, reduceCtorEq, brT, brF, br_s, i_10, i_01, ib_0_2, ib_1_2, tn_0, tn_1, Int32.le_refl, eq_self, rv_bN, rv_iM, RCM 81, RLY, lit_at hw, k0, k1, z00, x00]
          exact hQ)
    (fun e => by
      rw [show cntV τ ρ n has tp a.toInt = Int32.ofNat tp from by rw [e]; rfl] at hQ
      refine b161_214 ?_
      simp only [↓br_pos, ↓br_neg, ↓rF_I, ↓rF_L, ↓rF_R, ↓rF_N, rO_m, rB_m, ↓rI_m, wI_m, ↓rB2_m, ↓rB3_m, wB2_m, wB3_m, ↓rL_m, wL_m, ↓rQ_m, wQ_m, ↓lI_m, pI_m, pL_m, pR_m, sI_m, sBy_m, sBo_m, sL_m, sQ_m, fst_m, true_and, and_true, tg_some, ln_some, uI_1, uI_2, uL_1, uL_2, uL_3, uQ_1, uQ_2, uQ_3, rv_i, rv_l, rv_n, rv_b0, rv_b1, RMR, ne_eq, reduceCtorEq, not_false_eq_true, Option.getD_some, if_true, if_false, and_self, false_and, and_false, Nat.add_left_cancel_iff, Nat.add_eq_left, Nat.left_eq_add, Nat.one_ne_zero, Nat.reduceAdd, Nat.reduceLT, Nat.reduceLeDiff, Nat.reduceEqDiff, true_implies, false_implies, implies_true, Option.some.injEq, forall_eq', forall_eq, reduceCtorEq, brT, brF, br_s, i_10, i_01, ib_0_2, ib_1_2, tn_0, tn_1, Int32.le_refl, eq_self, rv_bN, rv_iM, RCM 81, RLY, lit_at hw, hp2]
      exact hQ)
    (fun e => by
      rw [show cntV τ ρ n has tp a.toInt = Int32.ofNat (lateN τ ρ) from by rw [e]; rfl] at hQ
      refine b161_219 ?_
      exact lp_161b hw hτ0 hρ0 hv hr hd hQ (τ 2) 0 (by omega))
    (fun e => by
      rw [show cntV τ ρ n has tp a.toInt = Int32.ofNat (ρ 10) from by rw [e]; rfl] at hQ
      refine b161_255 ?_
      have ea : a = Int32.ofNat 12 := i32_of e (by omega)
      subst ea
      have e1 : (10 : Int32) + Int32.ofNat 12 - 12 = 10 := by decide
      simp only [↓br_pos, ↓br_neg, ↓rF_I, ↓rF_L, ↓rF_R, ↓rF_N, rO_m, rB_m, ↓rI_m, wI_m, ↓rB2_m, ↓rB3_m, wB2_m, wB3_m, ↓rL_m, wL_m, ↓rQ_m, wQ_m, ↓lI_m, pI_m, pL_m, pR_m, sI_m, sBy_m, sBo_m, sL_m, sQ_m, fst_m, true_and, and_true, tg_some, ln_some, uI_1, uI_2, uL_1, uL_2, uL_3, uQ_1, uQ_2, uQ_3, rv_i, rv_l, rv_n, rv_b0, rv_b1, RMR, ne_eq, reduceCtorEq, not_false_eq_true, Option.getD_some, if_true, if_false, and_self, false_and, and_false, Nat.add_left_cancel_iff, Nat.add_eq_left, Nat.left_eq_add, Nat.one_ne_zero, Nat.reduceAdd, Nat.reduceLT, Nat.reduceLeDiff, Nat.reduceEqDiff, true_implies, false_implies, implies_true, Option.some.injEq, forall_eq', forall_eq, reduceCtorEq, brT, brF, br_s, i_10, i_01, ib_0_2, ib_1_2, tn_0, tn_1, Int32.le_refl, eq_self, rv_bN, rv_iM, RCM 81, RLY, lit_at hw, e1, mr_10l hρ]
      exact hQ)
    (fun e => by
      rw [show cntV τ ρ n has tp a.toInt = Int32.ofNat (ρ 11) from by rw [e]; rfl] at hQ
      refine b161_255 ?_
      have ea : a = Int32.ofNat 13 := i32_of e (by omega)
      subst ea
      have e1 : (10 : Int32) + Int32.ofNat 13 - 12 = 11 := by decide
      simp only [↓br_pos, ↓br_neg, ↓rF_I, ↓rF_L, ↓rF_R, ↓rF_N, rO_m, rB_m, ↓rI_m, wI_m, ↓rB2_m, ↓rB3_m, wB2_m, wB3_m, ↓rL_m, wL_m, ↓rQ_m, wQ_m, ↓lI_m, pI_m, pL_m, pR_m, sI_m, sBy_m, sBo_m, sL_m, sQ_m, fst_m, true_and, and_true, tg_some, ln_some, uI_1, uI_2, uL_1, uL_2, uL_3, uQ_1, uQ_2, uQ_3, rv_i, rv_l, rv_n, rv_b0, rv_b1, RMR, ne_eq, reduceCtorEq, not_false_eq_true, Option.getD_some, if_true, if_false, and_self, false_and, and_false, Nat.add_left_cancel_iff, Nat.add_eq_left, Nat.left_eq_add, Nat.one_ne_zero, Nat.reduceAdd, Nat.reduceLT, Nat.reduceLeDiff, Nat.reduceEqDiff, true_implies, false_implies, implies_true, Option.some.injEq, forall_eq', forall_eq, reduceCtorEq, brT, brF, br_s, i_10, i_01, ib_0_2, ib_1_2, tn_0, tn_1, Int32.le_refl, eq_self, rv_bN, rv_iM, RCM 81, RLY, lit_at hw, e1, mr_11l hρ]
      exact hQ)
    (fun e => by
      rw [show cntV τ ρ n has tp a.toInt = Int32.ofNat (ρ 8) from by rw [e]; rfl] at hQ
      refine b161_268 ?_
      have ea : a = Int32.ofNat 14 := i32_of e (by omega)
      subst ea
      have e1 : (8 : Int32) + Int32.ofNat 14 - 14 = 8 := by decide
      simp only [↓br_pos, ↓br_neg, ↓rF_I, ↓rF_L, ↓rF_R, ↓rF_N, rO_m, rB_m, ↓rI_m, wI_m, ↓rB2_m, ↓rB3_m, wB2_m, wB3_m, ↓rL_m, wL_m, ↓rQ_m, wQ_m, ↓lI_m, pI_m, pL_m, pR_m, sI_m, sBy_m, sBo_m, sL_m, sQ_m, fst_m, true_and, and_true, tg_some, ln_some, uI_1, uI_2, uL_1, uL_2, uL_3, uQ_1, uQ_2, uQ_3, rv_i, rv_l, rv_n, rv_b0, rv_b1, RMR, ne_eq, reduceCtorEq, not_false_eq_true, Option.getD_some, if_true, if_false, and_self, false_and, and_false, Nat.add_left_cancel_iff, Nat.add_eq_left, Nat.left_eq_add, Nat.one_ne_zero, Nat.reduceAdd, Nat.reduceLT, Nat.reduceLeDiff, Nat.reduceEqDiff, true_implies, false_implies, implies_true, Option.some.injEq, forall_eq', forall_eq, reduceCtorEq, brT, brF, br_s, i_10, i_01, ib_0_2, ib_1_2, tn_0, tn_1, Int32.le_refl, eq_self, rv_bN, rv_iM, RCM 81, RLY, lit_at hw, e1, mr_8l hρ]
      exact hQ)
    (fun e => by
      rw [show cntV τ ρ n has tp a.toInt = Int32.ofNat (ρ 9) from by rw [e]; rfl] at hQ
      refine b161_268 ?_
      have ea : a = Int32.ofNat 15 := i32_of e (by omega)
      subst ea
      have e1 : (8 : Int32) + Int32.ofNat 15 - 14 = 9 := by decide
      simp only [↓br_pos, ↓br_neg, ↓rF_I, ↓rF_L, ↓rF_R, ↓rF_N, rO_m, rB_m, ↓rI_m, wI_m, ↓rB2_m, ↓rB3_m, wB2_m, wB3_m, ↓rL_m, wL_m, ↓rQ_m, wQ_m, ↓lI_m, pI_m, pL_m, pR_m, sI_m, sBy_m, sBo_m, sL_m, sQ_m, fst_m, true_and, and_true, tg_some, ln_some, uI_1, uI_2, uL_1, uL_2, uL_3, uQ_1, uQ_2, uQ_3, rv_i, rv_l, rv_n, rv_b0, rv_b1, RMR, ne_eq, reduceCtorEq, not_false_eq_true, Option.getD_some, if_true, if_false, and_self, false_and, and_false, Nat.add_left_cancel_iff, Nat.add_eq_left, Nat.left_eq_add, Nat.one_ne_zero, Nat.reduceAdd, Nat.reduceLT, Nat.reduceLeDiff, Nat.reduceEqDiff, true_implies, false_implies, implies_true, Option.some.injEq, forall_eq', forall_eq, reduceCtorEq, brT, brF, br_s, i_10, i_01, ib_0_2, ib_1_2, tn_0, tn_1, Int32.le_refl, eq_self, rv_bN, rv_iM, RCM 81, RLY, lit_at hw, e1, mr_9l hρ]
      exact hQ)
    (fun e => by
      rw [show cntV τ ρ n has tp a.toInt = Int32.ofNat (ρ 1) from by rw [e]; rfl] at hQ
      refine b161_281 ?_
      simp only [↓br_pos, ↓br_neg, ↓rF_I, ↓rF_L, ↓rF_R, ↓rF_N, rO_m, rB_m, ↓rI_m, wI_m, ↓rB2_m, ↓rB3_m, wB2_m, wB3_m, ↓rL_m, wL_m, ↓rQ_m, wQ_m, ↓lI_m, pI_m, pL_m, pR_m, sI_m, sBy_m, sBo_m, sL_m, sQ_m, fst_m, true_and, and_true, tg_some, ln_some, uI_1, uI_2, uL_1, uL_2, uL_3, uQ_1, uQ_2, uQ_3, rv_i, rv_l, rv_n, rv_b0, rv_b1, RMR, ne_eq, reduceCtorEq, not_false_eq_true, Option.getD_some, if_true, if_false, and_self, false_and, and_false, Nat.add_left_cancel_iff, Nat.add_eq_left, Nat.left_eq_add, Nat.one_ne_zero, Nat.reduceAdd, Nat.reduceLT, Nat.reduceLeDiff, Nat.reduceEqDiff, true_implies, false_implies, implies_true, Option.some.injEq, forall_eq', forall_eq, reduceCtorEq, brT, brF, br_s, i_10, i_01, ib_0_2, ib_1_2, tn_0, tn_1, Int32.le_refl, eq_self, rv_bN, rv_iM, RCM 81, RLY, lit_at hw, mr_1l hρ]
      exact hQ)
    (fun e => by
      have ed : cntV τ ρ n has tp a.toInt = -1 := by
        unfold cntV
        rw [if_neg (by omega), if_neg (by omega), if_neg (by omega), if_neg (by omega), if_neg (by omega), if_neg (by omega), if_neg (by omega), if_neg (by omega), if_neg (by omega), if_neg (by omega), if_neg (by omega), if_neg (by omega), if_neg (by omega), if_neg (by omega), if_neg (by omega), if_neg (by omega), if_neg (by omega)]
      rw [ed] at hQ
      refine b161_288 ?_
      simp only [↓br_pos, ↓br_neg, ↓rF_I, ↓rF_L, ↓rF_R, ↓rF_N, rO_m, rB_m, ↓rI_m, wI_m, ↓rB2_m, ↓rB3_m, wB2_m, wB3_m, ↓rL_m, wL_m, ↓rQ_m, wQ_m, ↓lI_m, pI_m, pL_m, pR_m, sI_m, sBy_m, sBo_m, sL_m, sQ_m, fst_m, true_and, and_true, tg_some, ln_some, uI_1, uI_2, uL_1, uL_2, uL_3, uQ_1, uQ_2, uQ_3, rv_i, rv_l, rv_n, rv_b0, rv_b1, RMR, ne_eq, reduceCtorEq, not_false_eq_true, Option.getD_some, if_true, if_false, and_self, false_and, and_false, Nat.add_left_cancel_iff, Nat.add_eq_left, Nat.left_eq_add, Nat.one_ne_zero, Nat.reduceAdd, Nat.reduceLT, Nat.reduceLeDiff, Nat.reduceEqDiff, true_implies, false_implies, implies_true, Option.some.injEq, forall_eq', forall_eq, reduceCtorEq, brT, brF, br_s, i_10, i_01, ib_0_2, ib_1_2, tn_0, tn_1, Int32.le_refl, eq_self, rv_bN, rv_iM]
      exact hQ)
def layerM (ρ : Rw) (p k a : Nat) : Int32 := if a = 0 then Int32.ofNat (ρ (lo p k)) else if a = 1 then Int32.ofNat (sm 12 (fun c => ρ (li p k c))) else lyB ρ p k 12
theorem lp_166 {w : mT} {σ : mS} {τ ρ : Rw} {p k a d : Nat} {Q : Option (Option Value) → Hp → Prop} (hw : lit w) (hρ : mRow σ 85 0 ρ) (hr : vRow τ ρ) (hp : p < 3) (hk : k < ρ (24 + p)) (ha : a ≤ 2) (hd : 1 ≤ d) (hQ : Q (some (some (.int (layerM ρ p k a)))) (mW w σ)) : ∀ (r c : Nat), c + r = 12 → Wp 166 38 [.ref 81, .int (Int32.ofNat p), .int (Int32.ofNat k), .int (Int32.ofNat a), .int (Int32.ofNat (sm c (fun c => ρ (li p k c)))), .int (lyB ρ p k c), .int (Int32.ofNat c)] [] (mW w σ) Q d := by
  have la := vR_la hr p hp
  intro r
  induction r with
  | zero =>
    intro c hc
    have hc' : c = 12 := by omega
    subst hc'
    have l1 : ((12 : Int32) ≤ Int32.ofNat 12) ↔ True := by decide
    refine b166_38 ?_
    have q : a = 0 ∨ a = 1 ∨ a = 2 := by omega
    rcases q with rfl | rfl | rfl
    · have c0 : (Int32.ofNat 0 = (0 : Int32)) ↔ True := by decide
      have e : 131 + 60 * p + k = lo p k := by unfold lo; omega
      simp only [↓br_pos, ↓br_neg, ↓rF_I, ↓rF_L, ↓rF_R, ↓rF_N, rO_m, rB_m, ↓rI_m, wI_m, ↓rB2_m, ↓rB3_m, wB2_m, wB3_m, ↓rL_m, wL_m, ↓rQ_m, wQ_m, ↓lI_m, pI_m, pL_m, pR_m, sI_m, sBy_m, sBo_m, sL_m, sQ_m, fst_m, true_and, and_true, tg_some, ln_some, uI_1, uI_2, uL_1, uL_2, uL_3, uQ_1, uQ_2, uQ_3, rv_i, rv_l, rv_n, rv_b0, rv_b1, RMR, ne_eq, reduceCtorEq, not_false_eq_true, Option.getD_some, if_true, if_false, and_self, false_and, and_false, Nat.add_left_cancel_iff, Nat.add_eq_left, Nat.left_eq_add, Nat.one_ne_zero, Nat.reduceAdd, Nat.reduceLT, Nat.reduceLeDiff, Nat.reduceEqDiff, true_implies, false_implies, implies_true, Option.some.injEq, forall_eq', forall_eq, reduceCtorEq, brT, brF, br_s, i_10, i_01, ib_0_2, ib_1_2, tn_0, tn_1, Int32.le_refl, eq_self, rv_bN, rv_iM, RCM 81, RLY, lit_at hw, ad_2, ad_4, ad_6, ad_8, ad_10, ad_12, ad_16, ad_24, ad_27, ad_28, ad_31, ad_35, ad_43, ad_51, ad_107, ad_131, ad_311, ml_3, ml_6, ml_7, ml_60, ml_100, ml_2471, mq_12, ar_2, ar_3, ar_4, ar_5, ar_6, of_add, of_mul, on_succ, l1, c0, e, mr hρ (by unfold lo; omega : lo p k < 2471)]
      exact hQ
    · have c0 : (Int32.ofNat 1 = (0 : Int32)) ↔ False := by decide
      have c1 : (Int32.ofNat 1 = (1 : Int32)) ↔ True := by decide
      simp only [↓br_pos, ↓br_neg, ↓rF_I, ↓rF_L, ↓rF_R, ↓rF_N, rO_m, rB_m, ↓rI_m, wI_m, ↓rB2_m, ↓rB3_m, wB2_m, wB3_m, ↓rL_m, wL_m, ↓rQ_m, wQ_m, ↓lI_m, pI_m, pL_m, pR_m, sI_m, sBy_m, sBo_m, sL_m, sQ_m, fst_m, true_and, and_true, tg_some, ln_some, uI_1, uI_2, uL_1, uL_2, uL_3, uQ_1, uQ_2, uQ_3, rv_i, rv_l, rv_n, rv_b0, rv_b1, RMR, ne_eq, reduceCtorEq, not_false_eq_true, Option.getD_some, if_true, if_false, and_self, false_and, and_false, Nat.add_left_cancel_iff, Nat.add_eq_left, Nat.left_eq_add, Nat.one_ne_zero, Nat.reduceAdd, Nat.reduceLT, Nat.reduceLeDiff, Nat.reduceEqDiff, true_implies, false_implies, implies_true, Option.some.injEq, forall_eq', forall_eq, reduceCtorEq, brT, brF, br_s, i_10, i_01, ib_0_2, ib_1_2, tn_0, tn_1, Int32.le_refl, eq_self, rv_bN, rv_iM, RCM 81, RLY, lit_at hw, l1, c0, c1]
      exact hQ
    · have c0 : (Int32.ofNat 2 = (0 : Int32)) ↔ False := by decide
      have c1 : (Int32.ofNat 2 = (1 : Int32)) ↔ False := by decide
      simp only [↓br_pos, ↓br_neg, ↓rF_I, ↓rF_L, ↓rF_R, ↓rF_N, rO_m, rB_m, ↓rI_m, wI_m, ↓rB2_m, ↓rB3_m, wB2_m, wB3_m, ↓rL_m, wL_m, ↓rQ_m, wQ_m, ↓lI_m, pI_m, pL_m, pR_m, sI_m, sBy_m, sBo_m, sL_m, sQ_m, fst_m, true_and, and_true, tg_some, ln_some, uI_1, uI_2, uL_1, uL_2, uL_3, uQ_1, uQ_2, uQ_3, rv_i, rv_l, rv_n, rv_b0, rv_b1, RMR, ne_eq, reduceCtorEq, not_false_eq_true, Option.getD_some, if_true, if_false, and_self, false_and, and_false, Nat.add_left_cancel_iff, Nat.add_eq_left, Nat.left_eq_add, Nat.one_ne_zero, Nat.reduceAdd, Nat.reduceLT, Nat.reduceLeDiff, Nat.reduceEqDiff, true_implies, false_implies, implies_true, Option.some.injEq, forall_eq', forall_eq, reduceCtorEq, brT, brF, br_s, i_10, i_01, ib_0_2, ib_1_2, tn_0, tn_1, Int32.le_refl, eq_self, rv_bN, rv_iM, RCM 81, RLY, lit_at hw, l1, c0, c1]
      exact hQ
  | succ r ih =>
    intro c hc
    have l1 : ((12 : Int32) ≤ Int32.ofNat c) ↔ False := iff_false_intro (fun q => absurd ((on_le (i := 12) (by omega) (by omega)).mp q) (by omega))
    have lb := lies_lt hr hp hk (by omega : c < 12)
    have nx := ih (c + 1) (by omega)
    have e : lyB ρ p k (c + 1) = lyB ρ p k c ||| (if 0 < ρ (li p k c) then (1 : Int32) <<< (Int32.ofNat c &&& 31) else 0) := rfl
    rw [sm_s, e] at nx
    refine b166_38 ?_
    by_cases z : ρ (li p k c) = 0
    · rw [if_neg (by omega)] at nx
      have c1 : (Int32.ofNat (ρ (li p k c)) ≤ 0) ↔ True := iff_true_intro ((of_le0 (by omega)).mpr z)
      simp only [↓br_pos, ↓br_neg, ↓rF_I, ↓rF_L, ↓rF_R, ↓rF_N, rO_m, rB_m, ↓rI_m, wI_m, ↓rB2_m, ↓rB3_m, wB2_m, wB3_m, ↓rL_m, wL_m, ↓rQ_m, wQ_m, ↓lI_m, pI_m, pL_m, pR_m, sI_m, sBy_m, sBo_m, sL_m, sQ_m, fst_m, true_and, and_true, tg_some, ln_some, uI_1, uI_2, uL_1, uL_2, uL_3, uQ_1, uQ_2, uQ_3, rv_i, rv_l, rv_n, rv_b0, rv_b1, RMR, ne_eq, reduceCtorEq, not_false_eq_true, Option.getD_some, if_true, if_false, and_self, false_and, and_false, Nat.add_left_cancel_iff, Nat.add_eq_left, Nat.left_eq_add, Nat.one_ne_zero, Nat.reduceAdd, Nat.reduceLT, Nat.reduceLeDiff, Nat.reduceEqDiff, true_implies, false_implies, implies_true, Option.some.injEq, forall_eq', forall_eq, reduceCtorEq, brT, brF, br_s, i_10, i_01, ib_0_2, ib_1_2, tn_0, tn_1, Int32.le_refl, eq_self, rv_bN, rv_iM, RCM 81, RLY, lit_at hw, ad_2, ad_4, ad_6, ad_8, ad_10, ad_12, ad_16, ad_24, ad_27, ad_28, ad_31, ad_35, ad_43, ad_51, ad_107, ad_131, ad_311, ml_3, ml_6, ml_7, ml_60, ml_100, ml_2471, mq_12, ar_2, ar_3, ar_4, ar_5, ar_6, of_add, of_mul, on_succ, l1, g_156 hd, mr hρ (by unfold li; omega : li p k c < 2471), c1]
      exact b166_93 nx
    · rw [if_pos (by omega)] at nx
      have c1 : (Int32.ofNat (ρ (li p k c)) ≤ 0) ↔ False := iff_false_intro (fun q => z ((of_le0 (by omega)).mp q))
      simp only [↓br_pos, ↓br_neg, ↓rF_I, ↓rF_L, ↓rF_R, ↓rF_N, rO_m, rB_m, ↓rI_m, wI_m, ↓rB2_m, ↓rB3_m, wB2_m, wB3_m, ↓rL_m, wL_m, ↓rQ_m, wQ_m, ↓lI_m, pI_m, pL_m, pR_m, sI_m, sBy_m, sBo_m, sL_m, sQ_m, fst_m, true_and, and_true, tg_some, ln_some, uI_1, uI_2, uL_1, uL_2, uL_3, uQ_1, uQ_2, uQ_3, rv_i, rv_l, rv_n, rv_b0, rv_b1, RMR, ne_eq, reduceCtorEq, not_false_eq_true, Option.getD_some, if_true, if_false, and_self, false_and, and_false, Nat.add_left_cancel_iff, Nat.add_eq_left, Nat.left_eq_add, Nat.one_ne_zero, Nat.reduceAdd, Nat.reduceLT, Nat.reduceLeDiff, Nat.reduceEqDiff, true_implies, false_implies, implies_true, Option.some.injEq, forall_eq', forall_eq, reduceCtorEq, brT, brF, br_s, i_10, i_01, ib_0_2, ib_1_2, tn_0, tn_1, Int32.le_refl, eq_self, rv_bN, rv_iM, RCM 81, RLY, lit_at hw, ad_2, ad_4, ad_6, ad_8, ad_10, ad_12, ad_16, ad_24, ad_27, ad_28, ad_31, ad_35, ad_43, ad_51, ad_107, ad_131, ad_311, ml_3, ml_6, ml_7, ml_60, ml_100, ml_2471, mq_12, ar_2, ar_3, ar_4, ar_5, ar_6, of_add, of_mul, on_succ, l1, g_156 hd, mr hρ (by unfold li; omega : li p k c < 2471), c1]
      exact b166_93 nx
theorem m_166z {w : mT} {σ : mS} {tp n : Nat} {t : Nat → Nat} {τ ρ : Rw} {bk : Nat → Rw} {has : Nat → Bool} {im : Nat → Rw} {p k a : Int32} {D : Nat} {K : Int32 → Hp → Prop} (h : mIn w σ tp t τ ρ n bk has im) (hn1 : ¬ (laP τ ρ p k ∧ 0 ≤ a.toInt ∧ a.toInt ≤ 2)) (hD : 4 ≤ D) : wpI D 166 [.ref 81, .int p, .int k, .int a] (mW w σ) K ↔ K (-2) (mW w (uI σ 81 0 0)) := by
  have M := h
  obtain ⟨hw, hτ, hρ, hv, hr, hp2, htp, htb, htl, hn, hn12, hbk, him⟩ := h
  have M0 := mIn_Z M (frZ_0 (j := 0) (x := 0) (by omega))
  obtain ⟨_, hτ0, hρ0, _, _, hp20, _, htb0, _, hn0, _, hbk0, him0⟩ := M0
  have M0 := mIn_Z M (frZ_0 (j := 0) (x := 0) (by omega))
  refine cI_of (m := 3) (fun d hd Q hQ => ?_) rfl hD
  have hd1 : 1 ≤ d := by omega
  refine b166_0 ?_
  by_cases z : laP τ ρ p k
  · have y : ¬ (0 ≤ a.toInt ∧ a.toInt ≤ 2) := fun q => hn1 ⟨z, q⟩
    simp only [↓br_pos, ↓br_neg, ↓rF_I, ↓rF_L, ↓rF_R, ↓rF_N, rO_m, rB_m, ↓rI_m, wI_m, ↓rB2_m, ↓rB3_m, wB2_m, wB3_m, ↓rL_m, wL_m, ↓rQ_m, wQ_m, ↓lI_m, pI_m, pL_m, pR_m, sI_m, sBy_m, sBo_m, sL_m, sQ_m, fst_m, true_and, and_true, tg_some, ln_some, uI_1, uI_2, uL_1, uL_2, uL_3, uQ_1, uQ_2, uQ_3, rv_i, rv_l, rv_n, rv_b0, rv_b1, RMR, ne_eq, reduceCtorEq, not_false_eq_true, Option.getD_some, if_true, if_false, and_self, false_and, and_false, Nat.add_left_cancel_iff, Nat.add_eq_left, Nat.left_eq_add, Nat.one_ne_zero, Nat.reduceAdd, Nat.reduceLT, Nat.reduceLeDiff, Nat.reduceEqDiff, true_implies, false_implies, implies_true, Option.some.injEq, forall_eq', forall_eq, reduceCtorEq, brT, brF, br_s, i_10, i_01, ib_0_2, ib_1_2, tn_0, tn_1, Int32.le_refl, eq_self, rv_bN, rv_iM, RCM 81, RLY, lit_at hw, g_165 hw hτ0 hρ0 hv hr hd, iB_t z, z10, z00, g_129 hd1, vin_02, iB_f y]
    exact hQ
  · simp only [↓br_pos, ↓br_neg, ↓rF_I, ↓rF_L, ↓rF_R, ↓rF_N, rO_m, rB_m, ↓rI_m, wI_m, ↓rB2_m, ↓rB3_m, wB2_m, wB3_m, ↓rL_m, wL_m, ↓rQ_m, wQ_m, ↓lI_m, pI_m, pL_m, pR_m, sI_m, sBy_m, sBo_m, sL_m, sQ_m, fst_m, true_and, and_true, tg_some, ln_some, uI_1, uI_2, uL_1, uL_2, uL_3, uQ_1, uQ_2, uQ_3, rv_i, rv_l, rv_n, rv_b0, rv_b1, RMR, ne_eq, reduceCtorEq, not_false_eq_true, Option.getD_some, if_true, if_false, and_self, false_and, and_false, Nat.add_left_cancel_iff, Nat.add_eq_left, Nat.left_eq_add, Nat.one_ne_zero, Nat.reduceAdd, Nat.reduceLT, Nat.reduceLeDiff, Nat.reduceEqDiff, true_implies, false_implies, implies_true, Option.some.injEq, forall_eq', forall_eq, reduceCtorEq, brT, brF, br_s, i_10, i_01, ib_0_2, ib_1_2, tn_0, tn_1, Int32.le_refl, eq_self, rv_bN, rv_iM, RCM 81, RLY, lit_at hw, g_165 hw hτ0 hρ0 hv hr hd, iB_f z, z00]
    exact hQ
theorem m_166 {w : mT} {σ : mS} {tp n : Nat} {t : Nat → Nat} {τ ρ : Rw} {bk : Nat → Rw} {has : Nat → Bool} {im : Nat → Rw} {p k a : Nat} {D : Nat} {K : Int32 → Hp → Prop} (h : mIn w σ tp t τ ρ n bk has im) (hp : p < τ 1) (hk : k < ρ (24 + p)) (ha : a ≤ 2) (hD : 4 ≤ D) : wpI D 166 [.ref 81, .int (Int32.ofNat p), .int (Int32.ofNat k), .int (Int32.ofNat a)] (mW w σ) K ↔ K (layerM ρ p k a) (mW w (uI σ 81 0 0)) := by
  have M := h
  obtain ⟨hw, hτ, hρ, hv, hr, hp2, htp, htb, htl, hn, hn12, hbk, him⟩ := h
  have M0 := mIn_Z M (frZ_0 (j := 0) (x := 0) (by omega))
  obtain ⟨_, hτ0, hρ0, _, _, hp20, _, htb0, _, hn0, _, hbk0, him0⟩ := M0
  have M0 := mIn_Z M (frZ_0 (j := 0) (x := 0) (by omega))
  refine cI_of (m := 3) (fun d hd Q hQ => ?_) rfl hD
  have hd1 : 1 ≤ d := by omega
  have v1 := hv.2.1
  have la := vR_la hr p (by omega)
  have z : laP τ ρ (Int32.ofNat p) (Int32.ofNat k) := ⟨bN_on hp (by omega), by rw [on_int (by omega)]; omega, by rw [on_int (by omega), on_nat (by omega)]; omega⟩
  have y : 0 ≤ (Int32.ofNat a).toInt ∧ (Int32.ofNat a).toInt ≤ 2 := by rw [on_int (by omega)]; omega
  refine b166_0 ?_
  simp only [↓br_pos, ↓br_neg, ↓rF_I, ↓rF_L, ↓rF_R, ↓rF_N, rO_m, rB_m, ↓rI_m, wI_m, ↓rB2_m, ↓rB3_m, wB2_m, wB3_m, ↓rL_m, wL_m, ↓rQ_m, wQ_m, ↓lI_m, pI_m, pL_m, pR_m, sI_m, sBy_m, sBo_m, sL_m, sQ_m, fst_m, true_and, and_true, tg_some, ln_some, uI_1, uI_2, uL_1, uL_2, uL_3, uQ_1, uQ_2, uQ_3, rv_i, rv_l, rv_n, rv_b0, rv_b1, RMR, ne_eq, reduceCtorEq, not_false_eq_true, Option.getD_some, if_true, if_false, and_self, false_and, and_false, Nat.add_left_cancel_iff, Nat.add_eq_left, Nat.left_eq_add, Nat.one_ne_zero, Nat.reduceAdd, Nat.reduceLT, Nat.reduceLeDiff, Nat.reduceEqDiff, true_implies, false_implies, implies_true, Option.some.injEq, forall_eq', forall_eq, reduceCtorEq, brT, brF, br_s, i_10, i_01, ib_0_2, ib_1_2, tn_0, tn_1, Int32.le_refl, eq_self, rv_bN, rv_iM, RCM 81, RLY, lit_at hw, g_165 hw hτ0 hρ0 hv hr hd, iB_t z, z10, g_129 hd1, vin_02, iB_t y]
  exact lp_166 hw hρ0 hr (by omega) hk ha hd1 hQ 12 0 (by omega)
theorem m_217z {w : mT} {σ : mS} {tp n : Nat} {t : Nat → Nat} {τ ρ : Rw} {bk : Nat → Rw} {has : Nat → Bool} {im : Nat → Rw} {p l a b c q : Int32} {D : Nat} {K : Int32 → Hp → Prop} (h : mIn w σ tp t τ ρ n bk has im) (hn1 : ¬ (bC τ p q = 1 ∧ cbP τ p l a b c)) (hD : 6 ≤ D) : wpI D 217 [.ref 81, .int p, .int l, .int a, .int b, .int c, .int q] (mW w σ) K ↔ K (-1) (mW w (uI σ 81 0 0)) := by
  have M := h
  obtain ⟨hw, hτ, hρ, hv, hr, hp2, htp, htb, htl, hn, hn12, hbk, him⟩ := h
  have M0 := mIn_Z M (frZ_0 (j := 0) (x := 0) (by omega))
  obtain ⟨_, hτ0, hρ0, _, _, hp20, _, htb0, _, hn0, _, hbk0, him0⟩ := M0
  have M0 := mIn_Z M (frZ_0 (j := 0) (x := 0) (by omega))
  refine cI_of (m := 5) (fun d hd Q hQ => ?_) rfl hD
  have hd3 : 3 ≤ d := by omega
  have c1 : ((1 : Int32) ≤ 0) ↔ False := by decide
  refine b217_0 ?_
  rcases bC_01 (τ := τ) (p := p) (c := q) with z | z
  · simp only [↓br_pos, ↓br_neg, ↓rF_I, ↓rF_L, ↓rF_R, ↓rF_N, rO_m, rB_m, ↓rI_m, wI_m, ↓rB2_m, ↓rB3_m, wB2_m, wB3_m, ↓rL_m, wL_m, ↓rQ_m, wQ_m, ↓lI_m, pI_m, pL_m, pR_m, sI_m, sBy_m, sBo_m, sL_m, sQ_m, fst_m, true_and, and_true, tg_some, ln_some, uI_1, uI_2, uL_1, uL_2, uL_3, uQ_1, uQ_2, uQ_3, rv_i, rv_l, rv_n, rv_b0, rv_b1, RMR, ne_eq, reduceCtorEq, not_false_eq_true, Option.getD_some, if_true, if_false, and_self, false_and, and_false, Nat.add_left_cancel_iff, Nat.add_eq_left, Nat.left_eq_add, Nat.one_ne_zero, Nat.reduceAdd, Nat.reduceLT, Nat.reduceLeDiff, Nat.reduceEqDiff, true_implies, false_implies, implies_true, Option.some.injEq, forall_eq', forall_eq, reduceCtorEq, brT, brF, br_s, i_10, i_01, ib_0_2, ib_1_2, tn_0, tn_1, Int32.le_refl, eq_self, rv_bN, rv_iM, RCM 81, RLY, lit_at hw, g_154 hw hτ0 hv hd3, z, z00]
    exact hQ
  · simp only [↓br_pos, ↓br_neg, ↓rF_I, ↓rF_L, ↓rF_R, ↓rF_N, rO_m, rB_m, ↓rI_m, wI_m, ↓rB2_m, ↓rB3_m, wB2_m, wB3_m, ↓rL_m, wL_m, ↓rQ_m, wQ_m, ↓lI_m, pI_m, pL_m, pR_m, sI_m, sBy_m, sBo_m, sL_m, sQ_m, fst_m, true_and, and_true, tg_some, ln_some, uI_1, uI_2, uL_1, uL_2, uL_3, uQ_1, uQ_2, uQ_3, rv_i, rv_l, rv_n, rv_b0, rv_b1, RMR, ne_eq, reduceCtorEq, not_false_eq_true, Option.getD_some, if_true, if_false, and_self, false_and, and_false, Nat.add_left_cancel_iff, Nat.add_eq_left, Nat.left_eq_add, Nat.one_ne_zero, Nat.reduceAdd, Nat.reduceLT, Nat.reduceLeDiff, Nat.reduceEqDiff, true_implies, false_implies, implies_true, Option.some.injEq, forall_eq', forall_eq, reduceCtorEq, brT, brF, br_s, i_10, i_01, ib_0_2, ib_1_2, tn_0, tn_1, Int32.le_refl, eq_self, rv_bN, rv_iM, RCM 81, RLY, lit_at hw, g_154 hw hτ0 hv hd3, z, z10, g_179z hw hτ0 hv (fun y => hn1 ⟨z, y⟩) hd, c1]
    exact hQ
theorem m_217n {w : mT} {σ : mS} {tp n : Nat} {t : Nat → Nat} {τ ρ : Rw} {bk : Nat → Rw} {has : Nat → Bool} {im : Nat → Rw} {p l a b c q : Nat} {D : Nat} {K : Int32 → Hp → Prop} (h : mIn w σ tp t τ ρ n bk has im) (hp : p < τ 1) (hl : l < τ 0) (ha : a < τ (28 + p)) (hb : b < τ (28 + p)) (hc : 1 ≤ c ∧ c ≤ 99) (hq : q < τ (28 + p)) (hy0 : wlN τ ρ p l a b c ≠ 0) (hD : 6 ≤ D) : wpI D 217 [.ref 81, .int (Int32.ofNat p), .int (Int32.ofNat l), .int (Int32.ofNat a), .int (Int32.ofNat b), .int (Int32.ofNat c), .int (Int32.ofNat q)] (mW w σ) K ↔ K (-1) (mW w (uI σ 81 0 0)) := by
  have M := h
  obtain ⟨hw, hτ, hρ, hv, hr, hp2, htp, htb, htl, hn, hn12, hbk, him⟩ := h
  have M0 := mIn_Z M (frZ_0 (j := 0) (x := 0) (by omega))
  obtain ⟨_, hτ0, hρ0, _, _, hp20, _, htb0, _, hn0, _, hbk0, him0⟩ := M0
  have M0 := mIn_Z M (frZ_0 (j := 0) (x := 0) (by omega))
  refine cI_of (m := 5) (fun d hd Q hQ => ?_) rfl hD
  have hd3 : 3 ≤ d := by omega
  have lt := wl_lt (τ := τ) (ρ := ρ) (p := p) (l := l) (a := a) (b := b) (t := c)
  have c1 : (Int32.ofNat (wlN τ ρ p l a b c) ≤ 0) ↔ False := iff_false_intro (fun q => hy0 ((of_le0 (by omega)).mp q))
  refine b217_0 ?_
  simp only [↓br_pos, ↓br_neg, ↓rF_I, ↓rF_L, ↓rF_R, ↓rF_N, rO_m, rB_m, ↓rI_m, wI_m, ↓rB2_m, ↓rB3_m, wB2_m, wB3_m, ↓rL_m, wL_m, ↓rQ_m, wQ_m, ↓lI_m, pI_m, pL_m, pR_m, sI_m, sBy_m, sBo_m, sL_m, sQ_m, fst_m, true_and, and_true, tg_some, ln_some, uI_1, uI_2, uL_1, uL_2, uL_3, uQ_1, uQ_2, uQ_3, rv_i, rv_l, rv_n, rv_b0, rv_b1, RMR, ne_eq, reduceCtorEq, not_false_eq_true, Option.getD_some, if_true, if_false, and_self, false_and, and_false, Nat.add_left_cancel_iff, Nat.add_eq_left, Nat.left_eq_add, Nat.one_ne_zero, Nat.reduceAdd, Nat.reduceLT, Nat.reduceLeDiff, Nat.reduceEqDiff, true_implies, false_implies, implies_true, Option.some.injEq, forall_eq', forall_eq, reduceCtorEq, brT, brF, br_s, i_10, i_01, ib_0_2, ib_1_2, tn_0, tn_1, Int32.le_refl, eq_self, rv_bN, rv_iM, RCM 81, RLY, lit_at hw, g_154 hw hτ0 hv hd3, bC_t hp hv hq, z10, g_179 hw hτ0 hρ0 hv hr (cbP_of hv hp hl ha hb hc) hp hl ha hb hc.2 hd, c1]
  exact hQ
theorem m_217 {w : mT} {σ : mS} {tp n : Nat} {t : Nat → Nat} {τ ρ : Rw} {bk : Nat → Rw} {has : Nat → Bool} {im : Nat → Rw} {p l a b c q : Nat} (h : mIn w σ tp t τ ρ n bk has im) (hp : p < τ 1) (hl : l < τ 0) (ha : a < τ (28 + p)) (hb : b < τ (28 + p)) (hc : 1 ≤ c ∧ c ≤ 99) (hq : q < τ (28 + p)) (hy0 : wlN τ ρ p l a b c = 0) : ∃ σ', frA σ σ' ∧ mIn w σ' tp t τ ρ n bk has im ∧ ∀ {D : Nat} {K : Int32 → Hp → Prop}, 6 ≤ D → (wpI D 217 [.ref 81, .int (Int32.ofNat p), .int (Int32.ofNat l), .int (Int32.ofNat a), .int (Int32.ofNat b), .int (Int32.ofNat c), .int (Int32.ofNat q)] (mW w σ) K ↔ K (grV (ilT ρ p a b c q) (ilG τ ρ p l a b c q)) (mW w σ')) := by
  have M := h
  obtain ⟨hw, hτ, hρ, hv, hr, hp2, htp, htb, htl, hn, hn12, hbk, him⟩ := h
  have M0 := mIn_Z M (frZ_0 (j := 0) (x := 0) (by omega))
  obtain ⟨_, hτ0, hρ0, _, _, hp20, _, htb0, _, hn0, _, hbk0, him0⟩ := M0
  have M0 := mIn_Z M (frZ_0 (j := 0) (x := 0) (by omega))
  have v0 := hv.1
  have v1 := hv.2.1
  have v2 := (hv.2.2.2.2.2.1 p hp).2
  have vl := (hv.2.2.2.2.1 l hl).2.2
  obtain ⟨b1, b2⟩ := gOn_b (c := q) hv hr (by omega : p < 3) (by omega)
  have bm : c * τ (16 + l) ≤ 99 * 999 := Nat.mul_le_mul hc.2 vl
  have eT : ilT ρ p a b c q < 2147483648 := by unfold ilT; split <;> omega
  have eG : ilG τ ρ p l a b c q < 2147483648 := by unfold ilG; split <;> omega
  have M1 := mIn_Z (σ' := su (uI σ 81 0 0) (ilT ρ p a b c q) (ilG τ ρ p l a b c q)) M uI_0s
  obtain ⟨M2, f2⟩ := mIn_g (T := ilT ρ p a b c q) (O := ilG τ ρ p l a b c q) M1
  refine ⟨_, frA_tr (frZ_A uI_0s) f2, M2, fun hD => cI_of (m := 5) (fun d hd Q hQ => ?_) rfl hD⟩
  have hd1 : 1 ≤ d := by omega
  have hd2 : 2 ≤ d := by omega
  have hd3 : 3 ≤ d := by omega
  have c1 : (Int32.ofNat (wlN τ ρ p l a b c) ≤ 0) ↔ True := iff_true_intro ((of_le0 (by omega)).mpr hy0)
  have mn := min_of (a := b) (b := a) (by omega) (by omega)
  have mx := max_2 (a := a) (b := b) (by omega) (by omega)
  have vi : vin (Int32.toInt64 (Int32.ofNat q)) (Int32.toInt64 (Int32.ofNat (min a b))) (Int32.toInt64 (Int32.ofNat (max a b))) = iB (rcP a b q) := by
    rw [vin_eq, Int32.toInt_toInt64, Int32.toInt_toInt64, Int32.toInt_toInt64, on_int (by omega), on_int (by omega), on_int (by omega)]
    exact iB_c (by unfold rcP; omega)
  refine b217_0 ?_
  have g2 : ∀ {K : Hp → Prop}, wpV d 158 [.ref 81, .int (Int32.ofNat p), .int (Int32.ofNat q), .int (Int32.ofNat q)] (mW w (uI σ 81 0 0)) K ↔ _ := fun {K} => g_158c (K := K) hw hτ0 hρ0 hv hr (by omega : p < 3) (by omega : q < 12) hd2
  simp only [mn, mx]
  by_cases z : rcP a b q
  · have e1 : ilT ρ p a b c q = tOn ρ p q + c := by unfold ilT; rw [if_pos z]
    have e2 : ilG τ ρ p l a b c q = gOn τ ρ p q + c * τ (16 + l) := by unfold ilG; rw [if_pos z]
    have g9 : ∀ {K : Int32 → Hp → Prop}, wpI d 209 [.ref 81] (mW w (su (uI σ 81 0 0) (ilT ρ p a b c q) (ilG τ ρ p l a b c q))) K ↔ _ := fun {K} => g_209 (K := K) hw su_16 su_17 eT eG hd3
    rw [e1, e2] at g9 hQ
    rw [← su_w (T := tOn ρ p q) (G := gOn τ ρ p q)] at g9 hQ
    have hτS := mT_c hτ0 (su_a (σ := (uI σ 81 0 0)) (T := tOn ρ p q) (G := gOn τ ρ p q) (by omega : (83 : Nat) ≠ 81))
    simp only [↓br_pos, ↓br_neg, ↓rF_I, ↓rF_L, ↓rF_R, ↓rF_N, rO_m, rB_m, ↓rI_m, wI_m, ↓rB2_m, ↓rB3_m, wB2_m, wB3_m, ↓rL_m, wL_m, ↓rQ_m, wQ_m, ↓lI_m, pI_m, pL_m, pR_m, sI_m, sBy_m, sBo_m, sL_m, sQ_m, fst_m, true_and, and_true, tg_some, ln_some, uI_1, uI_2, uL_1, uL_2, uL_3, uQ_1, uQ_2, uQ_3, rv_i, rv_l, rv_n, rv_b0, rv_b1, RMR, ne_eq, reduceCtorEq, not_false_eq_true, Option.getD_some, if_true, if_false, and_self, false_and, and_false, Nat.add_left_cancel_iff, Nat.add_eq_left, Nat.left_eq_add, Nat.one_ne_zero, Nat.reduceAdd, Nat.reduceLT, Nat.reduceLeDiff, Nat.reduceEqDiff, true_implies, false_implies, implies_true, Option.some.injEq, forall_eq', forall_eq, reduceCtorEq, brT, brF, br_s, i_10, i_01, ib_0_2, ib_1_2, tn_0, tn_1, Int32.le_refl, eq_self, rv_bN, rv_iM, RCM 81, RLY, lit_at hw, ad_2, ad_4, ad_6, ad_8, ad_10, ad_12, ad_16, ad_24, ad_27, ad_28, ad_31, ad_35, ad_43, ad_51, ad_107, ad_131, ad_311, ml_3, ml_6, ml_7, ml_60, ml_100, ml_2471, mq_12, ar_2, ar_3, ar_4, ar_5, ar_6, of_add, of_mul, on_succ, g_154 hw hτ0 hv hd3, bC_t hp hv hq, z10, g_179 hw hτ0 hρ0 hv hr (cbP_of hv hp hl ha hb hc) hp hl ha hb hc.2 hd, c1, g2, g_129 hd1, vi, iB_t z, su_16, su_17, mt hτS (by omega : 16 + l < 79), g9]
    exact hQ
  · have e1 : ilT ρ p a b c q = tOn ρ p q := by unfold ilT; rw [if_neg z, Nat.add_zero]
    have e2 : ilG τ ρ p l a b c q = gOn τ ρ p q := by unfold ilG; rw [if_neg z, Nat.zero_mul, Nat.add_zero]
    have g9 : ∀ {K : Int32 → Hp → Prop}, wpI d 209 [.ref 81] (mW w (su (uI σ 81 0 0) (ilT ρ p a b c q) (ilG τ ρ p l a b c q))) K ↔ _ := fun {K} => g_209 (K := K) hw su_16 su_17 eT eG hd3
    rw [e1, e2] at g9 hQ
    simp only [↓br_pos, ↓br_neg, ↓rF_I, ↓rF_L, ↓rF_R, ↓rF_N, rO_m, rB_m, ↓rI_m, wI_m, ↓rB2_m, ↓rB3_m, wB2_m, wB3_m, ↓rL_m, wL_m, ↓rQ_m, wQ_m, ↓lI_m, pI_m, pL_m, pR_m, sI_m, sBy_m, sBo_m, sL_m, sQ_m, fst_m, true_and, and_true, tg_some, ln_some, uI_1, uI_2, uL_1, uL_2, uL_3, uQ_1, uQ_2, uQ_3, rv_i, rv_l, rv_n, rv_b0, rv_b1, RMR, ne_eq, reduceCtorEq, not_false_eq_true, Option.getD_some, if_true, if_false, and_self, false_and, and_false, Nat.add_left_cancel_iff, Nat.add_eq_left, Nat.left_eq_add, Nat.one_ne_zero, Nat.reduceAdd, Nat.reduceLT, Nat.reduceLeDiff, Nat.reduceEqDiff, true_implies, false_implies, implies_true, Option.some.injEq, forall_eq', forall_eq, reduceCtorEq, brT, brF, br_s, i_10, i_01, ib_0_2, ib_1_2, tn_0, tn_1, Int32.le_refl, eq_self, rv_bN, rv_iM, RCM 81, RLY, lit_at hw, g_154 hw hτ0 hv hd3, bC_t hp hv hq, z10, z00, g_179 hw hτ0 hρ0 hv hr (cbP_of hv hp hl ha hb hc) hp hl ha hb hc.2 hd, c1, g2, g_129 hd1, vi, iB_f z, g9]
    exact hQ
end
