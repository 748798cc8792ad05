/-! the model's calls: lay, cut, sail -/
theorem pours_li {ρ : Rw} {p k b t c : Nat} (hp : p < 3) (hk : k < 60) (hl : ρ (lo p k) < 12) : ∀ j, b + j ≤ c → c < 12 → pours ρ p k b t j (li p k c) = ρ (li p k c) := by
  intro j
  induction j with
  | zero => intro _ _; rfl
  | succ j ih =>
    intro h1 h2
    have e : pours ρ p k b t j (lo p k) = ρ (lo p k) := (pours_g hp hk hl j).1 _ (by unfold lo; omega)
    show sPour (pours ρ p k b t j) p k (b + j) t (li p k c) = _
    rw [sPour_1, e, if_neg (by unfold li; omega), if_neg (by unfold li; omega)]
    exact ih (by omega) h2
theorem pours_c {ρ ρ' : Rw} {p k b t : Nat} (hp : p < 3) (hk : k < 60) (hl : ρ (lo p k) < 12) (e : ∀ j, j ≠ 2 → j ≠ 4 → ρ' j = ρ j) : ∀ n j, j ≠ 2 → j ≠ 4 → pours ρ' p k b t n j = pours ρ p k b t n j := by
  intro n
  induction n with
  | zero => exact e
  | succ n ih =>
    intro j h2 h4
    have el : pours ρ' p k b t n (lo p k) = pours ρ p k b t n (lo p k) := ih _ (by unfold lo; omega) (by unfold lo; omega)
    have el' : pours ρ p k b t n (lo p k) = ρ (lo p k) := (pours_g hp hk hl n).1 _ (by unfold lo; omega)
    show sPour (pours ρ' p k b t n) p k (b + n) t j = sPour (pours ρ p k b t n) p k (b + n) t j
    rw [sPour_1, sPour_1, el, ih (12 + pours ρ p k b t n (lo p k)) (by omega) (by omega), ih (li p k (b + n)) (by unfold li; omega) (by unfold li; omega), ih j h2 h4]
theorem o_181 {w : mT} {σ : mS} {ρ : Rw} {p l : Nat} (hw : lit w) (hρ : mRow σ 85 0 ρ) (hp : p < 3) (hk : ρ (24 + p) < 60) : ∃ σ', frR 85 86 σ σ' ∧ mRow σ' 85 0 (sAdd ρ p l) ∧ ∀ {D : Nat} {K : Int32 → Hp → Prop}, 1 ≤ D → (wpI D 181 [.ref 81, .int (Int32.ofNat p), .int (Int32.ofNat l)] (mW w σ) K ↔ K (Int32.ofNat (ρ (24 + p))) (mW w σ')) := by
  have e : 131 + 60 * p + ρ (24 + p) = lo p (ρ (24 + p)) := by unfold lo; omega
  refine ⟨uI (uI σ 85 (24 + p) (Int32.ofNat (ρ (24 + p) + 1))) 85 (lo p (ρ (24 + p))) (Int32.ofNat l), frR_tr (frR_I (by omega)) (frR_I (by omega)), mR_e (mR_w (mR_w hρ)) (fun j hj => ?_), fun hD => cI_of (m := 0) (fun d hd Q hQ => ?_) rfl hD⟩
  · rw [sAdd_1, rSet_1, rSet_1]
    by_cases c : j = 24 + p
    · rw [if_pos c, if_neg (by unfold lo; omega), if_pos c]
    · rw [if_neg c, if_neg c]
  · refine b181_0 ?_
    simp only [↓br_pos, ↓br_neg, ↓rF_I, ↓rF_L, ↓rF_R, ↓rF_N, rO_m, rB_m, ↓rI_m, wI_m, ↓rB2_m, ↓rB3_m, wB2_m, wB3_m, ↓rL_m, wL_m, ↓rQ_m, wQ_m, ↓lI_m, pI_m, pL_m, pR_m, sI_m, sBy_m, sBo_m, sL_m, sQ_m, fst_m, true_and, and_true, tg_some, ln_some, uI_1, uI_2, uL_1, uL_2, uL_3, uQ_1, uQ_2, uQ_3, rv_i, rv_l, rv_n, rv_b0, rv_b1, RMR, ne_eq, reduceCtorEq, not_false_eq_true, Option.getD_some, if_true, if_false, and_self, false_and, and_false, Nat.add_left_cancel_iff, Nat.add_eq_left, Nat.left_eq_add, Nat.one_ne_zero, Nat.reduceAdd, Nat.reduceLT, Nat.reduceLeDiff, Nat.reduceEqDiff, true_implies, false_implies, implies_true, Option.some.injEq, forall_eq', forall_eq, reduceCtorEq, brT, brF, br_s, i_10, i_01, ib_0_2, ib_1_2, tn_0, tn_1, Int32.le_refl, eq_self, rv_bN, rv_iM, RCM 81, RLY, lit_at hw, mr hρ (by omega : 24 + p < 2471), ad_2, ad_4, ad_6, ad_8, ad_10, ad_12, ad_16, ad_24, ad_27, ad_28, ad_31, ad_35, ad_43, ad_51, ad_107, ad_131, ad_311, ml_3, ml_6, ml_7, ml_60, ml_100, ml_2471, mq_12, ar_2, ar_3, ar_4, ar_5, ar_6, of_add, of_mul, on_succ, e, ix (by unfold lo; omega : lo p (ρ (24 + p)) < 2471) (by omega)]
    exact hQ
theorem lp_182 {w : mT} {τ ρ : Rw} {p l k b t N hi a b' : Nat} (hw : lit w) (hr : vRow τ ρ) (hv : vTold τ) (hp : p < 3) (hk : k < 60) (hlo : ρ (lo p k) = l) (hl : l < 12) (hb : b + N ≤ 12) (hh : b + N = hi + 1) (ht : N * t ≤ ρ (12 + l)) (hz : ∀ c, c < 12 → ρ (li p k c) = 0) (hhi : hi = max a b') (ha : a < 12) (hb' : b' < 12) (hle : ρ (12 + l) < 1000000) : ∀ (r j : Nat) (σ : mS), j + r = N → mRow σ 85 0 (pours ρ p k b t j) → ∃ σ', frR 85 86 σ σ' ∧ mRow σ' 85 0 (pours ρ p k b t N) ∧ ∀ {Q : Option (Option Value) → Hp → Prop} {d : Nat}, 1 ≤ d → Q (some none) (mW w σ') → Wp 182 16 [.ref 81, .int (Int32.ofNat p), .int (Int32.ofNat l), .int (Int32.ofNat a), .int (Int32.ofNat b'), .int (Int32.ofNat t), .int (Int32.ofNat k), .int (Int32.ofNat (b + j))] [] (mW w σ) Q d := by
  have g := pours_g (ρ := ρ) (p := p) (k := k) (lo' := b) (t := t) hp hk (by omega)
  rw [hlo] at g
  have mx := max_2 (a := a) (b := b') (by omega) (by omega)
  rw [← hhi] at mx
  intro r
  induction r with
  | zero =>
    intro j σ hj hρ
    have hj' : j = N := by omega
    subst hj'
    refine ⟨σ, frR_rf, hρ, fun hd hQ => ?_⟩
    have l1 : (Int32.ofNat hi < Int32.ofNat (b + j)) ↔ True := iff_true_intro ((on_lt (by omega) (by omega)).mpr (by omega))
    refine b182_16 ?_
    simp only [mx]
    simp only [↓br_pos, ↓br_neg, ↓rF_I, ↓rF_L, ↓rF_R, ↓rF_N, rO_m, rB_m, ↓rI_m, wI_m, ↓rB2_m, ↓rB3_m, wB2_m, wB3_m, ↓rL_m, wL_m, ↓rQ_m, wQ_m, ↓lI_m, pI_m, pL_m, pR_m, sI_m, sBy_m, sBo_m, sL_m, sQ_m, fst_m, true_and, and_true, tg_some, ln_some, uI_1, uI_2, uL_1, uL_2, uL_3, uQ_1, uQ_2, uQ_3, rv_i, rv_l, rv_n, rv_b0, rv_b1, RMR, ne_eq, reduceCtorEq, not_false_eq_true, Option.getD_some, if_true, if_false, and_self, false_and, and_false, Nat.add_left_cancel_iff, Nat.add_eq_left, Nat.left_eq_add, Nat.one_ne_zero, Nat.reduceAdd, Nat.reduceLT, Nat.reduceLeDiff, Nat.reduceEqDiff, true_implies, false_implies, implies_true, Option.some.injEq, forall_eq', forall_eq, reduceCtorEq, brT, brF, br_s, i_10, i_01, ib_0_2, ib_1_2, tn_0, tn_1, Int32.le_refl, eq_self, rv_bN, rv_iM, l1]
    exact hQ
  | succ r ih =>
    intro j σ hj hρ
    have hle1 : (j + 1) * t ≤ N * t := Nat.mul_le_mul_right _ (by omega)
    rw [Nat.succ_mul] at hle1
    have el : pours ρ p k b t j (lo p k) = l := by rw [g j |>.1 _ (by unfold lo; omega)]; exact hlo
    have ez : pours ρ p k b t j (li p k (b + j)) = 0 := by rw [pours_li hp hk (by omega) j (Nat.le_refl _) (by omega)]; exact hz _ (by omega)
    have e12 := (g j).2
    have l1 : (Int32.ofNat hi < Int32.ofNat (b + j)) ↔ False := iff_false_intro (fun q => absurd ((on_lt (by omega) (by omega)).mp q) (by omega))
    have ρ1 : mRow (uI (uI σ 85 (li p k (b + j)) (Int32.ofNat t)) 85 (12 + l) (Int32.ofNat (pours ρ p k b t j (12 + l) - t))) 85 0 (pours ρ p k b t (j + 1)) := mR_e (mR_w (mR_w hρ)) (fun i hi => by
      show sPour (pours ρ p k b t j) p k (b + j) t i = _
      rw [sPour_1, el, ez, Nat.zero_add, rSet_1, rSet_1])
    obtain ⟨σ2, f2, t2, e2⟩ := ih (j + 1) _ (by omega) ρ1
    refine ⟨σ2, frR_tr (frR_tr (frR_I (by omega)) (frR_I (by omega))) f2, t2, fun hd hQ => ?_⟩
    have nx := e2 hd hQ
    rw [← of_sub (by omega)] at nx
    have x1 : ((12 + l : Nat) = li p k (b + j)) ↔ False := iff_false_intro (by unfold li; omega)
    refine b182_16 ?_
    simp only [mx]
    simp only [↓br_pos, ↓br_neg, ↓rF_I, ↓rF_L, ↓rF_R, ↓rF_N, rO_m, rB_m, ↓rI_m, wI_m, ↓rB2_m, ↓rB3_m, wB2_m, wB3_m, ↓rL_m, wL_m, ↓rQ_m, wQ_m, ↓lI_m, pI_m, pL_m, pR_m, sI_m, sBy_m, sBo_m, sL_m, sQ_m, fst_m, true_and, and_true, tg_some, ln_some, uI_1, uI_2, uL_1, uL_2, uL_3, uQ_1, uQ_2, uQ_3, rv_i, rv_l, rv_n, rv_b0, rv_b1, RMR, ne_eq, reduceCtorEq, not_false_eq_true, Option.getD_some, if_true, if_false, and_self, false_and, and_false, Nat.add_left_cancel_iff, Nat.add_eq_left, Nat.left_eq_add, Nat.one_ne_zero, Nat.reduceAdd, Nat.reduceLT, Nat.reduceLeDiff, Nat.reduceEqDiff, true_implies, false_implies, implies_true, Option.some.injEq, forall_eq', forall_eq, reduceCtorEq, brT, brF, br_s, i_10, i_01, ib_0_2, ib_1_2, tn_0, tn_1, Int32.le_refl, eq_self, rv_bN, rv_iM, RCM 81, RLY, lit_at hw, l1, g_156 hd, ix (by unfold li; omega : li p k (b + j) < 2471) (by omega), mr hρ (by omega : 12 + l < 2471), ad_2, ad_4, ad_6, ad_8, ad_10, ad_12, ad_16, ad_24, ad_27, ad_28, ad_31, ad_35, ad_43, ad_51, ad_107, ad_131, ad_311, ml_3, ml_6, ml_7, ml_60, ml_100, ml_2471, mq_12, ar_2, ar_3, ar_4, ar_5, ar_6, of_add, of_mul, on_succ, x1]
    exact nx
theorem o_182 {w : mT} {σ : mS} {τ ρ : Rw} {p l a b t : Nat} (hw : lit w) (hρ : mRow σ 85 0 ρ) (hv : vTold τ) (hr : vRow τ ρ) (hp : p < 3) (hl : l < τ 0) (ha : a < 12) (hb : b < 12) (hk : ρ (24 + p) < 60) (ht : t * (dist b a + 1) ≤ ρ (12 + l)) : ∃ σ', frR 85 86 σ σ' ∧ mRow σ' 85 0 (pours (sAdd ρ p l) p (ρ (24 + p)) (min a b) t (dist b a + 1)) ∧ ∀ {D : Nat} {K : Hp → Prop}, 2 ≤ D → (wpV D 182 [.ref 81, .int (Int32.ofNat p), .int (Int32.ofNat l), .int (Int32.ofNat a), .int (Int32.ofNat b), .int (Int32.ofNat t)] (mW w σ) K ↔ K (mW w σ')) := by
  have v0 := hv.1
  have rA := vRow_add hv hr hp hl hk
  have lf := left_lt hr hl
  obtain ⟨σ1, f1, r1, e1⟩ := o_181 (l := l) hw hρ hp hk
  have elo : sAdd ρ p l (lo p (ρ (24 + p))) = l := by rw [sAdd_1, if_neg (by unfold lo; omega), if_pos rfl]
  have el : sAdd ρ p l (12 + l) = ρ (12 + l) := by rw [sAdd_1, if_neg (by omega), if_neg (by unfold lo; omega)]
  have ez : ∀ c, c < 12 → sAdd ρ p l (li p (ρ (24 + p)) c) = 0 := fun c hc => by
    rw [sAdd_1, if_neg (by unfold li; omega), if_neg (by unfold li lo; omega)]
    exact vR_z hr p hp _ (Nat.le_refl _) hk c hc
  obtain ⟨σ2, f2, r2, e2⟩ := lp_182 (w := w) (τ := τ) (k := ρ (24 + p)) (b := min a b) (t := t) (N := dist b a + 1) (hi := max a b) (a := a) (b' := b) hw rA hv hp hk elo (by omega) (by unfold dist; omega) (by unfold dist; omega) (by rw [el, Nat.mul_comm]; exact ht) ez rfl ha hb (by rw [el]; omega) (dist b a + 1) 0 σ1 (by omega) r1
  refine ⟨σ2, frR_tr f1 f2, r2, fun hD => cV_of (m := 1) (fun d hd Q hQ => ?_) rfl hD⟩
  refine b182_0 ?_
  have mn := min_of (a := b) (b := a) (by omega) (by omega)
  simp only [↓br_pos, ↓br_neg, ↓rF_I, ↓rF_L, ↓rF_R, ↓rF_N, rO_m, rB_m, ↓rI_m, wI_m, ↓rB2_m, ↓rB3_m, wB2_m, wB3_m, ↓rL_m, wL_m, ↓rQ_m, wQ_m, ↓lI_m, pI_m, pL_m, pR_m, sI_m, sBy_m, sBo_m, sL_m, sQ_m, fst_m, true_and, and_true, tg_some, ln_some, uI_1, uI_2, uL_1, uL_2, uL_3, uQ_1, uQ_2, uQ_3, rv_i, rv_l, rv_n, rv_b0, rv_b1, RMR, ne_eq, reduceCtorEq, not_false_eq_true, Option.getD_some, if_true, if_false, and_self, false_and, and_false, Nat.add_left_cancel_iff, Nat.add_eq_left, Nat.left_eq_add, Nat.one_ne_zero, Nat.reduceAdd, Nat.reduceLT, Nat.reduceLeDiff, Nat.reduceEqDiff, true_implies, false_implies, implies_true, Option.some.injEq, forall_eq', forall_eq, reduceCtorEq, brT, brF, br_s, i_10, i_01, ib_0_2, ib_1_2, tn_0, tn_1, Int32.le_refl, eq_self, rv_bN, rv_iM, RCM 81, RLY, lit_at hw, e1 hd]
  simp only [mn]
  exact e2 hd hQ
theorem wl_ex {τ ρ : Rw} {p l a b c : Nat} (h : wlN τ ρ p l a b c = 0) : c * (dist b a + 1) ≤ ρ (12 + l) ∧ apP τ ρ 0 p a b ∧ ρ (24 + p) < 60 := by
  unfold wlN at h
  by_cases z : ρ (12 + l) < c * (dist b a + 1)
  · rw [if_pos z] at h; omega
  · rw [if_neg z] at h
    by_cases y : apP τ ρ 0 p a b
    · rw [if_neg (fun q => q y)] at h
      by_cases x : 60 ≤ ρ (24 + p)
      · rw [if_pos x] at h; omega
      · exact ⟨by omega, y, by omega⟩
    · rw [if_pos y] at h; omega
theorem tn4 : (4 : Int32).toNatClampNeg = 4 := by decide
theorem tn5 : (5 : Int32).toNatClampNeg = 5 := by decide
theorem tn6 : (6 : Int32).toNatClampNeg = 6 := by decide
theorem tn7 : (7 : Int32).toNatClampNeg = 7 := by decide
theorem vRow_layA {τ ρ : Rw} {p l a b c : Nat} (hv : vTold τ) (hr : vRow τ ρ) (hp : p < τ 1) (hl : l < τ 0) (ha : a < τ (28 + p)) (hb' : b < τ (28 + p)) (hc : 1 ≤ c ∧ c ≤ 99) (hn : wlN τ ρ p l a b c = 0) : vRow τ (sLayA ρ p l a b c) := by
  obtain ⟨hle, _, h60⟩ := wl_ex hn
  have v0 := hv.1
  have v1 := hv.2.1
  have v3 := (hv.2.2.2.2.2.1 p hp).2
  have r1 := vRow_go (m := 0) hv hr (by omega) hp ha
  have r2 := vRow_go (m := 0) hv r1 (by omega) hp hb'
  have gg : ∀ j, j ≠ 2 → j ≠ 4 → sGo (sGo ρ 0 p a) 0 p b j = ρ j := fun j j2 j4 => by rw [sGo_g (by omega) (by omega), sGo_g (by omega) (by omega)]
  have r3 : vRow τ (sTo ρ p l a b) := vRow_add hv r2 (by omega) hl (by rw [gg _ (by omega) (by omega)]; exact h60)
  have a24 : sTo ρ p l a b (24 + p) = ρ (24 + p) + 1 := by
    unfold sTo
    rw [sAdd_1, if_pos rfl, gg _ (by omega) (by omega)]
  have alo : sTo ρ p l a b (lo p (ρ (24 + p))) = l := by
    unfold sTo
    rw [sAdd_1, if_neg (by unfold lo; omega), gg (24 + p) (by omega) (by omega), if_pos rfl]
  have al : sTo ρ p l a b (12 + l) = ρ (12 + l) := by
    unfold sTo
    rw [sAdd_1, if_neg (by omega), if_neg (by unfold lo; omega), gg _ (by omega) (by omega)]
  have hmc : (dist b a + 1) * c ≤ sTo ρ p l a b (12 + sTo ρ p l a b (lo p (ρ (24 + p)))) := by rw [alo, al, Nat.mul_comm]; exact hle
  exact vRow_s hv (vRow_ps hv r3 (by omega) (by rw [a24]; omega) (by unfold dist; omega) hmc _ (Nat.le_refl _)) (by omega)
theorem m_180z {w : mT} {σ : mS} {tp n : Nat} {t : Nat → Nat} {τ ρ : Rw} {bk : Nat → Rw} {has : Nat → Bool} {im : Nat → Rw} {p l a b c : Int32} {D : Nat} {K : Int32 → Hp → Prop} (h : mIn w σ tp t τ ρ n bk has im) (ha : ¬ cbP τ p l a b c) (hD : 6 ≤ D) : wpI D 180 [.ref 81, .int p, .int l, .int a, .int b, .int c] (mW w σ) K ↔ K 1 (mW w (uI σ 81 0 0)) := by
  have M := h
  obtain ⟨hw, hτ, hρ, hv, hr, hp2, htp, htb, htl, hn, hn12, hbk, him⟩ := h
  have M0 := mIn_Z M (frZ_0 (j := 0) (x := 0) (by omega))
  obtain ⟨_, hτ0, hρ0, _, _, hp20, _, htb0, _, hn0, _, hbk0, him0⟩ := M0
  have M0 := mIn_Z M (frZ_0 (j := 0) (x := 0) (by omega))
  refine cI_of (m := 5) (fun d hd Q hQ => ?_) rfl hD
  refine b180_0 ?_
  simp only [↓br_pos, ↓br_neg, ↓rF_I, ↓rF_L, ↓rF_R, ↓rF_N, rO_m, rB_m, ↓rI_m, wI_m, ↓rB2_m, ↓rB3_m, wB2_m, wB3_m, ↓rL_m, wL_m, ↓rQ_m, wQ_m, ↓lI_m, pI_m, pL_m, pR_m, sI_m, sBy_m, sBo_m, sL_m, sQ_m, fst_m, true_and, and_true, tg_some, ln_some, uI_1, uI_2, uL_1, uL_2, uL_3, uQ_1, uQ_2, uQ_3, rv_i, rv_l, rv_n, rv_b0, rv_b1, RMR, ne_eq, reduceCtorEq, not_false_eq_true, Option.getD_some, if_true, if_false, and_self, false_and, and_false, Nat.add_left_cancel_iff, Nat.add_eq_left, Nat.left_eq_add, Nat.one_ne_zero, Nat.reduceAdd, Nat.reduceLT, Nat.reduceLeDiff, Nat.reduceEqDiff, true_implies, false_implies, implies_true, Option.some.injEq, forall_eq', forall_eq, reduceCtorEq, brT, brF, br_s, i_10, i_01, ib_0_2, ib_1_2, tn_0, tn_1, Int32.le_refl, eq_self, rv_bN, rv_iM, RCM 81, RLY, lit_at hw, g_179z hw hτ0 hv ha hd]
  exact hQ
theorem m_180 {w : mT} {σ : mS} {tp n : Nat} {t : Nat → Nat} {τ ρ : Rw} {bk : Nat → Rw} {has : Nat → Bool} {im : Nat → Rw} {p l a b c : Nat} {D : Nat} {K : Int32 → Hp → Prop} (h : mIn w σ tp t τ ρ n bk has im) (hp : p < τ 1) (hl : l < τ 0) (ha : a < τ (28 + p)) (hb : b < τ (28 + p)) (hc : 1 ≤ c ∧ c ≤ 99) (hD : 6 ≤ D) : wpI D 180 [.ref 81, .int (Int32.ofNat p), .int (Int32.ofNat l), .int (Int32.ofNat a), .int (Int32.ofNat b), .int (Int32.ofNat c)] (mW w σ) K ↔ K (Int32.ofNat (wlN τ ρ p l a b c)) (mW w (uI σ 81 0 0)) := by
  have M := h
  obtain ⟨hw, hτ, hρ, hv, hr, hp2, htp, htb, htl, hn, hn12, hbk, him⟩ := h
  have M0 := mIn_Z M (frZ_0 (j := 0) (x := 0) (by omega))
  obtain ⟨_, hτ0, hρ0, _, _, hp20, _, htb0, _, hn0, _, hbk0, him0⟩ := M0
  have M0 := mIn_Z M (frZ_0 (j := 0) (x := 0) (by omega))
  refine cI_of (m := 5) (fun d hd Q hQ => ?_) rfl hD
  refine b180_0 ?_
  simp only [↓br_pos, ↓br_neg, ↓rF_I, ↓rF_L, ↓rF_R, ↓rF_N, rO_m, rB_m, ↓rI_m, wI_m, ↓rB2_m, ↓rB3_m, wB2_m, wB3_m, ↓rL_m, wL_m, ↓rQ_m, wQ_m, ↓lI_m, pI_m, pL_m, pR_m, sI_m, sBy_m, sBo_m, sL_m, sQ_m, fst_m, true_and, and_true, tg_some, ln_some, uI_1, uI_2, uL_1, uL_2, uL_3, uQ_1, uQ_2, uQ_3, rv_i, rv_l, rv_n, rv_b0, rv_b1, RMR, ne_eq, reduceCtorEq, not_false_eq_true, Option.getD_some, if_true, if_false, and_self, false_and, and_false, Nat.add_left_cancel_iff, Nat.add_eq_left, Nat.left_eq_add, Nat.one_ne_zero, Nat.reduceAdd, Nat.reduceLT, Nat.reduceLeDiff, Nat.reduceEqDiff, true_implies, false_implies, implies_true, Option.some.injEq, forall_eq', forall_eq, reduceCtorEq, brT, brF, br_s, i_10, i_01, ib_0_2, ib_1_2, tn_0, tn_1, Int32.le_refl, eq_self, rv_bN, rv_iM, RCM 81, RLY, lit_at hw, g_179 hw hτ0 hρ0 hv hr (cbP_of hv hp hl ha hb hc) hp hl ha hb hc.2 hd]
  exact hQ
theorem m_183z {w : mT} {σ : mS} {tp n : Nat} {t : Nat → Nat} {τ ρ : Rw} {bk : Nat → Rw} {has : Nat → Bool} {im : Nat → Rw} {p l a b c : Int32} {D : Nat} {K : Int32 → Hp → Prop} (h : mIn w σ tp t τ ρ n bk has im) (ha : ¬ cbP τ p l a b c) (hD : 6 ≤ D) : wpI D 183 [.ref 81, .int p, .int l, .int a, .int b, .int c] (mW w σ) K ↔ K (-1) (mW w (uI σ 81 0 0)) := by
  have M := h
  obtain ⟨hw, hτ, hρ, hv, hr, hp2, htp, htb, htl, hn, hn12, hbk, him⟩ := h
  have M0 := mIn_Z M (frZ_0 (j := 0) (x := 0) (by omega))
  obtain ⟨_, hτ0, hρ0, _, _, hp20, _, htb0, _, hn0, _, hbk0, him0⟩ := M0
  have M0 := mIn_Z M (frZ_0 (j := 0) (x := 0) (by omega))
  refine cI_of (m := 5) (fun d hd Q hQ => ?_) rfl hD
  refine b183_0 ?_
  have c1 : ((1 : Int32) ≤ 0) ↔ False := by decide
  simp only [↓br_pos, ↓br_neg, ↓rF_I, ↓rF_L, ↓rF_R, ↓rF_N, rO_m, rB_m, ↓rI_m, wI_m, ↓rB2_m, ↓rB3_m, wB2_m, wB3_m, ↓rL_m, wL_m, ↓rQ_m, wQ_m, ↓lI_m, pI_m, pL_m, pR_m, sI_m, sBy_m, sBo_m, sL_m, sQ_m, fst_m, true_and, and_true, tg_some, ln_some, uI_1, uI_2, uL_1, uL_2, uL_3, uQ_1, uQ_2, uQ_3, rv_i, rv_l, rv_n, rv_b0, rv_b1, RMR, ne_eq, reduceCtorEq, not_false_eq_true, Option.getD_some, if_true, if_false, and_self, false_and, and_false, Nat.add_left_cancel_iff, Nat.add_eq_left, Nat.left_eq_add, Nat.one_ne_zero, Nat.reduceAdd, Nat.reduceLT, Nat.reduceLeDiff, Nat.reduceEqDiff, true_implies, false_implies, implies_true, Option.some.injEq, forall_eq', forall_eq, reduceCtorEq, brT, brF, br_s, i_10, i_01, ib_0_2, ib_1_2, tn_0, tn_1, Int32.le_refl, eq_self, rv_bN, rv_iM, RCM 81, RLY, lit_at hw, g_179z hw hτ0 hv ha hd, c1]
  exact hQ
theorem m_183n {w : mT} {σ : mS} {tp n : Nat} {t : Nat → Nat} {τ ρ : Rw} {bk : Nat → Rw} {has : Nat → Bool} {im : Nat → Rw} {p l a b c : Nat} {D : Nat} {K : Int32 → Hp → Prop} (h : mIn w σ tp t τ ρ n bk has im) (hp : p < τ 1) (hl : l < τ 0) (ha : a < τ (28 + p)) (hb : b < τ (28 + p)) (hc : 1 ≤ c ∧ c ≤ 99) (hy0 : wlN τ ρ p l a b c ≠ 0) (hD : 6 ≤ D) : wpI D 183 [.ref 81, .int (Int32.ofNat p), .int (Int32.ofNat l), .int (Int32.ofNat a), .int (Int32.ofNat b), .int (Int32.ofNat c)] (mW w σ) K ↔ K (-1) (mW w (uI σ 81 0 0)) := by
  have M := h
  obtain ⟨hw, hτ, hρ, hv, hr, hp2, htp, htb, htl, hn, hn12, hbk, him⟩ := h
  have M0 := mIn_Z M (frZ_0 (j := 0) (x := 0) (by omega))
  obtain ⟨_, hτ0, hρ0, _, _, hp20, _, htb0, _, hn0, _, hbk0, him0⟩ := M0
  have M0 := mIn_Z M (frZ_0 (j := 0) (x := 0) (by omega))
  refine cI_of (m := 5) (fun d hd Q hQ => ?_) rfl hD
  have lt := wl_lt (τ := τ) (ρ := ρ) (p := p) (l := l) (a := a) (b := b) (t := c)
  refine b183_0 ?_
  have c1 : (Int32.ofNat (wlN τ ρ p l a b c) ≤ 0) ↔ False := iff_false_intro (fun q => hy0 ((of_le0 (by omega)).mp q))
  simp only [↓br_pos, ↓br_neg, ↓rF_I, ↓rF_L, ↓rF_R, ↓rF_N, rO_m, rB_m, ↓rI_m, wI_m, ↓rB2_m, ↓rB3_m, wB2_m, wB3_m, ↓rL_m, wL_m, ↓rQ_m, wQ_m, ↓lI_m, pI_m, pL_m, pR_m, sI_m, sBy_m, sBo_m, sL_m, sQ_m, fst_m, true_and, and_true, tg_some, ln_some, uI_1, uI_2, uL_1, uL_2, uL_3, uQ_1, uQ_2, uQ_3, rv_i, rv_l, rv_n, rv_b0, rv_b1, RMR, ne_eq, reduceCtorEq, not_false_eq_true, Option.getD_some, if_true, if_false, and_self, false_and, and_false, Nat.add_left_cancel_iff, Nat.add_eq_left, Nat.left_eq_add, Nat.one_ne_zero, Nat.reduceAdd, Nat.reduceLT, Nat.reduceLeDiff, Nat.reduceEqDiff, true_implies, false_implies, implies_true, Option.some.injEq, forall_eq', forall_eq, reduceCtorEq, brT, brF, br_s, i_10, i_01, ib_0_2, ib_1_2, tn_0, tn_1, Int32.le_refl, eq_self, rv_bN, rv_iM, RCM 81, RLY, lit_at hw, g_179 hw hτ0 hρ0 hv hr (cbP_of hv hp hl ha hb hc) hp hl ha hb hc.2 hd, c1]
  exact hQ
theorem m_183 {w : mT} {σ : mS} {tp n : Nat} {t : Nat → Nat} {τ ρ : Rw} {bk : Nat → Rw} {has : Nat → Bool} {im : Nat → Rw} {p l a b c : Nat} (h : mIn w σ tp t τ ρ n bk has im) (hp : p < τ 1) (hl : l < τ 0) (ha : a < τ (28 + p)) (hb : b < τ (28 + p)) (hc : 1 ≤ c ∧ c ≤ 99) (hy0 : wlN τ ρ p l a b c = 0) : ∃ σ', frA σ σ' ∧ mIn w σ' tp t τ (sLayA ρ p l a b c) (nPh n) (bkPh n bk ρ) has im ∧ ∀ {D : Nat} {K : Int32 → Hp → Prop}, 6 ≤ D → (wpI D 183 [.ref 81, .int (Int32.ofNat p), .int (Int32.ofNat l), .int (Int32.ofNat a), .int (Int32.ofNat b), .int (Int32.ofNat c)] (mW w σ) K ↔ K (Int32.ofNat (sTo ρ p l a b 4) - Int32.ofNat (ρ 4)) (mW w σ')) := by
  have M := h
  obtain ⟨hw, hτ, hρ, hv, hr, hp2, htp, htb, htl, hn, hn12, hbk, him⟩ := h
  have M0 := mIn_Z M (frZ_0 (j := 0) (x := 0) (by omega))
  obtain ⟨_, hτ0, hρ0, _, _, hp20, _, htb0, _, hn0, _, hbk0, him0⟩ := M0
  have M0 := mIn_Z M (frZ_0 (j := 0) (x := 0) (by omega))
  obtain ⟨σ1, f1, M1, k1⟩ := k_177 M0
  have hρ1 := M1.2.2.1
  have hτ1 := M1.2.1
  have F1 := frA_tr (frA_I (σ := σ) (a := 81) (j := 0) (x := 0) (by omega)) f1
  obtain ⟨w1, w2, w3⟩ := wl_ex hy0
  have v0 := hv.1
  have v1 := hv.2.1
  have v3 := (hv.2.2.2.2.2.1 p hp).2
  have hs0 := onP_lt hv (vR_on hr (by omega : 0 < 2))
  obtain ⟨σ2, f2, r2, e2⟩ := o_182 (w := w) (t := c) hw hρ1 hv hr (by omega : p < 3) hl (by omega : a < 12) (by omega : b < 12) w3 w1
  have rA := vRow_add hv hr (by omega : p < 3) hl w3
  have g0 := pours_g (ρ := sAdd ρ p l) (p := p) (k := ρ (24 + p)) (lo' := min a b) (t := c) (by omega) w3 (by rw [sAdd_1, if_neg (by unfold lo; omega), if_pos rfl]; omega) (dist b a + 1)
  have e4 : pours (sAdd ρ p l) p (ρ (24 + p)) (min a b) c (dist b a + 1) 4 = ρ 4 := by rw [g0.1 4 (by omega), sAdd_1, if_neg (by omega), if_neg (by unfold lo; omega)]
  have q4 : sTo ρ p l a b 4 = ρ 4 + ((if onAtD ρ 0 p then dist (cellAt ρ 0) a else 10) + dist b a) := by
    unfold sTo
    rw [sAdd_1, if_neg (by omega), if_neg (by unfold lo; omega)]
    have o2 : onAtD (sGo ρ 0 p a) 0 p = true := decide_eq_true (by unfold sGo; rw [rS_eq]; omega)
    have c2 : cellAt (sGo ρ 0 p a) 0 = a := by unfold cellAt sGo; rw [rS_eq]; omega
    have s4 : sGo ρ 0 p a 4 = ρ 4 + (if onAtD ρ 0 p then dist (cellAt ρ 0) a else 10) := by
      unfold sGo
      rw [rS_ne (by omega)]
      exact rS_eq (j := 4)
    have y4 : sGo (sGo ρ 0 p a) 0 p b 4 = sGo ρ 0 p a 4 + (if onAtD (sGo ρ 0 p a) 0 p = true then dist (cellAt (sGo ρ 0 p a) 0) b else 10) := by
      unfold sGo
      rw [rS_ne (by omega)]
      exact rS_eq (j := 4)
    rw [y4, if_pos o2, c2, s4]
    have : dist a b = dist b a := by unfold dist; omega
    omega
  have vr : vRow τ (sLayA ρ p l a b c) := vRow_layA hv hr hp hl ha hb hc hy0
  have r3 := mR_w (j := 6) (x := 0) (mR_w (j := 4) (x := ρ 4 + ((if onAtD ρ 0 p then dist (cellAt ρ 0) a else 10) + dist b a)) (mR_w (j := 2 + 0) (x := 100 * p + b + 1) r2))
  refine ⟨uI (uI (uI σ2 85 (2 + 0) (Int32.ofNat (100 * p + b + 1))) 85 4 (Int32.ofNat (ρ 4 + ((if onAtD ρ 0 p then dist (cellAt ρ 0) a else 10) + dist b a)))) 85 6 0, frA_tr F1 (frA_tr (frA_R f2 (by omega)) (frA_tr (frA_I (by omega)) (frA_tr (frA_I (by omega)) (frA_I (by omega))))), mIn_row M1 (frR_tr f2 (frR_tr (frR_I (by omega)) (frR_tr (frR_I (by omega)) (frR_I (by omega))))) (mR_e r3 (fun j hj => ?_)) vr, fun hD => cI_of (m := 5) (fun d hd Q hQ => ?_) rfl hD⟩
  · have pc := pours_c (ρ := sAdd ρ p l) (ρ' := sTo ρ p l a b) (p := p) (k := ρ (24 + p)) (b := min a b) (t := c) (by omega) w3 (by rw [sAdd_1, if_neg (by unfold lo; omega), if_pos rfl]; omega) (fun j h2 h4 => by
      have gg : ∀ j, j ≠ 2 → j ≠ 4 → sGo (sGo ρ 0 p a) 0 p b j = ρ j := fun j j2 j4 => by rw [sGo_g (by omega) (by omega), sGo_g (by omega) (by omega)]
      unfold sTo
      rw [sAdd_1, sAdd_1, gg (24 + p) (by omega) (by omega), gg j h2 h4]) (dist b a + 1)
    have alo : sTo ρ p l a b (lo p (ρ (24 + p))) = l := by
      unfold sTo
      rw [sAdd_1, if_neg (by unfold lo; omega), if_pos (by rw [sGo_g (by omega) (by omega), sGo_g (by omega) (by omega)])]
    have g1 := pours_g (ρ := sTo ρ p l a b) (p := p) (k := ρ (24 + p)) (lo' := min a b) (t := c) (by omega) w3 (by rw [alo]; omega) (dist b a + 1)
    unfold sLayA
    rw [rSet_1, rSet_1, rSet_1, rSet_1]
    by_cases c6 : j = 6
    · rw [if_pos c6, if_pos c6]
    · rw [if_neg c6, if_neg c6]
      by_cases c4 : j = 4
      · rw [if_pos c4, c4, g1.1 4 (by omega), q4]
      · rw [if_neg c4]
        by_cases c2 : j = 2
        · rw [if_pos c2, c2, g1.1 2 (by omega)]
          unfold sTo
          rw [sAdd_1, if_neg (by omega), if_neg (by unfold lo; omega)]
          exact rS_eq
        · rw [if_neg c2, pc j c2 c4]
  · have hd1 : 1 ≤ d := by omega
    have hd2 : 2 ≤ d := by omega
    have c1 : (Int32.ofNat (wlN τ ρ p l a b c) ≤ 0) ↔ True := iff_true_intro ((of_le0 (by omega)).mpr hy0)
    have g5 := fun {K : Int32 → Hp → Prop} => g_175 (K := K) (σ := σ1) (m := 0) (x := 0) (p := p) (c := a) hw hρ1 rfl (by omega) hs0 (by omega) (by omega) hd2
    have g6 := fun {K : Hp → Prop} => g_176 (K := K) (σ := σ2) (m := 0) (x := 0) (p := p) (c := b) hw rfl (by omega) hd1
    have m4 := (mr_4l r2).2.2
    rw [e4] at m4
    rw [q4, of_sub (by omega), Nat.add_sub_cancel_left] at hQ
    have x4 : (4 = 2 + 0) ↔ False := by decide
    refine b183_0 ?_
    simp only [↓br_pos, ↓br_neg, ↓rF_I, ↓rF_L, ↓rF_R, ↓rF_N, rO_m, rB_m, ↓rI_m, wI_m, ↓rB2_m, ↓rB3_m, wB2_m, wB3_m, ↓rL_m, wL_m, ↓rQ_m, wQ_m, ↓lI_m, pI_m, pL_m, pR_m, sI_m, sBy_m, sBo_m, sL_m, sQ_m, fst_m, true_and, and_true, tg_some, ln_some, uI_1, uI_2, uL_1, uL_2, uL_3, uQ_1, uQ_2, uQ_3, rv_i, rv_l, rv_n, rv_b0, rv_b1, RMR, ne_eq, reduceCtorEq, not_false_eq_true, Option.getD_some, if_true, if_false, and_self, false_and, and_false, Nat.add_left_cancel_iff, Nat.add_eq_left, Nat.left_eq_add, Nat.one_ne_zero, Nat.reduceAdd, Nat.reduceLT, Nat.reduceLeDiff, Nat.reduceEqDiff, true_implies, false_implies, implies_true, Option.some.injEq, forall_eq', forall_eq, reduceCtorEq, brT, brF, br_s, i_10, i_01, ib_0_2, ib_1_2, tn_0, tn_1, Int32.le_refl, eq_self, rv_bN, rv_iM, RCM 81, RLY, lit_at hw, g_179 hw hτ0 hρ0 hv hr (cbP_of hv hp hl ha hb hc) hp hl ha hb hc.2 hd, c1, k1 hd2, g5, e2 hd2, g6, inB_2471_4, inB_2471_6, tn4, tn6, x4, m4, abs_of (by omega : b < 2147483648) (by omega : a < 2147483648), ad_2, ad_4, ad_6, ad_8, ad_10, ad_12, ad_16, ad_24, ad_27, ad_28, ad_31, ad_35, ad_43, ad_51, ad_107, ad_131, ad_311, ml_3, ml_6, ml_7, ml_60, ml_100, ml_2471, mq_12, ar_2, ar_3, ar_4, ar_5, ar_6, of_add, of_mul, on_succ]
    exact hQ
