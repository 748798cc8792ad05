/-! the class's calls: spread -/
theorem lg_le0 {x y : Int64} : (lg_cmp x y ≤ 0) ↔ ¬ y < x := by
  rw [← lg_cmp_gt, Int32.not_lt]
theorem lg_ge0 {x y : Int64} : (0 ≤ lg_cmp x y) ↔ ¬ x < y := by
  rw [← lg_cmp_lt, Int32.not_lt]
theorem ol_lt {a b : Nat} (ha : a < 9223372036854775808) (hb : b < 9223372036854775808) : (Int64.ofNat a < Int64.ofNat b) ↔ a < b := by
  rw [Int64.lt_iff_toInt_lt, ol_int ha, ol_int hb]; omega
theorem lgq {a b : Nat} (ha : a < 9223372036854775808) (hb : b < 9223372036854775808) : (lg_cmp (Int64.ofNat a) (Int64.ofNat b) ≤ 0) ↔ a ≤ b := by
  rw [lg_le0, ol_lt hb ha]; omega
theorem lgp {a b : Nat} (ha : a < 9223372036854775808) (hb : b < 9223372036854775808) : (0 ≤ lg_cmp (Int64.ofNat a) (Int64.ofNat b)) ↔ b ≤ a := by
  rw [lg_ge0, ol_lt ha hb]; omega
theorem lge {a b : Nat} (ha : a < 9223372036854775808) (hb : b < 9223372036854775808) : (lg_cmp (Int64.ofNat a) (Int64.ofNat b) = 0) ↔ a = b := by
  rw [lg_cmp_eq, ol_inj ha hb]
theorem lg0 {a : Nat} (ha : a < 9223372036854775808) : (lg_cmp (Int64.ofNat a) (0 : Int64) = 0) ↔ a = 0 := lge (b := 0) ha (by omega)
theorem lg0' {a : Nat} (ha : a < 9223372036854775808) : (lg_cmp (Int64.ofNat a) (0 : Int64) ≤ 0) ↔ a = 0 := by
  have := lgq (b := 0) ha (by omega)
  exact this.trans Nat.le_zero
theorem ol_mul {a b : Nat} : Int64.ofNat a * Int64.ofNat b = Int64.ofNat (a * b) := (Int64.ofNat_mul a b).symm
theorem ol_add {a b : Nat} : Int64.ofNat a + Int64.ofNat b = Int64.ofNat (a + b) := (Int64.ofNat_add a b).symm
theorem ol_sub {a b : Nat} (h : b ≤ a) : Int64.ofNat a - Int64.ofNat b = Int64.ofNat (a - b) := by
  rw [Int64.sub_eq_iff_eq_add, ol_add, Nat.sub_add_cancel h]
/-- the least and the most grade of the cells: ore, tonnes, ore, tonnes -/
abbrev SP : Type := Nat × Nat × Nat × Nat
def spS (s : SP) (g t : Nat) : SP := if t = 0 then s else ⟨if s.2.1 = 0 ∨ g * s.2.1 < s.1 * t then g else s.1, if s.2.1 = 0 ∨ g * s.2.1 < s.1 * t then t else s.2.1, if s.2.2.2 = 0 ∨ s.2.2.1 * t < g * s.2.2.2 then g else s.2.2.1, if s.2.2.2 = 0 ∨ s.2.2.1 * t < g * s.2.2.2 then t else s.2.2.2⟩
def spB (τ ρ : Rw) (p : Nat) : Nat → SP
  | 0 => ⟨0, 0, 0, 0⟩
  | c + 1 => spS (spB τ ρ p c) (gOn τ ρ p c) (tOn ρ p c)
def spJ (s : SP) : Prop := (s.2.1 = 0 ↔ s.2.2.2 = 0) ∧ s.1 * s.2.2.2 ≤ s.2.2.1 * s.2.1 ∧ s.1 ≤ 119868012 ∧ s.2.1 ≤ 119988 ∧ s.2.2.1 ≤ 119868012 ∧ s.2.2.2 ≤ 119988
theorem spS_I {s : SP} {g t : Nat} (h : spJ s) (hg : g ≤ 119868012) (ht : t ≤ 119988) : spJ (spS s g t) := by
  obtain ⟨h1, h2, h3, h4, h5, h6⟩ := h
  unfold spS
  by_cases z : t = 0
  · rw [if_pos z]; exact ⟨h1, h2, h3, h4, h5, h6⟩
  rw [if_neg z]
  by_cases c1 : s.2.1 = 0 ∨ g * s.2.1 < s.1 * t
  · by_cases c2 : s.2.2.2 = 0 ∨ s.2.2.1 * t < g * s.2.2.2
    · simp only [if_pos c1, if_pos c2]
      exact ⟨Iff.rfl, Nat.le_refl _, hg, ht, hg, ht⟩
    · simp only [if_pos c1, if_neg c2]
      exact ⟨by show t = 0 ↔ s.2.2.2 = 0; omega, by show g * s.2.2.2 ≤ s.2.2.1 * t; omega, hg, ht, h5, h6⟩
  · by_cases c2 : s.2.2.2 = 0 ∨ s.2.2.1 * t < g * s.2.2.2
    · simp only [if_neg c1, if_pos c2]
      exact ⟨by show s.2.1 = 0 ↔ t = 0; omega, by show s.1 * t ≤ g * s.2.1; omega, h3, h4, hg, ht⟩
    · simp only [if_neg c1, if_neg c2]
      exact ⟨h1, h2, h3, h4, h5, h6⟩
theorem gOn_b {τ ρ : Rw} {p c : Nat} (hv : vTold τ) (hr : vRow τ ρ) (hp : p < 3) (hc : c < 12) : gOn τ ρ p c ≤ 119868012 ∧ tOn ρ p c ≤ 119988 := by
  have tl := tOn_lt hr hp hc
  have gl := gOn_le (c := c) hv hr hp
  omega
theorem spB_I {τ ρ : Rw} {p : Nat} (hv : vTold τ) (hr : vRow τ ρ) (hp : p < 3) : ∀ c, c ≤ 12 → spJ (spB τ ρ p c) := by
  intro c
  induction c with
  | zero => intro _; refine ⟨Iff.rfl, Nat.le_refl _, ?_, ?_, ?_, ?_⟩ <;> exact Nat.zero_le _
  | succ c ih =>
    intro hc
    have b := gOn_b hv hr hp (by omega : c < 12)
    exact spS_I (ih (by omega)) b.1 b.2
def spV (s : SP) : Int64 := if s.2.1 = 0 then -2 else Int64.ofNat ((s.2.2.1 * s.2.1 - s.1 * s.2.2.2) / gc1 (s.2.2.1 * s.2.1 - s.1 * s.2.2.2) (s.2.2.2 * s.2.1))
def spU (σ : mS) (s : SP) : mS := if s.2.1 = 0 then σ else uL σ 0 12 (Int64.ofNat (s.2.2.2 * s.2.1 / gc1 (s.2.2.1 * s.2.1 - s.1 * s.2.2.2) (s.2.2.2 * s.2.1)))
theorem cIn_spU {w : mT} {σ : mS} {tp n : Nat} {t : Nat → Nat} {τ ρ : Rw} {bk : Nat → Rw} {has : Nat → Bool} {im : Nat → Rw} {s : SP} (h : cIn w σ tp t τ ρ n bk has im) : cIn w (spU σ s) tp t τ ρ n bk has im ∧ frM σ (spU σ s) := by
  unfold spU
  split
  · exact ⟨h, frM_rf⟩
  · exact ⟨cIn_fr h (fun j hj => rfl) (fun a ha => rfl) (fun a ha => rfl), frM_L (by omega)⟩
theorem lp_105 {w : mT} {σ : mS} {P p d : Nat} {τ ρ : Rw} {Q : Option (Option Value) → Hp → Prop} (hw : lit w) (hP : P = 15 ∨ P = 25) (p3 : σ.2.2 0 3 = some P) (hτ : tTold σ P τ) (hv : vTold τ) (hρ : tSt σ 35 τ ρ) (hr : vRow τ ρ) (hp : p < τ 1) (hd2 : 2 ≤ d) (hQ : Q (some (some (.long (spV (spB τ ρ p (τ (28 + p))))))) (mW w (spU σ (spB τ ρ p (τ (28 + p)))))) : ∀ (r c : Nat) (x11 x13 : Value), c + r = τ (28 + p) → (x11 = jk ∧ x13 = jk ∧ 0 < r ∨ ∃ u v : Int64, x11 = .long u ∧ x13 = .long v) → Wp 105 29 [.ref 0, .int (Int32.ofNat p), .long (Int64.ofNat (spB τ ρ p c).1), jk, .long (Int64.ofNat (spB τ ρ p c).2.1), jk, .long (Int64.ofNat (spB τ ρ p c).2.2.1), jk, .long (Int64.ofNat (spB τ ρ p c).2.2.2), jk, .int (Int32.ofNat c), x11, jk, x13, jk] [] (mW w σ) Q d := by
  have hT := isTP hw hP
  have hT' := hT
  simp only [isT] at hT'
  have hd : 1 ≤ d := by omega
  have v1 := hv.2.1
  have v2 := (hv.2.2.2.2.2.1 p hp).2
  have eb : inB (Int32.ofNat p) 3 = true := on_inB (by omega) (by omega)
  have en := on_nat (i := p) (by omega)
  have e1 := hτ.2.2.2.2.2.1 p hp
  intro r
  induction r with
  | zero =>
    intro c x11 x13 hc hx
    have hc' : c = τ (28 + p) := by omega
    subst hc'
    obtain ⟨s1, s2, s3, s4, s5, s6⟩ := spB_I hv hr (by omega : p < 3) (τ (28 + p)) v2
    have m1 : (spB τ ρ p (τ (28 + p))).2.2.1 * (spB τ ρ p (τ (28 + p))).2.1 ≤ 119868012 * 119988 := Nat.mul_le_mul s5 s4
    have m2 : (spB τ ρ p (τ (28 + p))).2.2.2 * (spB τ ρ p (τ (28 + p))).2.1 ≤ 119988 * 119988 := Nat.mul_le_mul s6 s4
    have cb := lg0 (a := (spB τ ρ p (τ (28 + p))).2.1) (by omega)
    have cg0 : (spB τ ρ p (τ (28 + p))).2.1 ≠ 0 → gc1 ((spB τ ρ p (τ (28 + p))).2.2.1 * (spB τ ρ p (τ (28 + p))).2.1 - (spB τ ρ p (τ (28 + p))).1 * (spB τ ρ p (τ (28 + p))).2.2.2) ((spB τ ρ p (τ (28 + p))).2.2.2 * (spB τ ρ p (τ (28 + p))).2.1) ≤ 119988 * 119988 := fun z => Nat.le_trans (gc1_le (Nat.mul_pos (by omega) (by omega))) m2
    rcases hx with ⟨_, _, q⟩ | ⟨u, v, rfl, rfl⟩
    · omega
    · skip
      refine b105_29a ?_
      simp only [spV, spU] at hQ
      by_cases z : (spB τ ρ p (τ (28 + p))).2.1 = 0
      · have k1 := iff_true_intro (cb.mpr z)
        simp only [if_pos z] at hQ
        simp only [↓br_pos, ↓br_neg, ↓rF_I, ↓rF_L, ↓rF_R, ↓rF_N, rO_m, rB_m, ↓rI_m, wI_m, ↓rB2_m, ↓rB3_m, wB2_m, wB3_m, ↓rL_m, wL_m, ↓rQ_m, wQ_m, ↓lI_m, pI_m, pL_m, pR_m, sI_m, sBy_m, sBo_m, sL_m, sQ_m, fst_m, true_and, and_true, tg_some, ln_some, uI_1, uI_2, uL_1, uL_2, uL_3, uQ_1, uQ_2, uQ_3, rv_i, rv_l, rv_n, rv_b0, rv_b1, RMR, ne_eq, reduceCtorEq, not_false_eq_true, Option.getD_some, if_true, if_false, and_self, false_and, and_false, Nat.add_left_cancel_iff, Nat.add_eq_left, Nat.left_eq_add, Nat.one_ne_zero, Nat.reduceAdd, Nat.reduceLT, Nat.reduceLeDiff, Nat.reduceEqDiff, true_implies, false_implies, implies_true, Option.some.injEq, forall_eq', forall_eq, reduceCtorEq, brT, brF, br_s, i_10, i_01, ib_0_2, ib_1_2, tn_0, tn_1, Int32.le_refl, eq_self, rv_bN, rv_iM, RCX 0, RCG 2, RCT 4, RCT 15, RCT 25, RCS 35, RCS 49, RCH 63, RCP 67, RCB 72, RCR 77, RCM 81, RLY, lit_at hw, RCT P, hT', p3, eb, en, e1, Int32.le_refl, k1]
        exact hQ
      · have k1 := iff_false_intro (fun q => z (cb.mp q))
        simp only [if_neg z] at hQ
        have g2 := cg0 z
        have g1 := gc1_pos (a := (spB τ ρ p (τ (28 + p))).2.2.1 * (spB τ ρ p (τ (28 + p))).2.1 - (spB τ ρ p (τ (28 + p))).1 * (spB τ ρ p (τ (28 + p))).2.2.2) (b := (spB τ ρ p (τ (28 + p))).2.2.2 * (spB τ ρ p (τ (28 + p))).2.1)
        have cg : (Int64.ofNat (gc1 ((spB τ ρ p (τ (28 + p))).2.2.1 * (spB τ ρ p (τ (28 + p))).2.1 - (spB τ ρ p (τ (28 + p))).1 * (spB τ ρ p (τ (28 + p))).2.2.2) ((spB τ ρ p (τ (28 + p))).2.2.2 * (spB τ ρ p (τ (28 + p))).2.1)) = 0) ↔ False := iff_false_intro (fun q => absurd ((ol_inj (b := 0) (by omega) (by omega)).mp q) (by omega))
        simp only [↓br_pos, ↓br_neg, ↓rF_I, ↓rF_L, ↓rF_R, ↓rF_N, rO_m, rB_m, ↓rI_m, wI_m, ↓rB2_m, ↓rB3_m, wB2_m, wB3_m, ↓rL_m, wL_m, ↓rQ_m, wQ_m, ↓lI_m, pI_m, pL_m, pR_m, sI_m, sBy_m, sBo_m, sL_m, sQ_m, fst_m, true_and, and_true, tg_some, ln_some, uI_1, uI_2, uL_1, uL_2, uL_3, uQ_1, uQ_2, uQ_3, rv_i, rv_l, rv_n, rv_b0, rv_b1, RMR, ne_eq, reduceCtorEq, not_false_eq_true, Option.getD_some, if_true, if_false, and_self, false_and, and_false, Nat.add_left_cancel_iff, Nat.add_eq_left, Nat.left_eq_add, Nat.one_ne_zero, Nat.reduceAdd, Nat.reduceLT, Nat.reduceLeDiff, Nat.reduceEqDiff, true_implies, false_implies, implies_true, Option.some.injEq, forall_eq', forall_eq, reduceCtorEq, brT, brF, br_s, i_10, i_01, ib_0_2, ib_1_2, tn_0, tn_1, Int32.le_refl, eq_self, rv_bN, rv_iM, RCX 0, RCG 2, RCT 4, RCT 15, RCT 25, RCS 35, RCS 49, RCH 63, RCP 67, RCB 72, RCR 77, RCM 81, RLY, lit_at hw, RCT P, hT', p3, eb, en, e1, Int32.le_refl, k1, ol_mul, ol_sub s2, g_127 (w := w) (σ := σ) (show (spB τ ρ p (τ (28 + p))).2.2.1 * (spB τ ρ p (τ (28 + p))).2.1 - (spB τ ρ p (τ (28 + p))).1 * (spB τ ρ p (τ (28 + p))).2.2.2 < 35184372088832 by omega) (show (spB τ ρ p (τ (28 + p))).2.2.2 * (spB τ ρ p (τ (28 + p))).2.1 < 35184372088832 by omega) hd, cg, ol_div (show (spB τ ρ p (τ (28 + p))).2.2.1 * (spB τ ρ p (τ (28 + p))).2.1 - (spB τ ρ p (τ (28 + p))).1 * (spB τ ρ p (τ (28 + p))).2.2.2 < 9223372036854775808 by omega) (show gc1 ((spB τ ρ p (τ (28 + p))).2.2.1 * (spB τ ρ p (τ (28 + p))).2.1 - (spB τ ρ p (τ (28 + p))).1 * (spB τ ρ p (τ (28 + p))).2.2.2) ((spB τ ρ p (τ (28 + p))).2.2.2 * (spB τ ρ p (τ (28 + p))).2.1) < 9223372036854775808 by omega), ol_div (show (spB τ ρ p (τ (28 + p))).2.2.2 * (spB τ ρ p (τ (28 + p))).2.1 < 9223372036854775808 by omega) (show gc1 ((spB τ ρ p (τ (28 + p))).2.2.1 * (spB τ ρ p (τ (28 + p))).2.1 - (spB τ ρ p (τ (28 + p))).1 * (spB τ ρ p (τ (28 + p))).2.2.2) ((spB τ ρ p (τ (28 + p))).2.2.2 * (spB τ ρ p (τ (28 + p))).2.1) < 9223372036854775808 by omega)]
        exact hQ
  | succ r ih =>
    intro c x11 x13 hc hx
    have l1 : (Int32.ofNat (τ (28 + p)) ≤ Int32.ofNat c) ↔ False := iff_false_intro (fun q => absurd ((on_le (by omega) (by omega)).mp q) (by omega))
    have e56 := fun {K : Int32 → Hp → Prop} => g_56 (K := K) (isS35 hw) hρ hr (by omega : p < 3) (by omega : c < 12) hd2
    have e57 := fun {K : Int32 → Hp → Prop} => g_57 (K := K) (isS35 hw) hT hρ hτ hv hr (by omega : p < 3) (by omega : c < 12) hd2
    obtain ⟨s1, s2, s3, s4, s5, s6⟩ := spB_I hv hr (by omega : p < 3) c (by omega)
    have gb := gOn_b hv hr (by omega : p < 3) (by omega : c < 12)
    have hg : gOn τ ρ p c < 2147483648 := by omega
    have ht : tOn ρ p c < 2147483648 := by omega
    have m1 : gOn τ ρ p c * (spB τ ρ p c).2.1 ≤ 119868012 * 119988 := Nat.mul_le_mul gb.1 s4
    have m2 : (spB τ ρ p c).1 * tOn ρ p c ≤ 119868012 * 119988 := Nat.mul_le_mul s3 gb.2
    have m3 : gOn τ ρ p c * (spB τ ρ p c).2.2.2 ≤ 119868012 * 119988 := Nat.mul_le_mul gb.1 s6
    have m4 : (spB τ ρ p c).2.2.1 * tOn ρ p c ≤ 119868012 * 119988 := Nat.mul_le_mul s5 gb.2
    have ct := lg0' (a := tOn ρ p c) (by omega)
    have cb := lg0 (a := (spB τ ρ p c).2.1) (by omega)
    have cd := lg0 (a := (spB τ ρ p c).2.2.2) (by omega)
    have cl := lgp (a := gOn τ ρ p c * (spB τ ρ p c).2.1) (b := (spB τ ρ p c).1 * tOn ρ p c) (by omega) (by omega)
    have cm := lgq (a := gOn τ ρ p c * (spB τ ρ p c).2.2.2) (b := (spB τ ρ p c).2.2.1 * tOn ρ p c) (by omega) (by omega)
    have nx := ih (c + 1) (.long (Int64.ofNat (tOn ρ p c))) (.long (Int64.ofNat (gOn τ ρ p c))) (by omega) (Or.inr ⟨_, _, rfl, rfl⟩)
    rcases hx with ⟨rfl, rfl, _⟩ | ⟨u, v, rfl, rfl⟩
    · skip
      refine b105_29 ?_
      by_cases z : tOn ρ p c = 0
      · have k0 := iff_true_intro (ct.mpr z)
        have eB : spB τ ρ p (c + 1) = spB τ ρ p c := if_pos z
        rw [eB] at nx
        simp only [↓br_pos, ↓br_neg, ↓rF_I, ↓rF_L, ↓rF_R, ↓rF_N, rO_m, rB_m, ↓rI_m, wI_m, ↓rB2_m, ↓rB3_m, wB2_m, wB3_m, ↓rL_m, wL_m, ↓rQ_m, wQ_m, ↓lI_m, pI_m, pL_m, pR_m, sI_m, sBy_m, sBo_m, sL_m, sQ_m, fst_m, true_and, and_true, tg_some, ln_some, uI_1, uI_2, uL_1, uL_2, uL_3, uQ_1, uQ_2, uQ_3, rv_i, rv_l, rv_n, rv_b0, rv_b1, RMR, ne_eq, reduceCtorEq, not_false_eq_true, Option.getD_some, if_true, if_false, and_self, false_and, and_false, Nat.add_left_cancel_iff, Nat.add_eq_left, Nat.left_eq_add, Nat.one_ne_zero, Nat.reduceAdd, Nat.reduceLT, Nat.reduceLeDiff, Nat.reduceEqDiff, true_implies, false_implies, implies_true, Option.some.injEq, forall_eq', forall_eq, reduceCtorEq, brT, brF, br_s, i_10, i_01, ib_0_2, ib_1_2, tn_0, tn_1, Int32.le_refl, eq_self, rv_bN, rv_iM, RCX 0, RCG 2, RCT 4, RCT 15, RCT 25, RCS 35, RCS 49, RCH 63, RCP 67, RCB 72, RCR 77, RCM 81, RLY, lit_at hw, RCT P, hT', p3, eb, en, e1, l1, e56, e57, i64_of hg, i64_of ht, ol_mul, k0]
        refine b105_146 ?_
        rw [on_succ]
        exact nx
      · have k0 := iff_false_intro (fun q => z (ct.mp q))
        have eB : spB τ ρ p (c + 1) = ⟨if (spB τ ρ p c).2.1 = 0 ∨ gOn τ ρ p c * (spB τ ρ p c).2.1 < (spB τ ρ p c).1 * tOn ρ p c then gOn τ ρ p c else (spB τ ρ p c).1, if (spB τ ρ p c).2.1 = 0 ∨ gOn τ ρ p c * (spB τ ρ p c).2.1 < (spB τ ρ p c).1 * tOn ρ p c then tOn ρ p c else (spB τ ρ p c).2.1, if (spB τ ρ p c).2.2.2 = 0 ∨ (spB τ ρ p c).2.2.1 * tOn ρ p c < gOn τ ρ p c * (spB τ ρ p c).2.2.2 then gOn τ ρ p c else (spB τ ρ p c).2.2.1, if (spB τ ρ p c).2.2.2 = 0 ∨ (spB τ ρ p c).2.2.1 * tOn ρ p c < gOn τ ρ p c * (spB τ ρ p c).2.2.2 then tOn ρ p c else (spB τ ρ p c).2.2.2⟩ := if_neg z
        rw [eB] at nx
        by_cases v : (spB τ ρ p c).2.1 = 0
        · have k1 := iff_true_intro (cb.mpr v)
          by_cases y : (spB τ ρ p c).2.2.2 = 0
          · have k3 := iff_true_intro (cd.mpr y)
            simp only [if_pos (Or.inl v : ((spB τ ρ p c).2.1 = 0 ∨ gOn τ ρ p c * (spB τ ρ p c).2.1 < (spB τ ρ p c).1 * tOn ρ p c)), if_pos (Or.inl y : (spB τ ρ p c).2.2.2 = 0 ∨ (spB τ ρ p c).2.2.1 * tOn ρ p c < gOn τ ρ p c * (spB τ ρ p c).2.2.2)] at nx
            simp only [↓br_pos, ↓br_neg, ↓rF_I, ↓rF_L, ↓rF_R, ↓rF_N, rO_m, rB_m, ↓rI_m, wI_m, ↓rB2_m, ↓rB3_m, wB2_m, wB3_m, ↓rL_m, wL_m, ↓rQ_m, wQ_m, ↓lI_m, pI_m, pL_m, pR_m, sI_m, sBy_m, sBo_m, sL_m, sQ_m, fst_m, true_and, and_true, tg_some, ln_some, uI_1, uI_2, uL_1, uL_2, uL_3, uQ_1, uQ_2, uQ_3, rv_i, rv_l, rv_n, rv_b0, rv_b1, RMR, ne_eq, reduceCtorEq, not_false_eq_true, Option.getD_some, if_true, if_false, and_self, false_and, and_false, Nat.add_left_cancel_iff, Nat.add_eq_left, Nat.left_eq_add, Nat.one_ne_zero, Nat.reduceAdd, Nat.reduceLT, Nat.reduceLeDiff, Nat.reduceEqDiff, true_implies, false_implies, implies_true, Option.some.injEq, forall_eq', forall_eq, reduceCtorEq, brT, brF, br_s, i_10, i_01, ib_0_2, ib_1_2, tn_0, tn_1, Int32.le_refl, eq_self, rv_bN, rv_iM, RCX 0, RCG 2, RCT 4, RCT 15, RCT 25, RCS 35, RCS 49, RCH 63, RCP 67, RCB 72, RCR 77, RCM 81, RLY, lit_at hw, RCT P, hT', p3, eb, en, e1, l1, e56, e57, i64_of hg, i64_of ht, ol_mul, k0, k1]
            refine b105_103 ?_
            simp only [↓br_pos, ↓br_neg, ↓rF_I, ↓rF_L, ↓rF_R, ↓rF_N, rO_m, rB_m, ↓rI_m, wI_m, ↓rB2_m, ↓rB3_m, wB2_m, wB3_m, ↓rL_m, wL_m, ↓rQ_m, wQ_m, ↓lI_m, pI_m, pL_m, pR_m, sI_m, sBy_m, sBo_m, sL_m, sQ_m, fst_m, true_and, and_true, tg_some, ln_some, uI_1, uI_2, uL_1, uL_2, uL_3, uQ_1, uQ_2, uQ_3, rv_i, rv_l, rv_n, rv_b0, rv_b1, RMR, ne_eq, reduceCtorEq, not_false_eq_true, Option.getD_some, if_true, if_false, and_self, false_and, and_false, Nat.add_left_cancel_iff, Nat.add_eq_left, Nat.left_eq_add, Nat.one_ne_zero, Nat.reduceAdd, Nat.reduceLT, Nat.reduceLeDiff, Nat.reduceEqDiff, true_implies, false_implies, implies_true, Option.some.injEq, forall_eq', forall_eq, reduceCtorEq, brT, brF, br_s, i_10, i_01, ib_0_2, ib_1_2, tn_0, tn_1, Int32.le_refl, eq_self, rv_bN, rv_iM, ol_mul, k0, k3]
            refine b105_139 (b105_146 ?_)
            rw [on_succ]
            exact nx
          · have k3 := iff_false_intro (fun q => y (cd.mp q))
            by_cases x : (spB τ ρ p c).2.2.1 * tOn ρ p c < gOn τ ρ p c * (spB τ ρ p c).2.2.2
            · have k4 := iff_false_intro (fun q => absurd (cm.mp q) (by omega))
              simp only [if_pos (Or.inl v : ((spB τ ρ p c).2.1 = 0 ∨ gOn τ ρ p c * (spB τ ρ p c).2.1 < (spB τ ρ p c).1 * tOn ρ p c)), if_pos (Or.inr x : (spB τ ρ p c).2.2.2 = 0 ∨ (spB τ ρ p c).2.2.1 * tOn ρ p c < gOn τ ρ p c * (spB τ ρ p c).2.2.2)] at nx
              simp only [↓br_pos, ↓br_neg, ↓rF_I, ↓rF_L, ↓rF_R, ↓rF_N, rO_m, rB_m, ↓rI_m, wI_m, ↓rB2_m, ↓rB3_m, wB2_m, wB3_m, ↓rL_m, wL_m, ↓rQ_m, wQ_m, ↓lI_m, pI_m, pL_m, pR_m, sI_m, sBy_m, sBo_m, sL_m, sQ_m, fst_m, true_and, and_true, tg_some, ln_some, uI_1, uI_2, uL_1, uL_2, uL_3, uQ_1, uQ_2, uQ_3, rv_i, rv_l, rv_n, rv_b0, rv_b1, RMR, ne_eq, reduceCtorEq, not_false_eq_true, Option.getD_some, if_true, if_false, and_self, false_and, and_false, Nat.add_left_cancel_iff, Nat.add_eq_left, Nat.left_eq_add, Nat.one_ne_zero, Nat.reduceAdd, Nat.reduceLT, Nat.reduceLeDiff, Nat.reduceEqDiff, true_implies, false_implies, implies_true, Option.some.injEq, forall_eq', forall_eq, reduceCtorEq, brT, brF, br_s, i_10, i_01, ib_0_2, ib_1_2, tn_0, tn_1, Int32.le_refl, eq_self, rv_bN, rv_iM, RCX 0, RCG 2, RCT 4, RCT 15, RCT 25, RCS 35, RCS 49, RCH 63, RCP 67, RCB 72, RCR 77, RCM 81, RLY, lit_at hw, RCT P, hT', p3, eb, en, e1, l1, e56, e57, i64_of hg, i64_of ht, ol_mul, k0, k1]
              refine b105_103 ?_
              simp only [↓br_pos, ↓br_neg, ↓rF_I, ↓rF_L, ↓rF_R, ↓rF_N, rO_m, rB_m, ↓rI_m, wI_m, ↓rB2_m, ↓rB3_m, wB2_m, wB3_m, ↓rL_m, wL_m, ↓rQ_m, wQ_m, ↓lI_m, pI_m, pL_m, pR_m, sI_m, sBy_m, sBo_m, sL_m, sQ_m, fst_m, true_and, and_true, tg_some, ln_some, uI_1, uI_2, uL_1, uL_2, uL_3, uQ_1, uQ_2, uQ_3, rv_i, rv_l, rv_n, rv_b0, rv_b1, RMR, ne_eq, reduceCtorEq, not_false_eq_true, Option.getD_some, if_true, if_false, and_self, false_and, and_false, Nat.add_left_cancel_iff, Nat.add_eq_left, Nat.left_eq_add, Nat.one_ne_zero, Nat.reduceAdd, Nat.reduceLT, Nat.reduceLeDiff, Nat.reduceEqDiff, true_implies, false_implies, implies_true, Option.some.injEq, forall_eq', forall_eq, reduceCtorEq, brT, brF, br_s, i_10, i_01, ib_0_2, ib_1_2, tn_0, tn_1, Int32.le_refl, eq_self, rv_bN, rv_iM, ol_mul, k0, k3, k4]
              refine b105_139 (b105_146 ?_)
              rw [on_succ]
              exact nx
            · have k4 := iff_true_intro (cm.mpr (by omega))
              simp only [if_pos (Or.inl v : ((spB τ ρ p c).2.1 = 0 ∨ gOn τ ρ p c * (spB τ ρ p c).2.1 < (spB τ ρ p c).1 * tOn ρ p c)), if_neg (fun q => q.elim y x : ¬ ((spB τ ρ p c).2.2.2 = 0 ∨ (spB τ ρ p c).2.2.1 * tOn ρ p c < gOn τ ρ p c * (spB τ ρ p c).2.2.2))] at nx
              simp only [↓br_pos, ↓br_neg, ↓rF_I, ↓rF_L, ↓rF_R, ↓rF_N, rO_m, rB_m, ↓rI_m, wI_m, ↓rB2_m, ↓rB3_m, wB2_m, wB3_m, ↓rL_m, wL_m, ↓rQ_m, wQ_m, ↓lI_m, pI_m, pL_m, pR_m, sI_m, sBy_m, sBo_m, sL_m, sQ_m, fst_m, true_and, and_true, tg_some, ln_some, uI_1, uI_2, uL_1, uL_2, uL_3, uQ_1, uQ_2, uQ_3, rv_i, rv_l, rv_n, rv_b0, rv_b1, RMR, ne_eq, reduceCtorEq, not_false_eq_true, Option.getD_some, if_true, if_false, and_self, false_and, and_false, Nat.add_left_cancel_iff, Nat.add_eq_left, Nat.left_eq_add, Nat.one_ne_zero, Nat.reduceAdd, Nat.reduceLT, Nat.reduceLeDiff, Nat.reduceEqDiff, true_implies, false_implies, implies_true, Option.some.injEq, forall_eq', forall_eq, reduceCtorEq, brT, brF, br_s, i_10, i_01, ib_0_2, ib_1_2, tn_0, tn_1, Int32.le_refl, eq_self, rv_bN, rv_iM, RCX 0, RCG 2, RCT 4, RCT 15, RCT 25, RCS 35, RCS 49, RCH 63, RCP 67, RCB 72, RCR 77, RCM 81, RLY, lit_at hw, RCT P, hT', p3, eb, en, e1, l1, e56, e57, i64_of hg, i64_of ht, ol_mul, k0, k1]
              refine b105_103 ?_
              simp only [↓br_pos, ↓br_neg, ↓rF_I, ↓rF_L, ↓rF_R, ↓rF_N, rO_m, rB_m, ↓rI_m, wI_m, ↓rB2_m, ↓rB3_m, wB2_m, wB3_m, ↓rL_m, wL_m, ↓rQ_m, wQ_m, ↓lI_m, pI_m, pL_m, pR_m, sI_m, sBy_m, sBo_m, sL_m, sQ_m, fst_m, true_and, and_true, tg_some, ln_some, uI_1, uI_2, uL_1, uL_2, uL_3, uQ_1, uQ_2, uQ_3, rv_i, rv_l, rv_n, rv_b0, rv_b1, RMR, ne_eq, reduceCtorEq, not_false_eq_true, Option.getD_some, if_true, if_false, and_self, false_and, and_false, Nat.add_left_cancel_iff, Nat.add_eq_left, Nat.left_eq_add, Nat.one_ne_zero, Nat.reduceAdd, Nat.reduceLT, Nat.reduceLeDiff, Nat.reduceEqDiff, true_implies, false_implies, implies_true, Option.some.injEq, forall_eq', forall_eq, reduceCtorEq, brT, brF, br_s, i_10, i_01, ib_0_2, ib_1_2, tn_0, tn_1, Int32.le_refl, eq_self, rv_bN, rv_iM, ol_mul, k0, k3, k4]
              refine b105_146 ?_
              rw [on_succ]
              exact nx
        · have k1 := iff_false_intro (fun q => v (cb.mp q))
          by_cases u : gOn τ ρ p c * (spB τ ρ p c).2.1 < (spB τ ρ p c).1 * tOn ρ p c
          · have k2 := iff_false_intro (fun q => absurd (cl.mp q) (by omega))
            by_cases y : (spB τ ρ p c).2.2.2 = 0
            · have k3 := iff_true_intro (cd.mpr y)
              simp only [if_pos (Or.inr u : ((spB τ ρ p c).2.1 = 0 ∨ gOn τ ρ p c * (spB τ ρ p c).2.1 < (spB τ ρ p c).1 * tOn ρ p c)), if_pos (Or.inl y : (spB τ ρ p c).2.2.2 = 0 ∨ (spB τ ρ p c).2.2.1 * tOn ρ p c < gOn τ ρ p c * (spB τ ρ p c).2.2.2)] at nx
              simp only [↓br_pos, ↓br_neg, ↓rF_I, ↓rF_L, ↓rF_R, ↓rF_N, rO_m, rB_m, ↓rI_m, wI_m, ↓rB2_m, ↓rB3_m, wB2_m, wB3_m, ↓rL_m, wL_m, ↓rQ_m, wQ_m, ↓lI_m, pI_m, pL_m, pR_m, sI_m, sBy_m, sBo_m, sL_m, sQ_m, fst_m, true_and, and_true, tg_some, ln_some, uI_1, uI_2, uL_1, uL_2, uL_3, uQ_1, uQ_2, uQ_3, rv_i, rv_l, rv_n, rv_b0, rv_b1, RMR, ne_eq, reduceCtorEq, not_false_eq_true, Option.getD_some, if_true, if_false, and_self, false_and, and_false, Nat.add_left_cancel_iff, Nat.add_eq_left, Nat.left_eq_add, Nat.one_ne_zero, Nat.reduceAdd, Nat.reduceLT, Nat.reduceLeDiff, Nat.reduceEqDiff, true_implies, false_implies, implies_true, Option.some.injEq, forall_eq', forall_eq, reduceCtorEq, brT, brF, br_s, i_10, i_01, ib_0_2, ib_1_2, tn_0, tn_1, Int32.le_refl, eq_self, rv_bN, rv_iM, RCX 0, RCG 2, RCT 4, RCT 15, RCT 25, RCS 35, RCS 49, RCH 63, RCP 67, RCB 72, RCR 77, RCM 81, RLY, lit_at hw, RCT P, hT', p3, eb, en, e1, l1, e56, e57, i64_of hg, i64_of ht, ol_mul, k0, k1, k2]
              refine b105_103 ?_
              simp only [↓br_pos, ↓br_neg, ↓rF_I, ↓rF_L, ↓rF_R, ↓rF_N, rO_m, rB_m, ↓rI_m, wI_m, ↓rB2_m, ↓rB3_m, wB2_m, wB3_m, ↓rL_m, wL_m, ↓rQ_m, wQ_m, ↓lI_m, pI_m, pL_m, pR_m, sI_m, sBy_m, sBo_m, sL_m, sQ_m, fst_m, true_and, and_true, tg_some, ln_some, uI_1, uI_2, uL_1, uL_2, uL_3, uQ_1, uQ_2, uQ_3, rv_i, rv_l, rv_n, rv_b0, rv_b1, RMR, ne_eq, reduceCtorEq, not_false_eq_true, Option.getD_some, if_true, if_false, and_self, false_and, and_false, Nat.add_left_cancel_iff, Nat.add_eq_left, Nat.left_eq_add, Nat.one_ne_zero, Nat.reduceAdd, Nat.reduceLT, Nat.reduceLeDiff, Nat.reduceEqDiff, true_implies, false_implies, implies_true, Option.some.injEq, forall_eq', forall_eq, reduceCtorEq, brT, brF, br_s, i_10, i_01, ib_0_2, ib_1_2, tn_0, tn_1, Int32.le_refl, eq_self, rv_bN, rv_iM, ol_mul, k0, k3]
              refine b105_139 (b105_146 ?_)
              rw [on_succ]
              exact nx
            · have k3 := iff_false_intro (fun q => y (cd.mp q))
              by_cases x : (spB τ ρ p c).2.2.1 * tOn ρ p c < gOn τ ρ p c * (spB τ ρ p c).2.2.2
              · have k4 := iff_false_intro (fun q => absurd (cm.mp q) (by omega))
                simp only [if_pos (Or.inr u : ((spB τ ρ p c).2.1 = 0 ∨ gOn τ ρ p c * (spB τ ρ p c).2.1 < (spB τ ρ p c).1 * tOn ρ p c)), if_pos (Or.inr x : (spB τ ρ p c).2.2.2 = 0 ∨ (spB τ ρ p c).2.2.1 * tOn ρ p c < gOn τ ρ p c * (spB τ ρ p c).2.2.2)] at nx
                simp only [↓br_pos, ↓br_neg, ↓rF_I, ↓rF_L, ↓rF_R, ↓rF_N, rO_m, rB_m, ↓rI_m, wI_m, ↓rB2_m, ↓rB3_m, wB2_m, wB3_m, ↓rL_m, wL_m, ↓rQ_m, wQ_m, ↓lI_m, pI_m, pL_m, pR_m, sI_m, sBy_m, sBo_m, sL_m, sQ_m, fst_m, true_and, and_true, tg_some, ln_some, uI_1, uI_2, uL_1, uL_2, uL_3, uQ_1, uQ_2, uQ_3, rv_i, rv_l, rv_n, rv_b0, rv_b1, RMR, ne_eq, reduceCtorEq, not_false_eq_true, Option.getD_some, if_true, if_false, and_self, false_and, and_false, Nat.add_left_cancel_iff, Nat.add_eq_left, Nat.left_eq_add, Nat.one_ne_zero, Nat.reduceAdd, Nat.reduceLT, Nat.reduceLeDiff, Nat.reduceEqDiff, true_implies, false_implies, implies_true, Option.some.injEq, forall_eq', forall_eq, reduceCtorEq, brT, brF, br_s, i_10, i_01, ib_0_2, ib_1_2, tn_0, tn_1, Int32.le_refl, eq_self, rv_bN, rv_iM, RCX 0, RCG 2, RCT 4, RCT 15, RCT 25, RCS 35, RCS 49, RCH 63, RCP 67, RCB 72, RCR 77, RCM 81, RLY, lit_at hw, RCT P, hT', p3, eb, en, e1, l1, e56, e57, i64_of hg, i64_of ht, ol_mul, k0, k1, k2]
                refine b105_103 ?_
                simp only [↓br_pos, ↓br_neg, ↓rF_I, ↓rF_L, ↓rF_R, ↓rF_N, rO_m, rB_m, ↓rI_m, wI_m, ↓rB2_m, ↓rB3_m, wB2_m, wB3_m, ↓rL_m, wL_m, ↓rQ_m, wQ_m, ↓lI_m, pI_m, pL_m, pR_m, sI_m, sBy_m, sBo_m, sL_m, sQ_m, fst_m, true_and, and_true, tg_some, ln_some, uI_1, uI_2, uL_1, uL_2, uL_3, uQ_1, uQ_2, uQ_3, rv_i, rv_l, rv_n, rv_b0, rv_b1, RMR, ne_eq, reduceCtorEq, not_false_eq_true, Option.getD_some, if_true, if_false, and_self, false_and, and_false, Nat.add_left_cancel_iff, Nat.add_eq_left, Nat.left_eq_add, Nat.one_ne_zero, Nat.reduceAdd, Nat.reduceLT, Nat.reduceLeDiff, Nat.reduceEqDiff, true_implies, false_implies, implies_true, Option.some.injEq, forall_eq', forall_eq, reduceCtorEq, brT, brF, br_s, i_10, i_01, ib_0_2, ib_1_2, tn_0, tn_1, Int32.le_refl, eq_self, rv_bN, rv_iM, ol_mul, k0, k3, k4]
                refine b105_139 (b105_146 ?_)
                rw [on_succ]
                exact nx
              · have k4 := iff_true_intro (cm.mpr (by omega))
                simp only [if_pos (Or.inr u : ((spB τ ρ p c).2.1 = 0 ∨ gOn τ ρ p c * (spB τ ρ p c).2.1 < (spB τ ρ p c).1 * tOn ρ p c)), if_neg (fun q => q.elim y x : ¬ ((spB τ ρ p c).2.2.2 = 0 ∨ (spB τ ρ p c).2.2.1 * tOn ρ p c < gOn τ ρ p c * (spB τ ρ p c).2.2.2))] at nx
                simp only [↓br_pos, ↓br_neg, ↓rF_I, ↓rF_L, ↓rF_R, ↓rF_N, rO_m, rB_m, ↓rI_m, wI_m, ↓rB2_m, ↓rB3_m, wB2_m, wB3_m, ↓rL_m, wL_m, ↓rQ_m, wQ_m, ↓lI_m, pI_m, pL_m, pR_m, sI_m, sBy_m, sBo_m, sL_m, sQ_m, fst_m, true_and, and_true, tg_some, ln_some, uI_1, uI_2, uL_1, uL_2, uL_3, uQ_1, uQ_2, uQ_3, rv_i, rv_l, rv_n, rv_b0, rv_b1, RMR, ne_eq, reduceCtorEq, not_false_eq_true, Option.getD_some, if_true, if_false, and_self, false_and, and_false, Nat.add_left_cancel_iff, Nat.add_eq_left, Nat.left_eq_add, Nat.one_ne_zero, Nat.reduceAdd, Nat.reduceLT, Nat.reduceLeDiff, Nat.reduceEqDiff, true_implies, false_implies, implies_true, Option.some.injEq, forall_eq', forall_eq, reduceCtorEq, brT, brF, br_s, i_10, i_01, ib_0_2, ib_1_2, tn_0, tn_1, Int32.le_refl, eq_self, rv_bN, rv_iM, RCX 0, RCG 2, RCT 4, RCT 15, RCT 25, RCS 35, RCS 49, RCH 63, RCP 67, RCB 72, RCR 77, RCM 81, RLY, lit_at hw, RCT P, hT', p3, eb, en, e1, l1, e56, e57, i64_of hg, i64_of ht, ol_mul, k0, k1, k2]
                refine b105_103 ?_
                simp only [↓br_pos, ↓br_neg, ↓rF_I, ↓rF_L, ↓rF_R, ↓rF_N, rO_m, rB_m, ↓rI_m, wI_m, ↓rB2_m, ↓rB3_m, wB2_m, wB3_m, ↓rL_m, wL_m, ↓rQ_m, wQ_m, ↓lI_m, pI_m, pL_m, pR_m, sI_m, sBy_m, sBo_m, sL_m, sQ_m, fst_m, true_and, and_true, tg_some, ln_some, uI_1, uI_2, uL_1, uL_2, uL_3, uQ_1, uQ_2, uQ_3, rv_i, rv_l, rv_n, rv_b0, rv_b1, RMR, ne_eq, reduceCtorEq, not_false_eq_true, Option.getD_some, if_true, if_false, and_self, false_and, and_false, Nat.add_left_cancel_iff, Nat.add_eq_left, Nat.left_eq_add, Nat.one_ne_zero, Nat.reduceAdd, Nat.reduceLT, Nat.reduceLeDiff, Nat.reduceEqDiff, true_implies, false_implies, implies_true, Option.some.injEq, forall_eq', forall_eq, reduceCtorEq, brT, brF, br_s, i_10, i_01, ib_0_2, ib_1_2, tn_0, tn_1, Int32.le_refl, eq_self, rv_bN, rv_iM, ol_mul, k0, k3, k4]
                refine b105_146 ?_
                rw [on_succ]
                exact nx
          · have k2 := iff_true_intro (cl.mpr (by omega))
            by_cases y : (spB τ ρ p c).2.2.2 = 0
            · have k3 := iff_true_intro (cd.mpr y)
              simp only [if_neg (fun q => q.elim v u : ¬ ((spB τ ρ p c).2.1 = 0 ∨ gOn τ ρ p c * (spB τ ρ p c).2.1 < (spB τ ρ p c).1 * tOn ρ p c)), if_pos (Or.inl y : (spB τ ρ p c).2.2.2 = 0 ∨ (spB τ ρ p c).2.2.1 * tOn ρ p c < gOn τ ρ p c * (spB τ ρ p c).2.2.2)] at nx
              simp only [↓br_pos, ↓br_neg, ↓rF_I, ↓rF_L, ↓rF_R, ↓rF_N, rO_m, rB_m, ↓rI_m, wI_m, ↓rB2_m, ↓rB3_m, wB2_m, wB3_m, ↓rL_m, wL_m, ↓rQ_m, wQ_m, ↓lI_m, pI_m, pL_m, pR_m, sI_m, sBy_m, sBo_m, sL_m, sQ_m, fst_m, true_and, and_true, tg_some, ln_some, uI_1, uI_2, uL_1, uL_2, uL_3, uQ_1, uQ_2, uQ_3, rv_i, rv_l, rv_n, rv_b0, rv_b1, RMR, ne_eq, reduceCtorEq, not_false_eq_true, Option.getD_some, if_true, if_false, and_self, false_and, and_false, Nat.add_left_cancel_iff, Nat.add_eq_left, Nat.left_eq_add, Nat.one_ne_zero, Nat.reduceAdd, Nat.reduceLT, Nat.reduceLeDiff, Nat.reduceEqDiff, true_implies, false_implies, implies_true, Option.some.injEq, forall_eq', forall_eq, reduceCtorEq, brT, brF, br_s, i_10, i_01, ib_0_2, ib_1_2, tn_0, tn_1, Int32.le_refl, eq_self, rv_bN, rv_iM, RCX 0, RCG 2, RCT 4, RCT 15, RCT 25, RCS 35, RCS 49, RCH 63, RCP 67, RCB 72, RCR 77, RCM 81, RLY, lit_at hw, RCT P, hT', p3, eb, en, e1, l1, e56, e57, i64_of hg, i64_of ht, ol_mul, k0, k1, k2, k3]
              refine b105_139 (b105_146 ?_)
              rw [on_succ]
              exact nx
            · have k3 := iff_false_intro (fun q => y (cd.mp q))
              by_cases x : (spB τ ρ p c).2.2.1 * tOn ρ p c < gOn τ ρ p c * (spB τ ρ p c).2.2.2
              · have k4 := iff_false_intro (fun q => absurd (cm.mp q) (by omega))
                simp only [if_neg (fun q => q.elim v u : ¬ ((spB τ ρ p c).2.1 = 0 ∨ gOn τ ρ p c * (spB τ ρ p c).2.1 < (spB τ ρ p c).1 * tOn ρ p c)), if_pos (Or.inr x : (spB τ ρ p c).2.2.2 = 0 ∨ (spB τ ρ p c).2.2.1 * tOn ρ p c < gOn τ ρ p c * (spB τ ρ p c).2.2.2)] at nx
                simp only [↓br_pos, ↓br_neg, ↓rF_I, ↓rF_L, ↓rF_R, ↓rF_N, rO_m, rB_m, ↓rI_m, wI_m, ↓rB2_m, ↓rB3_m, wB2_m, wB3_m, ↓rL_m, wL_m, ↓rQ_m, wQ_m, ↓lI_m, pI_m, pL_m, pR_m, sI_m, sBy_m, sBo_m, sL_m, sQ_m, fst_m, true_and, and_true, tg_some, ln_some, uI_1, uI_2, uL_1, uL_2, uL_3, uQ_1, uQ_2, uQ_3, rv_i, rv_l, rv_n, rv_b0, rv_b1, RMR, ne_eq, reduceCtorEq, not_false_eq_true, Option.getD_some, if_true, if_false, and_self, false_and, and_false, Nat.add_left_cancel_iff, Nat.add_eq_left, Nat.left_eq_add, Nat.one_ne_zero, Nat.reduceAdd, Nat.reduceLT, Nat.reduceLeDiff, Nat.reduceEqDiff, true_implies, false_implies, implies_true, Option.some.injEq, forall_eq', forall_eq, reduceCtorEq, brT, brF, br_s, i_10, i_01, ib_0_2, ib_1_2, tn_0, tn_1, Int32.le_refl, eq_self, rv_bN, rv_iM, RCX 0, RCG 2, RCT 4, RCT 15, RCT 25, RCS 35, RCS 49, RCH 63, RCP 67, RCB 72, RCR 77, RCM 81, RLY, lit_at hw, RCT P, hT', p3, eb, en, e1, l1, e56, e57, i64_of hg, i64_of ht, ol_mul, k0, k1, k2, k3, k4]
                refine b105_139 (b105_146 ?_)
                rw [on_succ]
                exact nx
              · have k4 := iff_true_intro (cm.mpr (by omega))
                simp only [if_neg (fun q => q.elim v u : ¬ ((spB τ ρ p c).2.1 = 0 ∨ gOn τ ρ p c * (spB τ ρ p c).2.1 < (spB τ ρ p c).1 * tOn ρ p c)), if_neg (fun q => q.elim y x : ¬ ((spB τ ρ p c).2.2.2 = 0 ∨ (spB τ ρ p c).2.2.1 * tOn ρ p c < gOn τ ρ p c * (spB τ ρ p c).2.2.2))] at nx
                simp only [↓br_pos, ↓br_neg, ↓rF_I, ↓rF_L, ↓rF_R, ↓rF_N, rO_m, rB_m, ↓rI_m, wI_m, ↓rB2_m, ↓rB3_m, wB2_m, wB3_m, ↓rL_m, wL_m, ↓rQ_m, wQ_m, ↓lI_m, pI_m, pL_m, pR_m, sI_m, sBy_m, sBo_m, sL_m, sQ_m, fst_m, true_and, and_true, tg_some, ln_some, uI_1, uI_2, uL_1, uL_2, uL_3, uQ_1, uQ_2, uQ_3, rv_i, rv_l, rv_n, rv_b0, rv_b1, RMR, ne_eq, reduceCtorEq, not_false_eq_true, Option.getD_some, if_true, if_false, and_self, false_and, and_false, Nat.add_left_cancel_iff, Nat.add_eq_left, Nat.left_eq_add, Nat.one_ne_zero, Nat.reduceAdd, Nat.reduceLT, Nat.reduceLeDiff, Nat.reduceEqDiff, true_implies, false_implies, implies_true, Option.some.injEq, forall_eq', forall_eq, reduceCtorEq, brT, brF, br_s, i_10, i_01, ib_0_2, ib_1_2, tn_0, tn_1, Int32.le_refl, eq_self, rv_bN, rv_iM, RCX 0, RCG 2, RCT 4, RCT 15, RCT 25, RCS 35, RCS 49, RCH 63, RCP 67, RCB 72, RCR 77, RCM 81, RLY, lit_at hw, RCT P, hT', p3, eb, en, e1, l1, e56, e57, i64_of hg, i64_of ht, ol_mul, k0, k1, k2, k3, k4]
                refine b105_146 ?_
                rw [on_succ]
                exact nx
    · skip
      refine b105_29a ?_
      by_cases z : tOn ρ p c = 0
      · have k0 := iff_true_intro (ct.mpr z)
        have eB : spB τ ρ p (c + 1) = spB τ ρ p c := if_pos z
        rw [eB] at nx
        simp only [↓br_pos, ↓br_neg, ↓rF_I, ↓rF_L, ↓rF_R, ↓rF_N, rO_m, rB_m, ↓rI_m, wI_m, ↓rB2_m, ↓rB3_m, wB2_m, wB3_m, ↓rL_m, wL_m, ↓rQ_m, wQ_m, ↓lI_m, pI_m, pL_m, pR_m, sI_m, sBy_m, sBo_m, sL_m, sQ_m, fst_m, true_and, and_true, tg_some, ln_some, uI_1, uI_2, uL_1, uL_2, uL_3, uQ_1, uQ_2, uQ_3, rv_i, rv_l, rv_n, rv_b0, rv_b1, RMR, ne_eq, reduceCtorEq, not_false_eq_true, Option.getD_some, if_true, if_false, and_self, false_and, and_false, Nat.add_left_cancel_iff, Nat.add_eq_left, Nat.left_eq_add, Nat.one_ne_zero, Nat.reduceAdd, Nat.reduceLT, Nat.reduceLeDiff, Nat.reduceEqDiff, true_implies, false_implies, implies_true, Option.some.injEq, forall_eq', forall_eq, reduceCtorEq, brT, brF, br_s, i_10, i_01, ib_0_2, ib_1_2, tn_0, tn_1, Int32.le_refl, eq_self, rv_bN, rv_iM, RCX 0, RCG 2, RCT 4, RCT 15, RCT 25, RCS 35, RCS 49, RCH 63, RCP 67, RCB 72, RCR 77, RCM 81, RLY, lit_at hw, RCT P, hT', p3, eb, en, e1, l1, e56, e57, i64_of hg, i64_of ht, ol_mul, k0]
        refine b105_146 ?_
        rw [on_succ]
        exact nx
      · have k0 := iff_false_intro (fun q => z (ct.mp q))
        have eB : spB τ ρ p (c + 1) = ⟨if (spB τ ρ p c).2.1 = 0 ∨ gOn τ ρ p c * (spB τ ρ p c).2.1 < (spB τ ρ p c).1 * tOn ρ p c then gOn τ ρ p c else (spB τ ρ p c).1, if (spB τ ρ p c).2.1 = 0 ∨ gOn τ ρ p c * (spB τ ρ p c).2.1 < (spB τ ρ p c).1 * tOn ρ p c then tOn ρ p c else (spB τ ρ p c).2.1, if (spB τ ρ p c).2.2.2 = 0 ∨ (spB τ ρ p c).2.2.1 * tOn ρ p c < gOn τ ρ p c * (spB τ ρ p c).2.2.2 then gOn τ ρ p c else (spB τ ρ p c).2.2.1, if (spB τ ρ p c).2.2.2 = 0 ∨ (spB τ ρ p c).2.2.1 * tOn ρ p c < gOn τ ρ p c * (spB τ ρ p c).2.2.2 then tOn ρ p c else (spB τ ρ p c).2.2.2⟩ := if_neg z
        rw [eB] at nx
        by_cases v : (spB τ ρ p c).2.1 = 0
        · have k1 := iff_true_intro (cb.mpr v)
          by_cases y : (spB τ ρ p c).2.2.2 = 0
          · have k3 := iff_true_intro (cd.mpr y)
            simp only [if_pos (Or.inl v : ((spB τ ρ p c).2.1 = 0 ∨ gOn τ ρ p c * (spB τ ρ p c).2.1 < (spB τ ρ p c).1 * tOn ρ p c)), if_pos (Or.inl y : (spB τ ρ p c).2.2.2 = 0 ∨ (spB τ ρ p c).2.2.1 * tOn ρ p c < gOn τ ρ p c * (spB τ ρ p c).2.2.2)] at nx
            simp only [↓br_pos, ↓br_neg, ↓rF_I, ↓rF_L, ↓rF_R, ↓rF_N, rO_m, rB_m, ↓rI_m, wI_m, ↓rB2_m, ↓rB3_m, wB2_m, wB3_m, ↓rL_m, wL_m, ↓rQ_m, wQ_m, ↓lI_m, pI_m, pL_m, pR_m, sI_m, sBy_m, sBo_m, sL_m, sQ_m, fst_m, true_and, and_true, tg_some, ln_some, uI_1, uI_2, uL_1, uL_2, uL_3, uQ_1, uQ_2, uQ_3, rv_i, rv_l, rv_n, rv_b0, rv_b1, RMR, ne_eq, reduceCtorEq, not_false_eq_true, Option.getD_some, if_true, if_false, and_self, false_and, and_false, Nat.add_left_cancel_iff, Nat.add_eq_left, Nat.left_eq_add, Nat.one_ne_zero, Nat.reduceAdd, Nat.reduceLT, Nat.reduceLeDiff, Nat.reduceEqDiff, true_implies, false_implies, implies_true, Option.some.injEq, forall_eq', forall_eq, reduceCtorEq, brT, brF, br_s, i_10, i_01, ib_0_2, ib_1_2, tn_0, tn_1, Int32.le_refl, eq_self, rv_bN, rv_iM, RCX 0, RCG 2, RCT 4, RCT 15, RCT 25, RCS 35, RCS 49, RCH 63, RCP 67, RCB 72, RCR 77, RCM 81, RLY, lit_at hw, RCT P, hT', p3, eb, en, e1, l1, e56, e57, i64_of hg, i64_of ht, ol_mul, k0, k1]
            refine b105_103 ?_
            simp only [↓br_pos, ↓br_neg, ↓rF_I, ↓rF_L, ↓rF_R, ↓rF_N, rO_m, rB_m, ↓rI_m, wI_m, ↓rB2_m, ↓rB3_m, wB2_m, wB3_m, ↓rL_m, wL_m, ↓rQ_m, wQ_m, ↓lI_m, pI_m, pL_m, pR_m, sI_m, sBy_m, sBo_m, sL_m, sQ_m, fst_m, true_and, and_true, tg_some, ln_some, uI_1, uI_2, uL_1, uL_2, uL_3, uQ_1, uQ_2, uQ_3, rv_i, rv_l, rv_n, rv_b0, rv_b1, RMR, ne_eq, reduceCtorEq, not_false_eq_true, Option.getD_some, if_true, if_false, and_self, false_and, and_false, Nat.add_left_cancel_iff, Nat.add_eq_left, Nat.left_eq_add, Nat.one_ne_zero, Nat.reduceAdd, Nat.reduceLT, Nat.reduceLeDiff, Nat.reduceEqDiff, true_implies, false_implies, implies_true, Option.some.injEq, forall_eq', forall_eq, reduceCtorEq, brT, brF, br_s, i_10, i_01, ib_0_2, ib_1_2, tn_0, tn_1, Int32.le_refl, eq_self, rv_bN, rv_iM, ol_mul, k0, k3]
            refine b105_139 (b105_146 ?_)
            rw [on_succ]
            exact nx
          · have k3 := iff_false_intro (fun q => y (cd.mp q))
            by_cases x : (spB τ ρ p c).2.2.1 * tOn ρ p c < gOn τ ρ p c * (spB τ ρ p c).2.2.2
            · have k4 := iff_false_intro (fun q => absurd (cm.mp q) (by omega))
              simp only [if_pos (Or.inl v : ((spB τ ρ p c).2.1 = 0 ∨ gOn τ ρ p c * (spB τ ρ p c).2.1 < (spB τ ρ p c).1 * tOn ρ p c)), if_pos (Or.inr x : (spB τ ρ p c).2.2.2 = 0 ∨ (spB τ ρ p c).2.2.1 * tOn ρ p c < gOn τ ρ p c * (spB τ ρ p c).2.2.2)] at nx
              simp only [↓br_pos, ↓br_neg, ↓rF_I, ↓rF_L, ↓rF_R, ↓rF_N, rO_m, rB_m, ↓rI_m, wI_m, ↓rB2_m, ↓rB3_m, wB2_m, wB3_m, ↓rL_m, wL_m, ↓rQ_m, wQ_m, ↓lI_m, pI_m, pL_m, pR_m, sI_m, sBy_m, sBo_m, sL_m, sQ_m, fst_m, true_and, and_true, tg_some, ln_some, uI_1, uI_2, uL_1, uL_2, uL_3, uQ_1, uQ_2, uQ_3, rv_i, rv_l, rv_n, rv_b0, rv_b1, RMR, ne_eq, reduceCtorEq, not_false_eq_true, Option.getD_some, if_true, if_false, and_self, false_and, and_false, Nat.add_left_cancel_iff, Nat.add_eq_left, Nat.left_eq_add, Nat.one_ne_zero, Nat.reduceAdd, Nat.reduceLT, Nat.reduceLeDiff, Nat.reduceEqDiff, true_implies, false_implies, implies_true, Option.some.injEq, forall_eq', forall_eq, reduceCtorEq, brT, brF, br_s, i_10, i_01, ib_0_2, ib_1_2, tn_0, tn_1, Int32.le_refl, eq_self, rv_bN, rv_iM, RCX 0, RCG 2, RCT 4, RCT 15, RCT 25, RCS 35, RCS 49, RCH 63, RCP 67, RCB 72, RCR 77, RCM 81, RLY, lit_at hw, RCT P, hT', p3, eb, en, e1, l1, e56, e57, i64_of hg, i64_of ht, ol_mul, k0, k1]
              refine b105_103 ?_
              simp only [↓br_pos, ↓br_neg, ↓rF_I, ↓rF_L, ↓rF_R, ↓rF_N, rO_m, rB_m, ↓rI_m, wI_m, ↓rB2_m, ↓rB3_m, wB2_m, wB3_m, ↓rL_m, wL_m, ↓rQ_m, wQ_m, ↓lI_m, pI_m, pL_m, pR_m, sI_m, sBy_m, sBo_m, sL_m, sQ_m, fst_m, true_and, and_true, tg_some, ln_some, uI_1, uI_2, uL_1, uL_2, uL_3, uQ_1, uQ_2, uQ_3, rv_i, rv_l, rv_n, rv_b0, rv_b1, RMR, ne_eq, reduceCtorEq, not_false_eq_true, Option.getD_some, if_true, if_false, and_self, false_and, and_false, Nat.add_left_cancel_iff, Nat.add_eq_left, Nat.left_eq_add, Nat.one_ne_zero, Nat.reduceAdd, Nat.reduceLT, Nat.reduceLeDiff, Nat.reduceEqDiff, true_implies, false_implies, implies_true, Option.some.injEq, forall_eq', forall_eq, reduceCtorEq, brT, brF, br_s, i_10, i_01, ib_0_2, ib_1_2, tn_0, tn_1, Int32.le_refl, eq_self, rv_bN, rv_iM, ol_mul, k0, k3, k4]
              refine b105_139 (b105_146 ?_)
              rw [on_succ]
              exact nx
            · have k4 := iff_true_intro (cm.mpr (by omega))
              simp only [if_pos (Or.inl v : ((spB τ ρ p c).2.1 = 0 ∨ gOn τ ρ p c * (spB τ ρ p c).2.1 < (spB τ ρ p c).1 * tOn ρ p c)), if_neg (fun q => q.elim y x : ¬ ((spB τ ρ p c).2.2.2 = 0 ∨ (spB τ ρ p c).2.2.1 * tOn ρ p c < gOn τ ρ p c * (spB τ ρ p c).2.2.2))] at nx
              simp only [↓br_pos, ↓br_neg, ↓rF_I, ↓rF_L, ↓rF_R, ↓rF_N, rO_m, rB_m, ↓rI_m, wI_m, ↓rB2_m, ↓rB3_m, wB2_m, wB3_m, ↓rL_m, wL_m, ↓rQ_m, wQ_m, ↓lI_m, pI_m, pL_m, pR_m, sI_m, sBy_m, sBo_m, sL_m, sQ_m, fst_m, true_and, and_true, tg_some, ln_some, uI_1, uI_2, uL_1, uL_2, uL_3, uQ_1, uQ_2, uQ_3, rv_i, rv_l, rv_n, rv_b0, rv_b1, RMR, ne_eq, reduceCtorEq, not_false_eq_true, Option.getD_some, if_true, if_false, and_self, false_and, and_false, Nat.add_left_cancel_iff, Nat.add_eq_left, Nat.left_eq_add, Nat.one_ne_zero, Nat.reduceAdd, Nat.reduceLT, Nat.reduceLeDiff, Nat.reduceEqDiff, true_implies, false_implies, implies_true, Option.some.injEq, forall_eq', forall_eq, reduceCtorEq, brT, brF, br_s, i_10, i_01, ib_0_2, ib_1_2, tn_0, tn_1, Int32.le_refl, eq_self, rv_bN, rv_iM, RCX 0, RCG 2, RCT 4, RCT 15, RCT 25, RCS 35, RCS 49, RCH 63, RCP 67, RCB 72, RCR 77, RCM 81, RLY, lit_at hw, RCT P, hT', p3, eb, en, e1, l1, e56, e57, i64_of hg, i64_of ht, ol_mul, k0, k1]
              refine b105_103 ?_
              simp only [↓br_pos, ↓br_neg, ↓rF_I, ↓rF_L, ↓rF_R, ↓rF_N, rO_m, rB_m, ↓rI_m, wI_m, ↓rB2_m, ↓rB3_m, wB2_m, wB3_m, ↓rL_m, wL_m, ↓rQ_m, wQ_m, ↓lI_m, pI_m, pL_m, pR_m, sI_m, sBy_m, sBo_m, sL_m, sQ_m, fst_m, true_and, and_true, tg_some, ln_some, uI_1, uI_2, uL_1, uL_2, uL_3, uQ_1, uQ_2, uQ_3, rv_i, rv_l, rv_n, rv_b0, rv_b1, RMR, ne_eq, reduceCtorEq, not_false_eq_true, Option.getD_some, if_true, if_false, and_self, false_and, and_false, Nat.add_left_cancel_iff, Nat.add_eq_left, Nat.left_eq_add, Nat.one_ne_zero, Nat.reduceAdd, Nat.reduceLT, Nat.reduceLeDiff, Nat.reduceEqDiff, true_implies, false_implies, implies_true, Option.some.injEq, forall_eq', forall_eq, reduceCtorEq, brT, brF, br_s, i_10, i_01, ib_0_2, ib_1_2, tn_0, tn_1, Int32.le_refl, eq_self, rv_bN, rv_iM, ol_mul, k0, k3, k4]
              refine b105_146 ?_
              rw [on_succ]
              exact nx
        · have k1 := iff_false_intro (fun q => v (cb.mp q))
          by_cases u : gOn τ ρ p c * (spB τ ρ p c).2.1 < (spB τ ρ p c).1 * tOn ρ p c
          · have k2 := iff_false_intro (fun q => absurd (cl.mp q) (by omega))
            by_cases y : (spB τ ρ p c).2.2.2 = 0
            · have k3 := iff_true_intro (cd.mpr y)
              simp only [if_pos (Or.inr u : ((spB τ ρ p c).2.1 = 0 ∨ gOn τ ρ p c * (spB τ ρ p c).2.1 < (spB τ ρ p c).1 * tOn ρ p c)), if_pos (Or.inl y : (spB τ ρ p c).2.2.2 = 0 ∨ (spB τ ρ p c).2.2.1 * tOn ρ p c < gOn τ ρ p c * (spB τ ρ p c).2.2.2)] at nx
              simp only [↓br_pos, ↓br_neg, ↓rF_I, ↓rF_L, ↓rF_R, ↓rF_N, rO_m, rB_m, ↓rI_m, wI_m, ↓rB2_m, ↓rB3_m, wB2_m, wB3_m, ↓rL_m, wL_m, ↓rQ_m, wQ_m, ↓lI_m, pI_m, pL_m, pR_m, sI_m, sBy_m, sBo_m, sL_m, sQ_m, fst_m, true_and, and_true, tg_some, ln_some, uI_1, uI_2, uL_1, uL_2, uL_3, uQ_1, uQ_2, uQ_3, rv_i, rv_l, rv_n, rv_b0, rv_b1, RMR, ne_eq, reduceCtorEq, not_false_eq_true, Option.getD_some, if_true, if_false, and_self, false_and, and_false, Nat.add_left_cancel_iff, Nat.add_eq_left, Nat.left_eq_add, Nat.one_ne_zero, Nat.reduceAdd, Nat.reduceLT, Nat.reduceLeDiff, Nat.reduceEqDiff, true_implies, false_implies, implies_true, Option.some.injEq, forall_eq', forall_eq, reduceCtorEq, brT, brF, br_s, i_10, i_01, ib_0_2, ib_1_2, tn_0, tn_1, Int32.le_refl, eq_self, rv_bN, rv_iM, RCX 0, RCG 2, RCT 4, RCT 15, RCT 25, RCS 35, RCS 49, RCH 63, RCP 67, RCB 72, RCR 77, RCM 81, RLY, lit_at hw, RCT P, hT', p3, eb, en, e1, l1, e56, e57, i64_of hg, i64_of ht, ol_mul, k0, k1, k2]
              refine b105_103 ?_
              simp only [↓br_pos, ↓br_neg, ↓rF_I, ↓rF_L, ↓rF_R, ↓rF_N, rO_m, rB_m, ↓rI_m, wI_m, ↓rB2_m, ↓rB3_m, wB2_m, wB3_m, ↓rL_m, wL_m, ↓rQ_m, wQ_m, ↓lI_m, pI_m, pL_m, pR_m, sI_m, sBy_m, sBo_m, sL_m, sQ_m, fst_m, true_and, and_true, tg_some, ln_some, uI_1, uI_2, uL_1, uL_2, uL_3, uQ_1, uQ_2, uQ_3, rv_i, rv_l, rv_n, rv_b0, rv_b1, RMR, ne_eq, reduceCtorEq, not_false_eq_true, Option.getD_some, if_true, if_false, and_self, false_and, and_false, Nat.add_left_cancel_iff, Nat.add_eq_left, Nat.left_eq_add, Nat.one_ne_zero, Nat.reduceAdd, Nat.reduceLT, Nat.reduceLeDiff, Nat.reduceEqDiff, true_implies, false_implies, implies_true, Option.some.injEq, forall_eq', forall_eq, reduceCtorEq, brT, brF, br_s, i_10, i_01, ib_0_2, ib_1_2, tn_0, tn_1, Int32.le_refl, eq_self, rv_bN, rv_iM, ol_mul, k0, k3]
              refine b105_139 (b105_146 ?_)
              rw [on_succ]
              exact nx
            · have k3 := iff_false_intro (fun q => y (cd.mp q))
              by_cases x : (spB τ ρ p c).2.2.1 * tOn ρ p c < gOn τ ρ p c * (spB τ ρ p c).2.2.2
              · have k4 := iff_false_intro (fun q => absurd (cm.mp q) (by omega))
                simp only [if_pos (Or.inr u : ((spB τ ρ p c).2.1 = 0 ∨ gOn τ ρ p c * (spB τ ρ p c).2.1 < (spB τ ρ p c).1 * tOn ρ p c)), if_pos (Or.inr x : (spB τ ρ p c).2.2.2 = 0 ∨ (spB τ ρ p c).2.2.1 * tOn ρ p c < gOn τ ρ p c * (spB τ ρ p c).2.2.2)] at nx
                simp only [↓br_pos, ↓br_neg, ↓rF_I, ↓rF_L, ↓rF_R, ↓rF_N, rO_m, rB_m, ↓rI_m, wI_m, ↓rB2_m, ↓rB3_m, wB2_m, wB3_m, ↓rL_m, wL_m, ↓rQ_m, wQ_m, ↓lI_m, pI_m, pL_m, pR_m, sI_m, sBy_m, sBo_m, sL_m, sQ_m, fst_m, true_and, and_true, tg_some, ln_some, uI_1, uI_2, uL_1, uL_2, uL_3, uQ_1, uQ_2, uQ_3, rv_i, rv_l, rv_n, rv_b0, rv_b1, RMR, ne_eq, reduceCtorEq, not_false_eq_true, Option.getD_some, if_true, if_false, and_self, false_and, and_false, Nat.add_left_cancel_iff, Nat.add_eq_left, Nat.left_eq_add, Nat.one_ne_zero, Nat.reduceAdd, Nat.reduceLT, Nat.reduceLeDiff, Nat.reduceEqDiff, true_implies, false_implies, implies_true, Option.some.injEq, forall_eq', forall_eq, reduceCtorEq, brT, brF, br_s, i_10, i_01, ib_0_2, ib_1_2, tn_0, tn_1, Int32.le_refl, eq_self, rv_bN, rv_iM, RCX 0, RCG 2, RCT 4, RCT 15, RCT 25, RCS 35, RCS 49, RCH 63, RCP 67, RCB 72, RCR 77, RCM 81, RLY, lit_at hw, RCT P, hT', p3, eb, en, e1, l1, e56, e57, i64_of hg, i64_of ht, ol_mul, k0, k1, k2]
                refine b105_103 ?_
                simp only [↓br_pos, ↓br_neg, ↓rF_I, ↓rF_L, ↓rF_R, ↓rF_N, rO_m, rB_m, ↓rI_m, wI_m, ↓rB2_m, ↓rB3_m, wB2_m, wB3_m, ↓rL_m, wL_m, ↓rQ_m, wQ_m, ↓lI_m, pI_m, pL_m, pR_m, sI_m, sBy_m, sBo_m, sL_m, sQ_m, fst_m, true_and, and_true, tg_some, ln_some, uI_1, uI_2, uL_1, uL_2, uL_3, uQ_1, uQ_2, uQ_3, rv_i, rv_l, rv_n, rv_b0, rv_b1, RMR, ne_eq, reduceCtorEq, not_false_eq_true, Option.getD_some, if_true, if_false, and_self, false_and, and_false, Nat.add_left_cancel_iff, Nat.add_eq_left, Nat.left_eq_add, Nat.one_ne_zero, Nat.reduceAdd, Nat.reduceLT, Nat.reduceLeDiff, Nat.reduceEqDiff, true_implies, false_implies, implies_true, Option.some.injEq, forall_eq', forall_eq, reduceCtorEq, brT, brF, br_s, i_10, i_01, ib_0_2, ib_1_2, tn_0, tn_1, Int32.le_refl, eq_self, rv_bN, rv_iM, ol_mul, k0, k3, k4]
                refine b105_139 (b105_146 ?_)
                rw [on_succ]
                exact nx
              · have k4 := iff_true_intro (cm.mpr (by omega))
                simp only [if_pos (Or.inr u : ((spB τ ρ p c).2.1 = 0 ∨ gOn τ ρ p c * (spB τ ρ p c).2.1 < (spB τ ρ p c).1 * tOn ρ p c)), if_neg (fun q => q.elim y x : ¬ ((spB τ ρ p c).2.2.2 = 0 ∨ (spB τ ρ p c).2.2.1 * tOn ρ p c < gOn τ ρ p c * (spB τ ρ p c).2.2.2))] at nx
                simp only [↓br_pos, ↓br_neg, ↓rF_I, ↓rF_L, ↓rF_R, ↓rF_N, rO_m, rB_m, ↓rI_m, wI_m, ↓rB2_m, ↓rB3_m, wB2_m, wB3_m, ↓rL_m, wL_m, ↓rQ_m, wQ_m, ↓lI_m, pI_m, pL_m, pR_m, sI_m, sBy_m, sBo_m, sL_m, sQ_m, fst_m, true_and, and_true, tg_some, ln_some, uI_1, uI_2, uL_1, uL_2, uL_3, uQ_1, uQ_2, uQ_3, rv_i, rv_l, rv_n, rv_b0, rv_b1, RMR, ne_eq, reduceCtorEq, not_false_eq_true, Option.getD_some, if_true, if_false, and_self, false_and, and_false, Nat.add_left_cancel_iff, Nat.add_eq_left, Nat.left_eq_add, Nat.one_ne_zero, Nat.reduceAdd, Nat.reduceLT, Nat.reduceLeDiff, Nat.reduceEqDiff, true_implies, false_implies, implies_true, Option.some.injEq, forall_eq', forall_eq, reduceCtorEq, brT, brF, br_s, i_10, i_01, ib_0_2, ib_1_2, tn_0, tn_1, Int32.le_refl, eq_self, rv_bN, rv_iM, RCX 0, RCG 2, RCT 4, RCT 15, RCT 25, RCS 35, RCS 49, RCH 63, RCP 67, RCB 72, RCR 77, RCM 81, RLY, lit_at hw, RCT P, hT', p3, eb, en, e1, l1, e56, e57, i64_of hg, i64_of ht, ol_mul, k0, k1, k2]
                refine b105_103 ?_
                simp only [↓br_pos, ↓br_neg, ↓rF_I, ↓rF_L, ↓rF_R, ↓rF_N, rO_m, rB_m, ↓rI_m, wI_m, ↓rB2_m, ↓rB3_m, wB2_m, wB3_m, ↓rL_m, wL_m, ↓rQ_m, wQ_m, ↓lI_m, pI_m, pL_m, pR_m, sI_m, sBy_m, sBo_m, sL_m, sQ_m, fst_m, true_and, and_true, tg_some, ln_some, uI_1, uI_2, uL_1, uL_2, uL_3, uQ_1, uQ_2, uQ_3, rv_i, rv_l, rv_n, rv_b0, rv_b1, RMR, ne_eq, reduceCtorEq, not_false_eq_true, Option.getD_some, if_true, if_false, and_self, false_and, and_false, Nat.add_left_cancel_iff, Nat.add_eq_left, Nat.left_eq_add, Nat.one_ne_zero, Nat.reduceAdd, Nat.reduceLT, Nat.reduceLeDiff, Nat.reduceEqDiff, true_implies, false_implies, implies_true, Option.some.injEq, forall_eq', forall_eq, reduceCtorEq, brT, brF, br_s, i_10, i_01, ib_0_2, ib_1_2, tn_0, tn_1, Int32.le_refl, eq_self, rv_bN, rv_iM, ol_mul, k0, k3, k4]
                refine b105_146 ?_
                rw [on_succ]
                exact nx
          · have k2 := iff_true_intro (cl.mpr (by omega))
            by_cases y : (spB τ ρ p c).2.2.2 = 0
            · have k3 := iff_true_intro (cd.mpr y)
              simp only [if_neg (fun q => q.elim v u : ¬ ((spB τ ρ p c).2.1 = 0 ∨ gOn τ ρ p c * (spB τ ρ p c).2.1 < (spB τ ρ p c).1 * tOn ρ p c)), if_pos (Or.inl y : (spB τ ρ p c).2.2.2 = 0 ∨ (spB τ ρ p c).2.2.1 * tOn ρ p c < gOn τ ρ p c * (spB τ ρ p c).2.2.2)] at nx
              simp only [↓br_pos, ↓br_neg, ↓rF_I, ↓rF_L, ↓rF_R, ↓rF_N, rO_m, rB_m, ↓rI_m, wI_m, ↓rB2_m, ↓rB3_m, wB2_m, wB3_m, ↓rL_m, wL_m, ↓rQ_m, wQ_m, ↓lI_m, pI_m, pL_m, pR_m, sI_m, sBy_m, sBo_m, sL_m, sQ_m, fst_m, true_and, and_true, tg_some, ln_some, uI_1, uI_2, uL_1, uL_2, uL_3, uQ_1, uQ_2, uQ_3, rv_i, rv_l, rv_n, rv_b0, rv_b1, RMR, ne_eq, reduceCtorEq, not_false_eq_true, Option.getD_some, if_true, if_false, and_self, false_and, and_false, Nat.add_left_cancel_iff, Nat.add_eq_left, Nat.left_eq_add, Nat.one_ne_zero, Nat.reduceAdd, Nat.reduceLT, Nat.reduceLeDiff, Nat.reduceEqDiff, true_implies, false_implies, implies_true, Option.some.injEq, forall_eq', forall_eq, reduceCtorEq, brT, brF, br_s, i_10, i_01, ib_0_2, ib_1_2, tn_0, tn_1, Int32.le_refl, eq_self, rv_bN, rv_iM, RCX 0, RCG 2, RCT 4, RCT 15, RCT 25, RCS 35, RCS 49, RCH 63, RCP 67, RCB 72, RCR 77, RCM 81, RLY, lit_at hw, RCT P, hT', p3, eb, en, e1, l1, e56, e57, i64_of hg, i64_of ht, ol_mul, k0, k1, k2, k3]
              refine b105_139 (b105_146 ?_)
              rw [on_succ]
              exact nx
            · have k3 := iff_false_intro (fun q => y (cd.mp q))
              by_cases x : (spB τ ρ p c).2.2.1 * tOn ρ p c < gOn τ ρ p c * (spB τ ρ p c).2.2.2
              · have k4 := iff_false_intro (fun q => absurd (cm.mp q) (by omega))
                simp only [if_neg (fun q => q.elim v u : ¬ ((spB τ ρ p c).2.1 = 0 ∨ gOn τ ρ p c * (spB τ ρ p c).2.1 < (spB τ ρ p c).1 * tOn ρ p c)), if_pos (Or.inr x : (spB τ ρ p c).2.2.2 = 0 ∨ (spB τ ρ p c).2.2.1 * tOn ρ p c < gOn τ ρ p c * (spB τ ρ p c).2.2.2)] at nx
                simp only [↓br_pos, ↓br_neg, ↓rF_I, ↓rF_L, ↓rF_R, ↓rF_N, rO_m, rB_m, ↓rI_m, wI_m, ↓rB2_m, ↓rB3_m, wB2_m, wB3_m, ↓rL_m, wL_m, ↓rQ_m, wQ_m, ↓lI_m, pI_m, pL_m, pR_m, sI_m, sBy_m, sBo_m, sL_m, sQ_m, fst_m, true_and, and_true, tg_some, ln_some, uI_1, uI_2, uL_1, uL_2, uL_3, uQ_1, uQ_2, uQ_3, rv_i, rv_l, rv_n, rv_b0, rv_b1, RMR, ne_eq, reduceCtorEq, not_false_eq_true, Option.getD_some, if_true, if_false, and_self, false_and, and_false, Nat.add_left_cancel_iff, Nat.add_eq_left, Nat.left_eq_add, Nat.one_ne_zero, Nat.reduceAdd, Nat.reduceLT, Nat.reduceLeDiff, Nat.reduceEqDiff, true_implies, false_implies, implies_true, Option.some.injEq, forall_eq', forall_eq, reduceCtorEq, brT, brF, br_s, i_10, i_01, ib_0_2, ib_1_2, tn_0, tn_1, Int32.le_refl, eq_self, rv_bN, rv_iM, RCX 0, RCG 2, RCT 4, RCT 15, RCT 25, RCS 35, RCS 49, RCH 63, RCP 67, RCB 72, RCR 77, RCM 81, RLY, lit_at hw, RCT P, hT', p3, eb, en, e1, l1, e56, e57, i64_of hg, i64_of ht, ol_mul, k0, k1, k2, k3, k4]
                refine b105_139 (b105_146 ?_)
                rw [on_succ]
                exact nx
              · have k4 := iff_true_intro (cm.mpr (by omega))
                simp only [if_neg (fun q => q.elim v u : ¬ ((spB τ ρ p c).2.1 = 0 ∨ gOn τ ρ p c * (spB τ ρ p c).2.1 < (spB τ ρ p c).1 * tOn ρ p c)), if_neg (fun q => q.elim y x : ¬ ((spB τ ρ p c).2.2.2 = 0 ∨ (spB τ ρ p c).2.2.1 * tOn ρ p c < gOn τ ρ p c * (spB τ ρ p c).2.2.2))] at nx
                simp only [↓br_pos, ↓br_neg, ↓rF_I, ↓rF_L, ↓rF_R, ↓rF_N, rO_m, rB_m, ↓rI_m, wI_m, ↓rB2_m, ↓rB3_m, wB2_m, wB3_m, ↓rL_m, wL_m, ↓rQ_m, wQ_m, ↓lI_m, pI_m, pL_m, pR_m, sI_m, sBy_m, sBo_m, sL_m, sQ_m, fst_m, true_and, and_true, tg_some, ln_some, uI_1, uI_2, uL_1, uL_2, uL_3, uQ_1, uQ_2, uQ_3, rv_i, rv_l, rv_n, rv_b0, rv_b1, RMR, ne_eq, reduceCtorEq, not_false_eq_true, Option.getD_some, if_true, if_false, and_self, false_and, and_false, Nat.add_left_cancel_iff, Nat.add_eq_left, Nat.left_eq_add, Nat.one_ne_zero, Nat.reduceAdd, Nat.reduceLT, Nat.reduceLeDiff, Nat.reduceEqDiff, true_implies, false_implies, implies_true, Option.some.injEq, forall_eq', forall_eq, reduceCtorEq, brT, brF, br_s, i_10, i_01, ib_0_2, ib_1_2, tn_0, tn_1, Int32.le_refl, eq_self, rv_bN, rv_iM, RCX 0, RCG 2, RCT 4, RCT 15, RCT 25, RCS 35, RCS 49, RCH 63, RCP 67, RCB 72, RCR 77, RCM 81, RLY, lit_at hw, RCT P, hT', p3, eb, en, e1, l1, e56, e57, i64_of hg, i64_of ht, ol_mul, k0, k1, k2, k3, k4]
                refine b105_146 ?_
                rw [on_succ]
                exact nx
theorem c_105z {w : mT} {σ : mS} {tp n : Nat} {t : Nat → Nat} {τ ρ : Rw} {bk : Nat → Rw} {has : Nat → Bool} {im : Nat → Rw} {p : Int32} {D : Nat} {K : Int64 → Hp → Prop} (h : cIn w σ tp t τ ρ n bk has im) (hn : bN p (τ 1) ≠ 1) (hD : 4 ≤ D) : wpL D 105 [.ref 0, .int p] (mW w σ) K ↔ K (-1) (mW w σ) := by
  have h' := h
  obtain ⟨hw, hS, hH, ⟨P, hP, p3, p4, hτ⟩, hρ, hv, hr, h1, htp, htb, ht⟩ := h
  have hT := isTP hw hP
  have hT' := hT
  simp only [isT] at hT'
  refine cL_of (m := 3) (fun d hd Q hQ => ?_) rfl hD
  have hd1 : 1 ≤ d := by omega
  have v1 := hv.2.1
  have z' : bN p (τ 1) = 0 := bN_01.resolve_right hn
  refine b105_0 ?_
  simp only [↓br_pos, ↓br_neg, ↓rF_I, ↓rF_L, ↓rF_R, ↓rF_N, rO_m, rB_m, ↓rI_m, wI_m, ↓rB2_m, ↓rB3_m, wB2_m, wB3_m, ↓rL_m, wL_m, ↓rQ_m, wQ_m, ↓lI_m, pI_m, pL_m, pR_m, sI_m, sBy_m, sBo_m, sL_m, sQ_m, fst_m, true_and, and_true, tg_some, ln_some, uI_1, uI_2, uL_1, uL_2, uL_3, uQ_1, uQ_2, uQ_3, rv_i, rv_l, rv_n, rv_b0, rv_b1, RMR, ne_eq, reduceCtorEq, not_false_eq_true, Option.getD_some, if_true, if_false, and_self, false_and, and_false, Nat.add_left_cancel_iff, Nat.add_eq_left, Nat.left_eq_add, Nat.one_ne_zero, Nat.reduceAdd, Nat.reduceLT, Nat.reduceLeDiff, Nat.reduceEqDiff, true_implies, false_implies, implies_true, Option.some.injEq, forall_eq', forall_eq, reduceCtorEq, brT, brF, br_s, i_10, i_01, ib_0_2, ib_1_2, tn_0, tn_1, Int32.le_refl, eq_self, rv_bN, rv_iM, RCX 0, RCG 2, RCT 4, RCT 15, RCT 25, RCS 35, RCS 49, RCH 63, RCP 67, RCB 72, RCR 77, RCM 81, RLY, lit_at hw, RCT P, hT', p3, g_71 hT hτ.2.2.1 (by omega : τ 1 < 2147483648) hd1, z']
  exact hQ
theorem c_105 {w : mT} {σ : mS} {tp n : Nat} {t : Nat → Nat} {τ ρ : Rw} {bk : Nat → Rw} {has : Nat → Bool} {im : Nat → Rw} {p : Nat} {D : Nat} {K : Int64 → Hp → Prop} (h : cIn w σ tp t τ ρ n bk has im) (hp : p < τ 1) (hD : 4 ≤ D) : wpL D 105 [.ref 0, .int (Int32.ofNat p)] (mW w σ) K ↔ K (spV (spB τ ρ p (τ (28 + p)))) (mW w (spU σ (spB τ ρ p (τ (28 + p))))) := by
  have h' := h
  obtain ⟨hw, hS, hH, ⟨P, hP, p3, p4, hτ⟩, hρ, hv, hr, h1, htp, htb, ht⟩ := h
  have hT := isTP hw hP
  have hT' := hT
  simp only [isT] at hT'
  refine cL_of (m := 3) (fun d hd Q hQ => ?_) rfl hD
  have hd1 : 1 ≤ d := by omega
  have hd2 : 2 ≤ d := by omega
  have v1 := hv.2.1
  have v2 := (hv.2.2.2.2.2.1 p hp).1
  have z := bN_on hp (by omega : τ 1 < 2147483648)
  refine b105_0 ?_
  simp only [↓br_pos, ↓br_neg, ↓rF_I, ↓rF_L, ↓rF_R, ↓rF_N, rO_m, rB_m, ↓rI_m, wI_m, ↓rB2_m, ↓rB3_m, wB2_m, wB3_m, ↓rL_m, wL_m, ↓rQ_m, wQ_m, ↓lI_m, pI_m, pL_m, pR_m, sI_m, sBy_m, sBo_m, sL_m, sQ_m, fst_m, true_and, and_true, tg_some, ln_some, uI_1, uI_2, uL_1, uL_2, uL_3, uQ_1, uQ_2, uQ_3, rv_i, rv_l, rv_n, rv_b0, rv_b1, RMR, ne_eq, reduceCtorEq, not_false_eq_true, Option.getD_some, if_true, if_false, and_self, false_and, and_false, Nat.add_left_cancel_iff, Nat.add_eq_left, Nat.left_eq_add, Nat.one_ne_zero, Nat.reduceAdd, Nat.reduceLT, Nat.reduceLeDiff, Nat.reduceEqDiff, true_implies, false_implies, implies_true, Option.some.injEq, forall_eq', forall_eq, reduceCtorEq, brT, brF, br_s, i_10, i_01, ib_0_2, ib_1_2, tn_0, tn_1, Int32.le_refl, eq_self, rv_bN, rv_iM, RCX 0, RCG 2, RCT 4, RCT 15, RCT 25, RCS 35, RCS 49, RCH 63, RCP 67, RCB 72, RCR 77, RCM 81, RLY, lit_at hw, RCT P, hT', p3, g_71 hT hτ.2.2.1 (by omega : τ 1 < 2147483648) hd1, z]
  exact b105_23 (lp_105 hw hP p3 hτ hv hρ hr hp hd2 hQ (τ (28 + p)) 0 jk jk (by omega) (Or.inl ⟨rfl, rfl, by omega⟩))
