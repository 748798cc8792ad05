/-! the class: common divisors, grades, bytes on the tape -/
theorem ol_int {a : Nat} (h : a < 9223372036854775808) : (Int64.ofNat a).toInt = a := by
  rw [Int64.toInt_ofNat']
  show Int.bmod (a : Int) 18446744073709551616 = a
  exact Int.bmod_eq_of_le (by omega) (by omega)
theorem ol_inj {a b : Nat} (ha : a < 9223372036854775808) (hb : b < 9223372036854775808) : (Int64.ofNat a = Int64.ofNat b) ↔ a = b := by
  constructor
  · intro h
    have h2 := congrArg Int64.toInt h
    rw [ol_int ha, ol_int hb] at h2
    omega
  · intro h; rw [h]
theorem ol_div {a b : Nat} (ha : a < 9223372036854775808) (hb : b < 9223372036854775808) : Int64.ofNat a / Int64.ofNat b = Int64.ofNat (a / b) := by
  have hle : a / b ≤ a := Nat.div_le_self a b
  apply Int64.toInt_inj.mp
  rw [Int64.toInt_div, ol_int ha, ol_int hb, ol_int (Nat.lt_of_le_of_lt hle ha)]
  have e : (a : Int).tdiv (b : Int) = ((a / b : Nat) : Int) := by rw [Int.tdiv_eq_ediv_of_nonneg (by omega)]; rfl
  rw [e]
  have key : ∀ q : Nat, q < 9223372036854775808 → Int.bmod (q : Int) 18446744073709551616 = (q : Int) := fun q hq => Int.bmod_eq_of_le (by omega) (by omega)
  exact key (a / b) (Nat.lt_of_le_of_lt hle ha)
theorem ol_mod {a b : Nat} (ha : a < 9223372036854775808) (hb : b < 9223372036854775808) : Int64.ofNat a - Int64.ofNat a / Int64.ofNat b * Int64.ofNat b = Int64.ofNat (a % b) := by
  rw [ol_div ha hb, ← Int64.ofNat_mul, Int64.sub_eq_iff_eq_add, ← Int64.ofNat_add, Nat.mul_comm (a / b) b, Nat.mod_add_div]
theorem of_dv {a b : Nat} (ha : a < 2147483648) (hb : b < 2147483648) : Int32.ofNat a / Int32.ofNat b = Int32.ofNat (a / b) := by
  have hle : a / b ≤ a := Nat.div_le_self a b
  apply Int32.toInt_inj.mp
  rw [Int32.toInt_div, on_int ha, on_int hb, on_int (Nat.lt_of_le_of_lt hle ha)]
  have e : (a : Int).tdiv (b : Int) = ((a / b : Nat) : Int) := by rw [Int.tdiv_eq_ediv_of_nonneg (by omega)]; rfl
  rw [e]
  have key : ∀ q : Nat, q < 2147483648 → Int.bmod (q : Int) 4294967296 = (q : Int) := fun q hq => Int.bmod_eq_of_le (by omega) (by omega)
  exact key (a / b) (Nat.lt_of_le_of_lt hle ha)
def gc1 (a b : Nat) : Nat := max 1 (Nat.gcd a b)
theorem gc1_0 {a : Nat} : gc1 a 0 = max 1 a := by unfold gc1; rw [Nat.gcd_zero_right]
theorem gc1_s {a b : Nat} : gc1 a b = gc1 b (a % b) := by
  unfold gc1
  rw [Nat.gcd_comm a b, Nat.gcd_rec b a, Nat.gcd_comm]
theorem gc1_pos {a b : Nat} : 1 ≤ gc1 a b := Nat.le_max_left _ _
theorem gc1_le {a b : Nat} (h : 0 < b) : gc1 a b ≤ b := Nat.max_le.mpr ⟨h, Nat.gcd_le_right a h⟩
theorem lm_1 {a : Nat} (h : a < 9223372036854775808) : (if Int64.ofNat a < (1 : Int64) then (1 : Int64) else Int64.ofNat a) = Int64.ofNat (max 1 a) := by
  by_cases z : a < 1
  · rw [if_pos (by rw [Int64.lt_iff_toInt_lt, ol_int h, show (1 : Int64).toInt = 1 by decide]; omega), show max 1 a = 1 by omega]; rfl
  · rw [if_neg (by rw [Int64.lt_iff_toInt_lt, ol_int h, show (1 : Int64).toInt = 1 by decide]; omega), show max 1 a = a by omega]
theorem r1_127 {hp : Hp} {d a : Nat} {i : Int32} {a5 : Int64} {Q : Option (Option Value) → Hp → Prop} (ha : a < 9223372036854775808) (hQ : Q (some (some (.long (Int64.ofNat (max 1 a))))) hp) : Wp 127 3 [.long (Int64.ofNat a), jk, .long (Int64.ofNat 0), jk, .int i, .long a5, jk] [] hp Q d := by
  refine b127_3a ?_
  rw [lm_1 ha]
  have c : (lg_cmp (Int64.ofNat 0) (0 : Int64) = 0) ↔ True := iff_true_intro ((lg_cmp_eq _ _).mpr rfl)
  by_cases z : (100 : Int32) ≤ i
  · simp only [↓br_pos, ↓br_neg, ↓rF_I, ↓rF_L, ↓rF_R, ↓rF_N, rO_m, rB_m, ↓rI_m, wI_m, ↓rB2_m, ↓rB3_m, wB2_m, wB3_m, ↓rL_m, wL_m, ↓rQ_m, wQ_m, ↓lI_m, pI_m, pL_m, pR_m, sI_m, sBy_m, sBo_m, sL_m, sQ_m, fst_m, true_and, and_true, tg_some, ln_some, uI_1, uI_2, uL_1, uL_2, uL_3, uQ_1, uQ_2, uQ_3, rv_i, rv_l, rv_n, rv_b0, rv_b1, RMR, ne_eq, reduceCtorEq, not_false_eq_true, Option.getD_some, if_true, if_false, and_self, false_and, and_false, Nat.add_left_cancel_iff, Nat.add_eq_left, Nat.left_eq_add, Nat.one_ne_zero, Nat.reduceAdd, Nat.reduceLT, Nat.reduceLeDiff, Nat.reduceEqDiff, true_implies, false_implies, implies_true, Option.some.injEq, forall_eq', forall_eq, reduceCtorEq, brT, brF, br_s, i_10, i_01, ib_0_2, ib_1_2, tn_0, tn_1, Int32.le_refl, eq_self, rv_bN, rv_iM, z]
    exact hQ
  · simp only [↓br_pos, ↓br_neg, ↓rF_I, ↓rF_L, ↓rF_R, ↓rF_N, rO_m, rB_m, ↓rI_m, wI_m, ↓rB2_m, ↓rB3_m, wB2_m, wB3_m, ↓rL_m, wL_m, ↓rQ_m, wQ_m, ↓lI_m, pI_m, pL_m, pR_m, sI_m, sBy_m, sBo_m, sL_m, sQ_m, fst_m, true_and, and_true, tg_some, ln_some, uI_1, uI_2, uL_1, uL_2, uL_3, uQ_1, uQ_2, uQ_3, rv_i, rv_l, rv_n, rv_b0, rv_b1, RMR, ne_eq, reduceCtorEq, not_false_eq_true, Option.getD_some, if_true, if_false, and_self, false_and, and_false, Nat.add_left_cancel_iff, Nat.add_eq_left, Nat.left_eq_add, Nat.one_ne_zero, Nat.reduceAdd, Nat.reduceLT, Nat.reduceLeDiff, Nat.reduceEqDiff, true_implies, false_implies, implies_true, Option.some.injEq, forall_eq', forall_eq, reduceCtorEq, brT, brF, br_s, i_10, i_01, ib_0_2, ib_1_2, tn_0, tn_1, Int32.le_refl, eq_self, rv_bN, rv_iM, z, c]
    exact hQ
theorem r2_127 {hp : Hp} {d a b i : Nat} {a5 : Int64} {Q : Option (Option Value) → Hp → Prop} (ha : a < 9223372036854775808) (hb : b < 9223372036854775808) (hb0 : b ≠ 0) (hi : i < 100) (h : Wp 127 3 [.long (Int64.ofNat b), jk, .long (Int64.ofNat (a % b)), jk, .int (Int32.ofNat (i + 1)), .long (Int64.ofNat (a % b)), jk] [] hp Q d) : Wp 127 3 [.long (Int64.ofNat a), jk, .long (Int64.ofNat b), jk, .int (Int32.ofNat i), .long a5, jk] [] hp Q d := by
  have nb : (Int64.ofNat b = 0) ↔ False := iff_false_intro (fun q => hb0 ((ol_inj (b := 0) hb (by omega)).mp q))
  have c : (lg_cmp (Int64.ofNat b) (0 : Int64) = 0) ↔ False := iff_false_intro (fun q => nb.mp ((lg_cmp_eq _ _).mp q))
  have l1 : ((100 : Int32) ≤ Int32.ofNat i) ↔ False := iff_false_intro (fun q => absurd ((on_le (i := 100) (by omega) (by omega)).mp q) (by omega))
  refine b127_3a ?_
  simp only [↓br_pos, ↓br_neg, ↓rF_I, ↓rF_L, ↓rF_R, ↓rF_N, rO_m, rB_m, ↓rI_m, wI_m, ↓rB2_m, ↓rB3_m, wB2_m, wB3_m, ↓rL_m, wL_m, ↓rQ_m, wQ_m, ↓lI_m, pI_m, pL_m, pR_m, sI_m, sBy_m, sBo_m, sL_m, sQ_m, fst_m, true_and, and_true, tg_some, ln_some, uI_1, uI_2, uL_1, uL_2, uL_3, uQ_1, uQ_2, uQ_3, rv_i, rv_l, rv_n, rv_b0, rv_b1, RMR, ne_eq, reduceCtorEq, not_false_eq_true, Option.getD_some, if_true, if_false, and_self, false_and, and_false, Nat.add_left_cancel_iff, Nat.add_eq_left, Nat.left_eq_add, Nat.one_ne_zero, Nat.reduceAdd, Nat.reduceLT, Nat.reduceLeDiff, Nat.reduceEqDiff, true_implies, false_implies, implies_true, Option.some.injEq, forall_eq', forall_eq, reduceCtorEq, brT, brF, br_s, i_10, i_01, ib_0_2, ib_1_2, tn_0, tn_1, Int32.le_refl, eq_self, rv_bN, rv_iM, l1, c, nb, ol_mod ha hb]
  refine b127_26 ?_
  rw [on_succ]
  exact h
theorem mod_half {b r : Nat} (hr : 0 < r) (h : r < b) : b % r < b / 2 + 1 ∧ 2 * (b % r) < b := by
  have h1 := Nat.mod_lt b hr
  by_cases z : 2 * r ≤ b
  · omega
  · have e : b % r = b - r := by
      rw [Nat.mod_eq_sub_mod (by omega), Nat.mod_eq_of_lt (by omega)]
    omega
theorem lp_127 {hp : Hp} {d : Nat} {Q : Option (Option Value) → Hp → Prop} : ∀ (k i a b : Nat) (a5 : Int64), i + 2 * k ≤ 100 → a < 9223372036854775808 → b < 9223372036854775808 → b < 2 ^ k → Q (some (some (.long (Int64.ofNat (gc1 a b))))) hp → Wp 127 3 [.long (Int64.ofNat a), jk, .long (Int64.ofNat b), jk, .int (Int32.ofNat i), .long a5, jk] [] hp Q d := by
  intro k
  induction k with
  | zero =>
    intro i a b a5 hi ha hb hk hQ
    have e : b = 0 := by omega
    subst e
    rw [gc1_0] at hQ
    exact r1_127 ha hQ
  | succ k ih =>
    intro i a b a5 hi ha hb hk hQ
    by_cases z : b = 0
    · subst z
      rw [gc1_0] at hQ
      exact r1_127 ha hQ
    · have hm := Nat.mod_lt a (Nat.pos_of_ne_zero z)
      rw [gc1_s] at hQ
      refine r2_127 ha hb z (by omega) ?_
      by_cases y : a % b = 0
      · rw [y] at hQ ⊢
        rw [gc1_0] at hQ
        exact r1_127 hb hQ
      · rw [gc1_s] at hQ
        have hh := mod_half (Nat.pos_of_ne_zero y) hm
        rw [Nat.pow_succ] at hk
        refine r2_127 hb (by omega) y (by omega) (ih (i + 1 + 1) _ _ _ (by omega) (by omega) (by omega) (by omega) hQ)
theorem g_127 {w : mT} {σ : mS} {a b D : Nat} {K : Int64 → Hp → Prop} (ha : a < 35184372088832) (hb : b < 35184372088832) (hD : 1 ≤ D) : wpL D 127 [.long (Int64.ofNat a), .long (Int64.ofNat b)] (mW w σ) K ↔ K (Int64.ofNat (gc1 a b)) (mW w σ) := by
  refine cL_of (m := 0) (fun d hd Q hQ => ?_) rfl hD
  refine b127_0 ?_
  have l1 : ((100 : Int32) ≤ 0) ↔ False := by decide
  by_cases z : b = 0
  · subst z
    rw [gc1_0] at hQ
    have c : (lg_cmp (Int64.ofNat 0) (0 : Int64) = 0) ↔ True := iff_true_intro ((lg_cmp_eq _ _).mpr rfl)
    refine b127_3 ?_
    rw [lm_1 (by omega)]
    simp only [↓br_pos, ↓br_neg, ↓rF_I, ↓rF_L, ↓rF_R, ↓rF_N, rO_m, rB_m, ↓rI_m, wI_m, ↓rB2_m, ↓rB3_m, wB2_m, wB3_m, ↓rL_m, wL_m, ↓rQ_m, wQ_m, ↓lI_m, pI_m, pL_m, pR_m, sI_m, sBy_m, sBo_m, sL_m, sQ_m, fst_m, true_and, and_true, tg_some, ln_some, uI_1, uI_2, uL_1, uL_2, uL_3, uQ_1, uQ_2, uQ_3, rv_i, rv_l, rv_n, rv_b0, rv_b1, RMR, ne_eq, reduceCtorEq, not_false_eq_true, Option.getD_some, if_true, if_false, and_self, false_and, and_false, Nat.add_left_cancel_iff, Nat.add_eq_left, Nat.left_eq_add, Nat.one_ne_zero, Nat.reduceAdd, Nat.reduceLT, Nat.reduceLeDiff, Nat.reduceEqDiff, true_implies, false_implies, implies_true, Option.some.injEq, forall_eq', forall_eq, reduceCtorEq, brT, brF, br_s, i_10, i_01, ib_0_2, ib_1_2, tn_0, tn_1, Int32.le_refl, eq_self, rv_bN, rv_iM, l1, c]
    exact hQ
  · have nb : (Int64.ofNat b = 0) ↔ False := iff_false_intro (fun q => z ((ol_inj (b := 0) (by omega) (by omega)).mp q))
    have c : (lg_cmp (Int64.ofNat b) (0 : Int64) = 0) ↔ False := iff_false_intro (fun q => nb.mp ((lg_cmp_eq _ _).mp q))
    have hm := Nat.mod_lt a (Nat.pos_of_ne_zero z)
    rw [gc1_s] at hQ
    refine b127_3 ?_
    simp only [↓br_pos, ↓br_neg, ↓rF_I, ↓rF_L, ↓rF_R, ↓rF_N, rO_m, rB_m, ↓rI_m, wI_m, ↓rB2_m, ↓rB3_m, wB2_m, wB3_m, ↓rL_m, wL_m, ↓rQ_m, wQ_m, ↓lI_m, pI_m, pL_m, pR_m, sI_m, sBy_m, sBo_m, sL_m, sQ_m, fst_m, true_and, and_true, tg_some, ln_some, uI_1, uI_2, uL_1, uL_2, uL_3, uQ_1, uQ_2, uQ_3, rv_i, rv_l, rv_n, rv_b0, rv_b1, RMR, ne_eq, reduceCtorEq, not_false_eq_true, Option.getD_some, if_true, if_false, and_self, false_and, and_false, Nat.add_left_cancel_iff, Nat.add_eq_left, Nat.left_eq_add, Nat.one_ne_zero, Nat.reduceAdd, Nat.reduceLT, Nat.reduceLeDiff, Nat.reduceEqDiff, true_implies, false_implies, implies_true, Option.some.injEq, forall_eq', forall_eq, reduceCtorEq, brT, brF, br_s, i_10, i_01, ib_0_2, ib_1_2, tn_0, tn_1, Int32.le_refl, eq_self, rv_bN, rv_iM, l1, c, nb, ol_mod (show a < 9223372036854775808 by omega) (show b < 9223372036854775808 by omega)]
    refine b127_26 ?_
    exact lp_127 45 1 b (a % b) _ (by omega) (by omega) (by omega) (by omega) hQ
/-- a grade is told -/
theorem i64_of {a : Nat} (h : a < 2147483648) : Int32.toInt64 (Int32.ofNat a) = Int64.ofNat a := by
  apply Int64.toInt_inj.mp
  rw [Int32.toInt_toInt64, on_int h, ol_int (by omega)]
theorem g_126z {w : mT} {σ : mS} {O : Int32} {D : Nat} {K : Int32 → Hp → Prop} (hD : 2 ≤ D) : wpI D 126 [.ref 0, .int (Int32.ofNat 0), .int O] (mW w σ) K ↔ K (-2) (mW w σ) := by
  refine cI_of (m := 1) (fun d hd Q hQ => ?_) rfl hD
  refine b126_0 ?_
  have c : (Int32.ofNat 0 = 0) ↔ True := by decide
  simp only [↓br_pos, ↓br_neg, ↓rF_I, ↓rF_L, ↓rF_R, ↓rF_N, rO_m, rB_m, ↓rI_m, wI_m, ↓rB2_m, ↓rB3_m, wB2_m, wB3_m, ↓rL_m, wL_m, ↓rQ_m, wQ_m, ↓lI_m, pI_m, pL_m, pR_m, sI_m, sBy_m, sBo_m, sL_m, sQ_m, fst_m, true_and, and_true, tg_some, ln_some, uI_1, uI_2, uL_1, uL_2, uL_3, uQ_1, uQ_2, uQ_3, rv_i, rv_l, rv_n, rv_b0, rv_b1, RMR, ne_eq, reduceCtorEq, not_false_eq_true, Option.getD_some, if_true, if_false, and_self, false_and, and_false, Nat.add_left_cancel_iff, Nat.add_eq_left, Nat.left_eq_add, Nat.one_ne_zero, Nat.reduceAdd, Nat.reduceLT, Nat.reduceLeDiff, Nat.reduceEqDiff, true_implies, false_implies, implies_true, Option.some.injEq, forall_eq', forall_eq, reduceCtorEq, brT, brF, br_s, i_10, i_01, ib_0_2, ib_1_2, tn_0, tn_1, Int32.le_refl, eq_self, rv_bN, rv_iM, c]
  exact hQ
theorem g_126 {w : mT} {σ : mS} {T O D : Nat} {K : Int32 → Hp → Prop} (hw : lit w) (hT : T ≠ 0) (hT2 : T < 2147483648) (hO : O < 2147483648) (hD : 2 ≤ D) : wpI D 126 [.ref 0, .int (Int32.ofNat T), .int (Int32.ofNat O)] (mW w σ) K ↔ K (Int32.ofNat (O / gc1 O T)) (mW w (uI σ 0 11 (Int32.ofNat (T / gc1 O T)))) := by
  refine cI_of (m := 1) (fun d hd Q hQ => ?_) rfl hD
  refine b126_0 ?_
  have c : (Int32.ofNat T = 0) ↔ False := iff_false_intro (fun q => hT ((of_eq0 hT2).mp q))
  have g1 := gc1_pos (a := O) (b := T)
  have g2 := gc1_le (a := O) (b := T) (by omega)
  have cg : (Int32.ofNat (gc1 O T) = 0) ↔ False := iff_false_intro (fun q => absurd ((of_eq0 (by omega)).mp q) (by omega))
  simp only [↓br_pos, ↓br_neg, ↓rF_I, ↓rF_L, ↓rF_R, ↓rF_N, rO_m, rB_m, ↓rI_m, wI_m, ↓rB2_m, ↓rB3_m, wB2_m, wB3_m, ↓rL_m, wL_m, ↓rQ_m, wQ_m, ↓lI_m, pI_m, pL_m, pR_m, sI_m, sBy_m, sBo_m, sL_m, sQ_m, fst_m, true_and, and_true, tg_some, ln_some, uI_1, uI_2, uL_1, uL_2, uL_3, uQ_1, uQ_2, uQ_3, rv_i, rv_l, rv_n, rv_b0, rv_b1, RMR, ne_eq, reduceCtorEq, not_false_eq_true, Option.getD_some, if_true, if_false, and_self, false_and, and_false, Nat.add_left_cancel_iff, Nat.add_eq_left, Nat.left_eq_add, Nat.one_ne_zero, Nat.reduceAdd, Nat.reduceLT, Nat.reduceLeDiff, Nat.reduceEqDiff, true_implies, false_implies, implies_true, Option.some.injEq, forall_eq', forall_eq, reduceCtorEq, brT, brF, br_s, i_10, i_01, ib_0_2, ib_1_2, tn_0, tn_1, Int32.le_refl, eq_self, rv_bN, rv_iM, RCX 0, RCG 2, RCT 4, RCT 15, RCT 25, RCS 35, RCS 49, RCH 63, RCP 67, RCB 72, RCR 77, RCM 81, RLY, lit_at hw, c, i64_of hT2, i64_of hO, g_127 (w := w) (σ := σ) (show O < 35184372088832 by omega) (show T < 35184372088832 by omega) hd, Int64.toInt32_ofNat', cg, of_dv hT2 (show gc1 O T < 2147483648 by omega), of_dv hO (show gc1 O T < 2147483648 by omega)]
  exact hQ
/-- bytes -/
theorem and255 (x : Int32) : ∃ k : Nat, x &&& 255 = Int32.ofNat k ∧ k < 256 := by
  have h1 : (x &&& 255).toBitVec.toNat ≤ 255 := by
    rw [Int32.toBitVec_and, BitVec.toNat_and]
    exact Nat.and_le_right
  refine ⟨(x &&& 255).toBitVec.toNat, ?_, by omega⟩
  apply Int32.toInt_inj.mp
  rw [on_int (by omega)]
  show (x &&& 255).toBitVec.toInt = _
  rw [BitVec.toInt_eq_toNat_of_lt (by omega)]
def byN (x : Int32) : Nat := (x &&& 255).toNatClampNeg
theorem byN_e {x : Int32} : x &&& 255 = Int32.ofNat (byN x) := by
  obtain ⟨k, e, hk⟩ := and255 x
  unfold byN
  rw [e, on_nat (by omega)]
theorem byN_lt {x : Int32} : byN x < 256 := by
  obtain ⟨k, e, hk⟩ := and255 x
  unfold byN
  rw [e, on_nat (by omega)]; exact hk
/-- what a number leaves on the tape -/
def tPut (t : Nat → Nat) (tp : Nat) (v : Int32) : Nat → Nat := fun i => if i = tp + 3 then byN (v >>> 0) else if i = tp + 2 then byN (v >>> 8) else if i = tp + 1 then byN (v >>> 16) else if i = tp then byN (v >>> 24) else t i
theorem tPut_lt {t : Nat → Nat} {tp : Nat} {v : Int32} (h : ∀ i, t i < 256) : ∀ i, tPut t tp v i < 256 := fun i => by
  unfold tPut
  split
  · exact byN_lt
  split
  · exact byN_lt
  split
  · exact byN_lt
  split
  · exact byN_lt
  exact h i
theorem g_117 {w : mT} {σ : mS} {t : Nat → Nat} {tp : Nat} {v : Int32} (hw : lit w) (h1 : σ.1 0 1 = Int32.ofNat tp) (htp : tp + 4 ≤ 600) (ht : ∀ i, i < 600 → σ.1 1 i = Int32.ofNat (t i)) : ∃ σ', ((∀ a, 2 ≤ a → σ'.1 a = σ.1 a) ∧ σ'.2 = σ.2 ∧ ∀ j, j ≠ 1 → σ'.1 0 j = σ.1 0 j) ∧ σ'.1 0 1 = Int32.ofNat (tp + 4) ∧ (∀ i, i < 600 → σ'.1 1 i = Int32.ofNat (tPut t tp v i)) ∧ ∀ {D : Nat} {K : Hp → Prop}, 1 ≤ D → (wpV D 117 [.ref 0, .int v] (mW w σ) K ↔ K (mW w σ')) := by
  refine ⟨uI (uI (uI (uI (uI (uI (uI (uI σ 1 tp (Int32.ofNat (byN (v >>> 24)))) 0 1 (Int32.ofNat (tp + 1))) 1 (tp + 1) (Int32.ofNat (byN (v >>> 16)))) 0 1 (Int32.ofNat (tp + 1 + 1))) 1 (tp + 1 + 1) (Int32.ofNat (byN (v >>> 8)))) 0 1 (Int32.ofNat (tp + 1 + 1 + 1))) 1 (tp + 1 + 1 + 1) (Int32.ofNat (byN (v >>> 0)))) 0 1 (Int32.ofNat (tp + 1 + 1 + 1 + 1)), ⟨fun a ha => funext fun j => ?_, rfl, fun j hj => ?_⟩, ?_, fun i hi => ?_, fun hD => cV_of (m := 0) (fun d hd Q hQ => ?_) rfl hD⟩
  · rw [uI_1, if_neg (by omega), uI_1, if_neg (by omega), uI_1, if_neg (by omega), uI_1, if_neg (by omega), uI_1, if_neg (by omega), uI_1, if_neg (by omega), uI_1, if_neg (by omega), uI_1, if_neg (by omega)]
  · rw [uI_1, if_neg (by omega), uI_1, if_neg (by omega), uI_1, if_neg (by omega), uI_1, if_neg (by omega), uI_1, if_neg (by omega), uI_1, if_neg (by omega), uI_1, if_neg (by omega), uI_1, if_neg (by omega)]
  · rw [uI_1, if_pos ⟨rfl, rfl⟩]
  · unfold tPut
    rw [uI_1, if_neg (by omega), uI_1]
    by_cases e3 : i = tp + 3
    · rw [if_pos ⟨rfl, e3⟩, if_pos e3]
    rw [if_neg (fun q => e3 q.2), if_neg e3, uI_1, if_neg (by omega), uI_1]
    by_cases e2 : i = tp + 2
    · rw [if_pos ⟨rfl, e2⟩, if_pos e2]
    rw [if_neg (fun q => e2 q.2), if_neg e2, uI_1, if_neg (by omega), uI_1]
    by_cases e1 : i = tp + 1
    · rw [if_pos ⟨rfl, e1⟩, if_pos e1]
    rw [if_neg (fun q => e1 q.2), if_neg e1, uI_1, if_neg (by omega), uI_1]
    by_cases e0 : i = tp
    · rw [if_pos ⟨rfl, e0⟩, if_pos e0]
    rw [if_neg (fun q => e0 q.2), if_neg e0]
    exact ht i hi
  · have s24 : ((24 : Int32) &&& 31) = 24 := by decide
    have s16 : ((16 : Int32) &&& 31) = 16 := by decide
    have s8 : ((8 : Int32) &&& 31) = 8 := by decide
    have s0 : ((0 : Int32) &&& 31) = 0 := by decide
    have p24 : (24 : Int32) + -8 = 16 := by decide
    have p16 : (16 : Int32) + -8 = 8 := by decide
    have p8 : (8 : Int32) + -8 = 0 := by decide
    have p0 : (0 : Int32) + -8 = -8 := by decide
    have n24 : ((24 : Int32) < 0) ↔ False := by decide
    have n16 : ((16 : Int32) < 0) ↔ False := by decide
    have n8 : ((8 : Int32) < 0) ↔ False := by decide
    have n0 : ((0 : Int32) < 0) ↔ False := by decide
    have nm : ((-8 : Int32) < 0) ↔ True := by decide
    have l6 : ∀ x : Nat, x < 600 → (((600 : Int32) ≤ Int32.ofNat x) ↔ False) := fun x hx => iff_false_intro (fun q => absurd ((on_le (i := 600) (by omega) (by omega)).mp q) (by omega))
    have eb : ∀ x : Nat, x < 600 → inB (Int32.ofNat x) 600 = true := fun x hx => on_inB hx (by omega)
    have en : ∀ x : Nat, x < 600 → (Int32.ofNat x).toNatClampNeg = x := fun x hx => on_nat (by omega)
    refine b117_0 ?_
    refine b117_3 ?_
    simp only [↓br_pos, ↓br_neg, ↓rF_I, ↓rF_L, ↓rF_R, ↓rF_N, rO_m, rB_m, ↓rI_m, wI_m, ↓rB2_m, ↓rB3_m, wB2_m, wB3_m, ↓rL_m, wL_m, ↓rQ_m, wQ_m, ↓lI_m, pI_m, pL_m, pR_m, sI_m, sBy_m, sBo_m, sL_m, sQ_m, fst_m, true_and, and_true, tg_some, ln_some, uI_1, uI_2, uL_1, uL_2, uL_3, uQ_1, uQ_2, uQ_3, rv_i, rv_l, rv_n, rv_b0, rv_b1, RMR, ne_eq, reduceCtorEq, not_false_eq_true, Option.getD_some, if_true, if_false, and_self, false_and, and_false, Nat.add_left_cancel_iff, Nat.add_eq_left, Nat.left_eq_add, Nat.one_ne_zero, Nat.reduceAdd, Nat.reduceLT, Nat.reduceLeDiff, Nat.reduceEqDiff, true_implies, false_implies, implies_true, Option.some.injEq, forall_eq', forall_eq, reduceCtorEq, brT, brF, br_s, i_10, i_01, ib_0_2, ib_1_2, tn_0, tn_1, Int32.le_refl, eq_self, rv_bN, rv_iM, RCX 0, RCG 2, RCT 4, RCT 15, RCT 25, RCS 35, RCS 49, RCH 63, RCP 67, RCB 72, RCR 77, RCM 81, RLY, lit_at hw, n24, h1, l6 tp (by omega), eb tp (by omega), en tp (by omega), s24, byN_e, p24, on_succ]
    refine b117_3 ?_
    simp only [↓br_pos, ↓br_neg, ↓rF_I, ↓rF_L, ↓rF_R, ↓rF_N, rO_m, rB_m, ↓rI_m, wI_m, ↓rB2_m, ↓rB3_m, wB2_m, wB3_m, ↓rL_m, wL_m, ↓rQ_m, wQ_m, ↓lI_m, pI_m, pL_m, pR_m, sI_m, sBy_m, sBo_m, sL_m, sQ_m, fst_m, true_and, and_true, tg_some, ln_some, uI_1, uI_2, uL_1, uL_2, uL_3, uQ_1, uQ_2, uQ_3, rv_i, rv_l, rv_n, rv_b0, rv_b1, RMR, ne_eq, reduceCtorEq, not_false_eq_true, Option.getD_some, if_true, if_false, and_self, false_and, and_false, Nat.add_left_cancel_iff, Nat.add_eq_left, Nat.left_eq_add, Nat.one_ne_zero, Nat.reduceAdd, Nat.reduceLT, Nat.reduceLeDiff, Nat.reduceEqDiff, true_implies, false_implies, implies_true, Option.some.injEq, forall_eq', forall_eq, reduceCtorEq, brT, brF, br_s, i_10, i_01, ib_0_2, ib_1_2, tn_0, tn_1, Int32.le_refl, eq_self, rv_bN, rv_iM, RCX 0, RCG 2, RCT 4, RCT 15, RCT 25, RCS 35, RCS 49, RCH 63, RCP 67, RCB 72, RCR 77, RCM 81, RLY, lit_at hw, n16, l6 (tp + 1) (by omega), eb (tp + 1) (by omega), en (tp + 1) (by omega), s16, byN_e, p16, on_succ]
    refine b117_3 ?_
    simp only [↓br_pos, ↓br_neg, ↓rF_I, ↓rF_L, ↓rF_R, ↓rF_N, rO_m, rB_m, ↓rI_m, wI_m, ↓rB2_m, ↓rB3_m, wB2_m, wB3_m, ↓rL_m, wL_m, ↓rQ_m, wQ_m, ↓lI_m, pI_m, pL_m, pR_m, sI_m, sBy_m, sBo_m, sL_m, sQ_m, fst_m, true_and, and_true, tg_some, ln_some, uI_1, uI_2, uL_1, uL_2, uL_3, uQ_1, uQ_2, uQ_3, rv_i, rv_l, rv_n, rv_b0, rv_b1, RMR, ne_eq, reduceCtorEq, not_false_eq_true, Option.getD_some, if_true, if_false, and_self, false_and, and_false, Nat.add_left_cancel_iff, Nat.add_eq_left, Nat.left_eq_add, Nat.one_ne_zero, Nat.reduceAdd, Nat.reduceLT, Nat.reduceLeDiff, Nat.reduceEqDiff, true_implies, false_implies, implies_true, Option.some.injEq, forall_eq', forall_eq, reduceCtorEq, brT, brF, br_s, i_10, i_01, ib_0_2, ib_1_2, tn_0, tn_1, Int32.le_refl, eq_self, rv_bN, rv_iM, RCX 0, RCG 2, RCT 4, RCT 15, RCT 25, RCS 35, RCS 49, RCH 63, RCP 67, RCB 72, RCR 77, RCM 81, RLY, lit_at hw, n8, l6 (tp + 1 + 1) (by omega), eb (tp + 1 + 1) (by omega), en (tp + 1 + 1) (by omega), s8, byN_e, p8, on_succ]
    refine b117_3 ?_
    simp only [↓br_pos, ↓br_neg, ↓rF_I, ↓rF_L, ↓rF_R, ↓rF_N, rO_m, rB_m, ↓rI_m, wI_m, ↓rB2_m, ↓rB3_m, wB2_m, wB3_m, ↓rL_m, wL_m, ↓rQ_m, wQ_m, ↓lI_m, pI_m, pL_m, pR_m, sI_m, sBy_m, sBo_m, sL_m, sQ_m, fst_m, true_and, and_true, tg_some, ln_some, uI_1, uI_2, uL_1, uL_2, uL_3, uQ_1, uQ_2, uQ_3, rv_i, rv_l, rv_n, rv_b0, rv_b1, RMR, ne_eq, reduceCtorEq, not_false_eq_true, Option.getD_some, if_true, if_false, and_self, false_and, and_false, Nat.add_left_cancel_iff, Nat.add_eq_left, Nat.left_eq_add, Nat.one_ne_zero, Nat.reduceAdd, Nat.reduceLT, Nat.reduceLeDiff, Nat.reduceEqDiff, true_implies, false_implies, implies_true, Option.some.injEq, forall_eq', forall_eq, reduceCtorEq, brT, brF, br_s, i_10, i_01, ib_0_2, ib_1_2, tn_0, tn_1, Int32.le_refl, eq_self, rv_bN, rv_iM, RCX 0, RCG 2, RCT 4, RCT 15, RCT 25, RCS 35, RCS 49, RCH 63, RCP 67, RCB 72, RCR 77, RCM 81, RLY, lit_at hw, n0, l6 (tp + 1 + 1 + 1) (by omega), eb (tp + 1 + 1 + 1) (by omega), en (tp + 1 + 1 + 1) (by omega), s0, byN_e, p0, on_succ]
    refine b117_3 ?_
    simp only [↓br_pos, ↓br_neg, ↓rF_I, ↓rF_L, ↓rF_R, ↓rF_N, rO_m, rB_m, ↓rI_m, wI_m, ↓rB2_m, ↓rB3_m, wB2_m, wB3_m, ↓rL_m, wL_m, ↓rQ_m, wQ_m, ↓lI_m, pI_m, pL_m, pR_m, sI_m, sBy_m, sBo_m, sL_m, sQ_m, fst_m, true_and, and_true, tg_some, ln_some, uI_1, uI_2, uL_1, uL_2, uL_3, uQ_1, uQ_2, uQ_3, rv_i, rv_l, rv_n, rv_b0, rv_b1, RMR, ne_eq, reduceCtorEq, not_false_eq_true, Option.getD_some, if_true, if_false, and_self, false_and, and_false, Nat.add_left_cancel_iff, Nat.add_eq_left, Nat.left_eq_add, Nat.one_ne_zero, Nat.reduceAdd, Nat.reduceLT, Nat.reduceLeDiff, Nat.reduceEqDiff, true_implies, false_implies, implies_true, Option.some.injEq, forall_eq', forall_eq, reduceCtorEq, brT, brF, br_s, i_10, i_01, ib_0_2, ib_1_2, tn_0, tn_1, Int32.le_refl, eq_self, rv_bN, rv_iM, nm]
    exact hQ
