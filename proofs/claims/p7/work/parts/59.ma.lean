/-! the model: what its rows say -/
theorem mt {σ : mS} {τ : Rw} (h : mTold σ τ) {j : Nat} (hj : j < 79) : inB (Int32.ofNat j) 102 = true ∧ (Int32.ofNat j).toNatClampNeg = j ∧ σ.1 83 j = Int32.ofNat (τ j) := ⟨on_inB (by omega) (by omega), on_nat (by omega), h j hj⟩
theorem mr {σ : mS} {ρ : Rw} (h : mRow σ 85 0 ρ) {j : Nat} (hj : j < 2471) : inB (Int32.ofNat j) 2471 = true ∧ (Int32.ofNat j).toNatClampNeg = j ∧ σ.1 85 j = Int32.ofNat (ρ j) := ⟨on_inB (by omega) (by omega), on_nat (by omega), by have := h j hj; rwa [Nat.zero_add] at this⟩
theorem mt_0 {σ : mS} {τ : Rw} (h : mTold σ τ) : inB (0 : Int32) 102 = true ∧ (0 : Int32).toNatClampNeg = 0 ∧ σ.1 83 0 = Int32.ofNat (τ 0) := mt h (j := 0) (by omega)
theorem mt_1 {σ : mS} {τ : Rw} (h : mTold σ τ) : inB (1 : Int32) 102 = true ∧ (1 : Int32).toNatClampNeg = 1 ∧ σ.1 83 1 = Int32.ofNat (τ 1) := mt h (j := 1) (by omega)
theorem mt_2 {σ : mS} {τ : Rw} (h : mTold σ τ) : inB (2 : Int32) 102 = true ∧ (2 : Int32).toNatClampNeg = 2 ∧ σ.1 83 2 = Int32.ofNat (τ 2) := mt h (j := 2) (by omega)
theorem mt_3 {σ : mS} {τ : Rw} (h : mTold σ τ) : inB (3 : Int32) 102 = true ∧ (3 : Int32).toNatClampNeg = 3 ∧ σ.1 83 3 = Int32.ofNat (τ 3) := mt h (j := 3) (by omega)
theorem mr_0l {σ : mS} {ρ : Rw} (h : mRow σ 85 0 ρ) : inB (0 : Int32) 2471 = true ∧ (0 : Int32).toNatClampNeg = 0 ∧ σ.1 85 0 = Int32.ofNat (ρ 0) := mr h (j := 0) (by omega)
theorem mr_1l {σ : mS} {ρ : Rw} (h : mRow σ 85 0 ρ) : inB (1 : Int32) 2471 = true ∧ (1 : Int32).toNatClampNeg = 1 ∧ σ.1 85 1 = Int32.ofNat (ρ 1) := mr h (j := 1) (by omega)
theorem mr_2l {σ : mS} {ρ : Rw} (h : mRow σ 85 0 ρ) : inB (2 : Int32) 2471 = true ∧ (2 : Int32).toNatClampNeg = 2 ∧ σ.1 85 2 = Int32.ofNat (ρ 2) := mr h (j := 2) (by omega)
theorem mr_3l {σ : mS} {ρ : Rw} (h : mRow σ 85 0 ρ) : inB (3 : Int32) 2471 = true ∧ (3 : Int32).toNatClampNeg = 3 ∧ σ.1 85 3 = Int32.ofNat (ρ 3) := mr h (j := 3) (by omega)
theorem mr_4l {σ : mS} {ρ : Rw} (h : mRow σ 85 0 ρ) : inB (4 : Int32) 2471 = true ∧ (4 : Int32).toNatClampNeg = 4 ∧ σ.1 85 4 = Int32.ofNat (ρ 4) := mr h (j := 4) (by omega)
theorem mr_5l {σ : mS} {ρ : Rw} (h : mRow σ 85 0 ρ) : inB (5 : Int32) 2471 = true ∧ (5 : Int32).toNatClampNeg = 5 ∧ σ.1 85 5 = Int32.ofNat (ρ 5) := mr h (j := 5) (by omega)
theorem mr_6l {σ : mS} {ρ : Rw} (h : mRow σ 85 0 ρ) : inB (6 : Int32) 2471 = true ∧ (6 : Int32).toNatClampNeg = 6 ∧ σ.1 85 6 = Int32.ofNat (ρ 6) := mr h (j := 6) (by omega)
theorem mr_7l {σ : mS} {ρ : Rw} (h : mRow σ 85 0 ρ) : inB (7 : Int32) 2471 = true ∧ (7 : Int32).toNatClampNeg = 7 ∧ σ.1 85 7 = Int32.ofNat (ρ 7) := mr h (j := 7) (by omega)
theorem mr_8l {σ : mS} {ρ : Rw} (h : mRow σ 85 0 ρ) : inB (8 : Int32) 2471 = true ∧ (8 : Int32).toNatClampNeg = 8 ∧ σ.1 85 8 = Int32.ofNat (ρ 8) := mr h (j := 8) (by omega)
theorem mr_9l {σ : mS} {ρ : Rw} (h : mRow σ 85 0 ρ) : inB (9 : Int32) 2471 = true ∧ (9 : Int32).toNatClampNeg = 9 ∧ σ.1 85 9 = Int32.ofNat (ρ 9) := mr h (j := 9) (by omega)
theorem mr_10l {σ : mS} {ρ : Rw} (h : mRow σ 85 0 ρ) : inB (10 : Int32) 2471 = true ∧ (10 : Int32).toNatClampNeg = 10 ∧ σ.1 85 10 = Int32.ofNat (ρ 10) := mr h (j := 10) (by omega)
theorem mr_11l {σ : mS} {ρ : Rw} (h : mRow σ 85 0 ρ) : inB (11 : Int32) 2471 = true ∧ (11 : Int32).toNatClampNeg = 11 ∧ σ.1 85 11 = Int32.ofNat (ρ 11) := mr h (j := 11) (by omega)
theorem mr_51l {σ : mS} {ρ : Rw} (h : mRow σ 85 0 ρ) : inB (51 : Int32) 2471 = true ∧ (51 : Int32).toNatClampNeg = 51 ∧ σ.1 85 51 = Int32.ofNat (ρ 51) := mr h (j := 51) (by omega)
theorem mr_52l {σ : mS} {ρ : Rw} (h : mRow σ 85 0 ρ) : inB (52 : Int32) 2471 = true ∧ (52 : Int32).toNatClampNeg = 52 ∧ σ.1 85 52 = Int32.ofNat (ρ 52) := mr h (j := 52) (by omega)
theorem mr_54l {σ : mS} {ρ : Rw} (h : mRow σ 85 0 ρ) : inB (54 : Int32) 2471 = true ∧ (54 : Int32).toNatClampNeg = 54 ∧ σ.1 85 54 = Int32.ofNat (ρ 54) := mr h (j := 54) (by omega)
theorem mr_55l {σ : mS} {ρ : Rw} (h : mRow σ 85 0 ρ) : inB (55 : Int32) 2471 = true ∧ (55 : Int32).toNatClampNeg = 55 ∧ σ.1 85 55 = Int32.ofNat (ρ 55) := mr h (j := 55) (by omega)
theorem mr_56l {σ : mS} {ρ : Rw} (h : mRow σ 85 0 ρ) : inB (56 : Int32) 2471 = true ∧ (56 : Int32).toNatClampNeg = 56 ∧ σ.1 85 56 = Int32.ofNat (ρ 56) := mr h (j := 56) (by omega)
theorem mr_57l {σ : mS} {ρ : Rw} (h : mRow σ 85 0 ρ) : inB (57 : Int32) 2471 = true ∧ (57 : Int32).toNatClampNeg = 57 ∧ σ.1 85 57 = Int32.ofNat (ρ 57) := mr h (j := 57) (by omega)
theorem mr_107l {σ : mS} {ρ : Rw} (h : mRow σ 85 0 ρ) : inB (107 : Int32) 2471 = true ∧ (107 : Int32).toNatClampNeg = 107 ∧ σ.1 85 107 = Int32.ofNat (ρ 107) := mr h (j := 107) (by omega)
theorem mr_108l {σ : mS} {ρ : Rw} (h : mRow σ 85 0 ρ) : inB (108 : Int32) 2471 = true ∧ (108 : Int32).toNatClampNeg = 108 ∧ σ.1 85 108 = Int32.ofNat (ρ 108) := mr h (j := 108) (by omega)
theorem mr_109l {σ : mS} {ρ : Rw} (h : mRow σ 85 0 ρ) : inB (109 : Int32) 2471 = true ∧ (109 : Int32).toNatClampNeg = 109 ∧ σ.1 85 109 = Int32.ofNat (ρ 109) := mr h (j := 109) (by omega)
theorem ad_2 {p : Nat} : (2 : Int32) + Int32.ofNat p = Int32.ofNat (2 + p) := of_add (a := 2)
theorem ad_4 {p : Nat} : (4 : Int32) + Int32.ofNat p = Int32.ofNat (4 + p) := of_add (a := 4)
theorem ad_6 {p : Nat} : (6 : Int32) + Int32.ofNat p = Int32.ofNat (6 + p) := of_add (a := 6)
theorem ad_8 {p : Nat} : (8 : Int32) + Int32.ofNat p = Int32.ofNat (8 + p) := of_add (a := 8)
theorem ad_10 {p : Nat} : (10 : Int32) + Int32.ofNat p = Int32.ofNat (10 + p) := of_add (a := 10)
theorem ad_12 {p : Nat} : (12 : Int32) + Int32.ofNat p = Int32.ofNat (12 + p) := of_add (a := 12)
theorem ad_16 {p : Nat} : (16 : Int32) + Int32.ofNat p = Int32.ofNat (16 + p) := of_add (a := 16)
theorem ad_24 {p : Nat} : (24 : Int32) + Int32.ofNat p = Int32.ofNat (24 + p) := of_add (a := 24)
theorem ad_27 {p : Nat} : (27 : Int32) + Int32.ofNat p = Int32.ofNat (27 + p) := of_add (a := 27)
theorem ad_28 {p : Nat} : (28 : Int32) + Int32.ofNat p = Int32.ofNat (28 + p) := of_add (a := 28)
theorem ad_31 {p : Nat} : (31 : Int32) + Int32.ofNat p = Int32.ofNat (31 + p) := of_add (a := 31)
theorem ad_35 {p : Nat} : (35 : Int32) + Int32.ofNat p = Int32.ofNat (35 + p) := of_add (a := 35)
theorem ad_43 {p : Nat} : (43 : Int32) + Int32.ofNat p = Int32.ofNat (43 + p) := of_add (a := 43)
theorem ad_51 {p : Nat} : (51 : Int32) + Int32.ofNat p = Int32.ofNat (51 + p) := of_add (a := 51)
theorem ad_107 {p : Nat} : (107 : Int32) + Int32.ofNat p = Int32.ofNat (107 + p) := of_add (a := 107)
theorem ad_131 {p : Nat} : (131 : Int32) + Int32.ofNat p = Int32.ofNat (131 + p) := of_add (a := 131)
theorem ad_311 {p : Nat} : (311 : Int32) + Int32.ofNat p = Int32.ofNat (311 + p) := of_add (a := 311)
theorem ml_3 {p : Nat} : (3 : Int32) * Int32.ofNat p = Int32.ofNat (3 * p) := of_mul (a := 3)
theorem ml_6 {p : Nat} : (6 : Int32) * Int32.ofNat p = Int32.ofNat (6 * p) := of_mul (a := 6)
theorem ml_7 {p : Nat} : (7 : Int32) * Int32.ofNat p = Int32.ofNat (7 * p) := of_mul (a := 7)
theorem ml_60 {p : Nat} : (60 : Int32) * Int32.ofNat p = Int32.ofNat (60 * p) := of_mul (a := 60)
theorem ml_100 {p : Nat} : (100 : Int32) * Int32.ofNat p = Int32.ofNat (100 * p) := of_mul (a := 100)
theorem ar_2 {p : Nat} : Int32.ofNat p + (2 : Int32) = Int32.ofNat (p + 2) := of_add (b := 2)
theorem ar_3 {p : Nat} : Int32.ofNat p + (3 : Int32) = Int32.ofNat (p + 3) := of_add (b := 3)
theorem ar_4 {p : Nat} : Int32.ofNat p + (4 : Int32) = Int32.ofNat (p + 4) := of_add (b := 4)
theorem ar_5 {p : Nat} : Int32.ofNat p + (5 : Int32) = Int32.ofNat (p + 5) := of_add (b := 5)
theorem ar_6 {p : Nat} : Int32.ofNat p + (6 : Int32) = Int32.ofNat (p + 6) := of_add (b := 6)
theorem ml_2471 {p : Nat} : (2471 : Int32) * Int32.ofNat p = Int32.ofNat (2471 * p) := of_mul (a := 2471)
theorem ix {j n : Nat} (h : j < n) (hn : n < 2147483648) : inB (Int32.ofNat j) n = true ∧ (Int32.ofNat j).toNatClampNeg = j := ⟨on_inB h hn, on_nat (by omega)⟩
theorem mq_12 {p : Nat} : Int32.ofNat p * (12 : Int32) = Int32.ofNat (p * 12) := of_mul (b := 12)
theorem mT_c {σ σ' : mS} {τ : Rw} (h : mTold σ τ) (e : σ'.1 83 = σ.1 83) : mTold σ' τ := fun j hj => by rw [e]; exact h j hj
theorem mR_c {σ σ' : mS} {ρ : Rw} {a o : Nat} (h : mRow σ a o ρ) (e : σ'.1 a = σ.1 a) : mRow σ' a o ρ := fun j hj => by rw [e]; exact h j hj
theorem mR_w {σ : mS} {ρ : Rw} {j x : Nat} (h : mRow σ 85 0 ρ) : mRow (uI σ 85 j (Int32.ofNat x)) 85 0 (rSet ρ j x) := fun i hi => by
  rw [Nat.zero_add, uI_1, rSet_1]
  by_cases e : i = j
  · rw [if_pos ⟨rfl, e⟩, if_pos e]
  · rw [if_neg (fun q => e q.2), if_neg e]
    have := h i hi
    rwa [Nat.zero_add] at this
theorem mR_e {σ : mS} {ρ ρ' : Rw} {a o : Nat} (h : mRow σ a o ρ) (e : ∀ j, j < 2471 → ρ' j = ρ j) : mRow σ a o ρ' := fun j hj => by rw [e j hj]; exact h j hj
theorem on_pred {n : Nat} (h : 0 < n) : Int32.ofNat n - 1 = Int32.ofNat (n - 1) := of_sub (b := 1) h
theorem h0_c : ((100 : Int32) = 0) ↔ False := iff_false_intro (by decide)
theorem g_129 {a b c : Int64} {hp : Hp} {D : Nat} {K : Int32 → Hp → Prop} (hD : 1 ≤ D) : wpI D 129 [.long a, .long b, .long c] hp K ↔ K (vin a b c) hp := by
  refine cI_of (m := 0) (fun d hd Q hQ => ?_) rfl hD
  refine b129_0 ?_
  rw [br_v]
  unfold vin at hQ
  by_cases e : b.toInt ≤ a.toInt ∧ a.toInt ≤ c.toInt
  · rw [if_pos e] at hQ
    simp only [↓br_pos, ↓br_neg, ↓rF_I, ↓rF_L, ↓rF_R, ↓rF_N, rO_m, rB_m, ↓rI_m, wI_m, ↓rB2_m, ↓rB3_m, wB2_m, wB3_m, ↓rL_m, wL_m, ↓rQ_m, wQ_m, ↓lI_m, pI_m, pL_m, pR_m, sI_m, sBy_m, sBo_m, sL_m, sQ_m, fst_m, true_and, and_true, tg_some, ln_some, uI_1, uI_2, uL_1, uL_2, uL_3, uQ_1, uQ_2, uQ_3, rv_i, rv_l, rv_n, rv_b0, rv_b1, RMR, ne_eq, reduceCtorEq, not_false_eq_true, Option.getD_some, if_true, if_false, and_self, false_and, and_false, Nat.add_left_cancel_iff, Nat.add_eq_left, Nat.left_eq_add, Nat.one_ne_zero, Nat.reduceAdd, Nat.reduceLT, Nat.reduceLeDiff, Nat.reduceEqDiff, true_implies, false_implies, implies_true, Option.some.injEq, forall_eq', forall_eq, reduceCtorEq, brT, brF, br_s, i_10, i_01, ib_0_2, ib_1_2, tn_0, tn_1, Int32.le_refl, eq_self, rv_bN, rv_iM, e]
    exact hQ
  · rw [if_neg e] at hQ
    simp only [↓br_pos, ↓br_neg, ↓rF_I, ↓rF_L, ↓rF_R, ↓rF_N, rO_m, rB_m, ↓rI_m, wI_m, ↓rB2_m, ↓rB3_m, wB2_m, wB3_m, ↓rL_m, wL_m, ↓rQ_m, wQ_m, ↓lI_m, pI_m, pL_m, pR_m, sI_m, sBy_m, sBo_m, sL_m, sQ_m, fst_m, true_and, and_true, tg_some, ln_some, uI_1, uI_2, uL_1, uL_2, uL_3, uQ_1, uQ_2, uQ_3, rv_i, rv_l, rv_n, rv_b0, rv_b1, RMR, ne_eq, reduceCtorEq, not_false_eq_true, Option.getD_some, if_true, if_false, and_self, false_and, and_false, Nat.add_left_cancel_iff, Nat.add_eq_left, Nat.left_eq_add, Nat.one_ne_zero, Nat.reduceAdd, Nat.reduceLT, Nat.reduceLeDiff, Nat.reduceEqDiff, true_implies, false_implies, implies_true, Option.some.injEq, forall_eq', forall_eq, reduceCtorEq, brT, brF, br_s, i_10, i_01, ib_0_2, ib_1_2, tn_0, tn_1, Int32.le_refl, eq_self, rv_bN, rv_iM, e]
    exact hQ
theorem vin_eq {a b c : Int64} : vin a b c = iB (b.toInt ≤ a.toInt ∧ a.toInt ≤ c.toInt) := rfl
theorem ie_toInt {n : Nat} (h : n < 2147483648) : (Int32.ofNat n - 1).toInt = (n : Int) - 1 := by
  rcases Nat.eq_zero_or_pos n with z | z
  · subst z; decide
  · rw [on_pred z, on_int (by omega)]; omega
theorem vin_n {a : Int32} {n : Nat} (hn : n < 2147483648) : vin (Int32.toInt64 a) (0 : Int64) (Int32.toInt64 (Int32.ofNat n - 1)) = bN a n := by
  rw [vin_eq]
  unfold iB bN
  rw [Int32.toInt_toInt64, Int32.toInt_toInt64, ie_toInt hn, show (0 : Int64).toInt = 0 by decide]
  by_cases c : 0 ≤ a.toInt ∧ a.toInt < n
  · rw [if_pos c, if_pos (by omega)]
  · rw [if_neg c, if_neg (by omega)]
theorem vin_m {a : Int32} {n : Nat} (hn : n < 2147483648) : vin (Int32.toInt64 a) (0 : Int64) (Int32.toInt64 (Int32.ofNat n)) = bN a (n + 1) := by
  rw [vin_eq]
  unfold iB bN
  rw [Int32.toInt_toInt64, Int32.toInt_toInt64, on_int hn, show (0 : Int64).toInt = 0 by decide]
  by_cases c : 0 ≤ a.toInt ∧ a.toInt < ((n + 1 : Nat) : Int)
  · rw [if_pos c, if_pos (by omega)]
  · rw [if_neg c, if_neg (by omega)]
theorem vin_01 {a : Int32} : vin (Int32.toInt64 a) (0 : Int64) (1 : Int64) = iB (0 ≤ a.toInt ∧ a.toInt ≤ 1) := by
  rw [vin_eq, Int32.toInt_toInt64, show (0 : Int64).toInt = 0 by decide, show (1 : Int64).toInt = 1 by decide]
theorem vin_02 {a : Int32} : vin (Int32.toInt64 a) (0 : Int64) (2 : Int64) = iB (0 ≤ a.toInt ∧ a.toInt ≤ 2) := by
  rw [vin_eq, Int32.toInt_toInt64, show (0 : Int64).toInt = 0 by decide, show (2 : Int64).toInt = 2 by decide]
theorem vin_09 {a : Int32} : vin (Int32.toInt64 a) (0 : Int64) (9 : Int64) = iB (0 ≤ a.toInt ∧ a.toInt ≤ 9) := by
  rw [vin_eq, Int32.toInt_toInt64, show (0 : Int64).toInt = 0 by decide, show (9 : Int64).toInt = 9 by decide]
theorem vin_99 {a : Int32} : vin (Int32.toInt64 a) (1 : Int64) (99 : Int64) = iB (1 ≤ a.toInt ∧ a.toInt ≤ 99) := by
  rw [vin_eq, Int32.toInt_toInt64, show (1 : Int64).toInt = 1 by decide, show (99 : Int64).toInt = 99 by decide]
theorem vin_200 {a : Int32} : vin (Int32.toInt64 a) (1 : Int64) (200 : Int64) = iB (1 ≤ a.toInt ∧ a.toInt ≤ 200) := by
  rw [vin_eq, Int32.toInt_toInt64, show (1 : Int64).toInt = 1 by decide, show (200 : Int64).toInt = 200 by decide]
theorem vin_999 {a : Int32} : vin (Int32.toInt64 a) (0 : Int64) (999 : Int64) = iB (0 ≤ a.toInt ∧ a.toInt ≤ 999) := by
  rw [vin_eq, Int32.toInt_toInt64, show (0 : Int64).toInt = 0 by decide, show (999 : Int64).toInt = 999 by decide]
theorem iB_bN {a : Int32} {n : Nat} {p : Prop} [Decidable p] (h : p ↔ 0 ≤ a.toInt ∧ a.toInt < n) : iB p = bN a n := by
  unfold iB bN
  by_cases c : p
  · rw [if_pos c, if_pos (h.mp c)]
  · rw [if_neg c, if_neg (fun q => c (h.mpr q))]
theorem iB_01 {p : Prop} [Decidable p] : iB p = 0 ∨ iB p = 1 := by
  unfold iB; split
  · exact Or.inr rfl
  · exact Or.inl rfl
theorem iB_c {p q : Prop} [Decidable p] [Decidable q] (h : p ↔ q) : iB p = iB q := by
  unfold iB
  by_cases c : p
  · rw [if_pos c, if_pos (h.mp c)]
  · rw [if_neg c, if_neg (fun x => c (h.mpr x))]
theorem z10 : ((1 : Int32) = 0) ↔ False := iff_false_intro (by decide)
theorem z00 : ((0 : Int32) = 0) ↔ True := iff_true_intro rfl
theorem g_151 {w : mT} {σ : mS} {τ : Rw} {a : Int32} {D : Nat} {K : Int32 → Hp → Prop} (hw : lit w) (hτ : mTold σ τ) (hv : vTold τ) (hD : 2 ≤ D) : wpI D 151 [.ref 81, .int a] (mW w σ) K ↔ K (bN a (τ 0)) (mW w σ) := by
  have v0 := hv.1
  have v1 := hv.2.1
  have v2 := hv.2.2.1
  refine cI_of (m := 1) (fun d hd Q hQ => ?_) rfl hD
  refine b151_0 ?_
  simp only [↓br_pos, ↓br_neg, ↓rF_I, ↓rF_L, ↓rF_R, ↓rF_N, rO_m, rB_m, ↓rI_m, wI_m, ↓rB2_m, ↓rB3_m, wB2_m, wB3_m, ↓rL_m, wL_m, ↓rQ_m, wQ_m, ↓lI_m, pI_m, pL_m, pR_m, sI_m, sBy_m, sBo_m, sL_m, sQ_m, fst_m, true_and, and_true, tg_some, ln_some, uI_1, uI_2, uL_1, uL_2, uL_3, uQ_1, uQ_2, uQ_3, rv_i, rv_l, rv_n, rv_b0, rv_b1, RMR, ne_eq, reduceCtorEq, not_false_eq_true, Option.getD_some, if_true, if_false, and_self, false_and, and_false, Nat.add_left_cancel_iff, Nat.add_eq_left, Nat.left_eq_add, Nat.one_ne_zero, Nat.reduceAdd, Nat.reduceLT, Nat.reduceLeDiff, Nat.reduceEqDiff, true_implies, false_implies, implies_true, Option.some.injEq, forall_eq', forall_eq, reduceCtorEq, brT, brF, br_s, i_10, i_01, ib_0_2, ib_1_2, tn_0, tn_1, Int32.le_refl, eq_self, rv_bN, rv_iM, RCM 81, RLY, lit_at hw, mt_0 hτ, g_129 hd, vin_n (by omega : τ 0 < 2147483648)]
  exact hQ
theorem g_152 {w : mT} {σ : mS} {τ : Rw} {a : Int32} {D : Nat} {K : Int32 → Hp → Prop} (hw : lit w) (hτ : mTold σ τ) (hv : vTold τ) (hD : 2 ≤ D) : wpI D 152 [.ref 81, .int a] (mW w σ) K ↔ K (bN a (τ 1)) (mW w σ) := by
  have v0 := hv.1
  have v1 := hv.2.1
  have v2 := hv.2.2.1
  refine cI_of (m := 1) (fun d hd Q hQ => ?_) rfl hD
  refine b152_0 ?_
  simp only [↓br_pos, ↓br_neg, ↓rF_I, ↓rF_L, ↓rF_R, ↓rF_N, rO_m, rB_m, ↓rI_m, wI_m, ↓rB2_m, ↓rB3_m, wB2_m, wB3_m, ↓rL_m, wL_m, ↓rQ_m, wQ_m, ↓lI_m, pI_m, pL_m, pR_m, sI_m, sBy_m, sBo_m, sL_m, sQ_m, fst_m, true_and, and_true, tg_some, ln_some, uI_1, uI_2, uL_1, uL_2, uL_3, uQ_1, uQ_2, uQ_3, rv_i, rv_l, rv_n, rv_b0, rv_b1, RMR, ne_eq, reduceCtorEq, not_false_eq_true, Option.getD_some, if_true, if_false, and_self, false_and, and_false, Nat.add_left_cancel_iff, Nat.add_eq_left, Nat.left_eq_add, Nat.one_ne_zero, Nat.reduceAdd, Nat.reduceLT, Nat.reduceLeDiff, Nat.reduceEqDiff, true_implies, false_implies, implies_true, Option.some.injEq, forall_eq', forall_eq, reduceCtorEq, brT, brF, br_s, i_10, i_01, ib_0_2, ib_1_2, tn_0, tn_1, Int32.le_refl, eq_self, rv_bN, rv_iM, RCM 81, RLY, lit_at hw, mt_1 hτ, g_129 hd, vin_n (by omega : τ 1 < 2147483648)]
  exact hQ
theorem g_153 {w : mT} {σ : mS} {τ : Rw} {a : Int32} {D : Nat} {K : Int32 → Hp → Prop} (hw : lit w) (hτ : mTold σ τ) (hv : vTold τ) (hD : 2 ≤ D) : wpI D 153 [.ref 81, .int a] (mW w σ) K ↔ K (bN a (τ 2)) (mW w σ) := by
  have v0 := hv.1
  have v1 := hv.2.1
  have v2 := hv.2.2.1
  refine cI_of (m := 1) (fun d hd Q hQ => ?_) rfl hD
  refine b153_0 ?_
  simp only [↓br_pos, ↓br_neg, ↓rF_I, ↓rF_L, ↓rF_R, ↓rF_N, rO_m, rB_m, ↓rI_m, wI_m, ↓rB2_m, ↓rB3_m, wB2_m, wB3_m, ↓rL_m, wL_m, ↓rQ_m, wQ_m, ↓lI_m, pI_m, pL_m, pR_m, sI_m, sBy_m, sBo_m, sL_m, sQ_m, fst_m, true_and, and_true, tg_some, ln_some, uI_1, uI_2, uL_1, uL_2, uL_3, uQ_1, uQ_2, uQ_3, rv_i, rv_l, rv_n, rv_b0, rv_b1, RMR, ne_eq, reduceCtorEq, not_false_eq_true, Option.getD_some, if_true, if_false, and_self, false_and, and_false, Nat.add_left_cancel_iff, Nat.add_eq_left, Nat.left_eq_add, Nat.one_ne_zero, Nat.reduceAdd, Nat.reduceLT, Nat.reduceLeDiff, Nat.reduceEqDiff, true_implies, false_implies, implies_true, Option.some.injEq, forall_eq', forall_eq, reduceCtorEq, brT, brF, br_s, i_10, i_01, ib_0_2, ib_1_2, tn_0, tn_1, Int32.le_refl, eq_self, rv_bN, rv_iM, RCM 81, RLY, lit_at hw, mt_2 hτ, g_129 hd, vin_n (by omega : τ 2 < 2147483648)]
  exact hQ
theorem g_154 {w : mT} {σ : mS} {τ : Rw} {a b : Int32} {D : Nat} {K : Int32 → Hp → Prop} (hw : lit w) (hτ : mTold σ τ) (hv : vTold τ) (hD : 3 ≤ D) : wpI D 154 [.ref 81, .int a, .int b] (mW w σ) K ↔ K (bC τ a b) (mW w σ) := by
  have v1 := hv.2.1
  refine cI_of (m := 2) (fun d hd Q hQ => ?_) rfl hD
  have hd1 : 1 ≤ d := by omega
  refine b154_0 ?_
  by_cases z : bN a (τ 1) = 1
  · obtain ⟨p, rfl, hp⟩ := bN_ex z
    have v2 := (hv.2.2.2.2.2.1 p hp).2
    simp only [↓br_pos, ↓br_neg, ↓rF_I, ↓rF_L, ↓rF_R, ↓rF_N, rO_m, rB_m, ↓rI_m, wI_m, ↓rB2_m, ↓rB3_m, wB2_m, wB3_m, ↓rL_m, wL_m, ↓rQ_m, wQ_m, ↓lI_m, pI_m, pL_m, pR_m, sI_m, sBy_m, sBo_m, sL_m, sQ_m, fst_m, true_and, and_true, tg_some, ln_some, uI_1, uI_2, uL_1, uL_2, uL_3, uQ_1, uQ_2, uQ_3, rv_i, rv_l, rv_n, rv_b0, rv_b1, RMR, ne_eq, reduceCtorEq, not_false_eq_true, Option.getD_some, if_true, if_false, and_self, false_and, and_false, Nat.add_left_cancel_iff, Nat.add_eq_left, Nat.left_eq_add, Nat.one_ne_zero, Nat.reduceAdd, Nat.reduceLT, Nat.reduceLeDiff, Nat.reduceEqDiff, true_implies, false_implies, implies_true, Option.some.injEq, forall_eq', forall_eq, reduceCtorEq, brT, brF, br_s, i_10, i_01, ib_0_2, ib_1_2, tn_0, tn_1, Int32.le_refl, eq_self, rv_bN, rv_iM, RCM 81, RLY, lit_at hw, ad_2, ad_4, ad_6, ad_8, ad_10, ad_12, ad_16, ad_24, ad_27, ad_28, ad_31, ad_35, ad_43, ad_51, ad_107, ad_131, ad_311, ml_3, ml_6, ml_7, ml_60, ml_100, ml_2471, mq_12, ar_2, ar_3, ar_4, ar_5, ar_6, of_add, of_mul, on_succ, g_152 hw hτ hv hd, z, z10, mt hτ (by omega : 28 + p < 79), g_129 hd1, vin_n (by omega : τ (28 + p) < 2147483648)]
    have e : bC τ (Int32.ofNat p) b = bN b (τ (28 + p)) := by
      unfold bC bN
      rw [on_int (by omega), on_nat (by omega)]
      by_cases c : 0 ≤ b.toInt ∧ b.toInt < (τ (28 + p) : Nat)
      · rw [if_pos c, if_pos ⟨by omega, c⟩]
      · rw [if_neg c, if_neg (fun q => c q.2)]
    rw [e] at hQ
    rcases bN_01 (a := b) (n := τ (28 + p)) with y | y
    · rw [y] at hQ
      simp only [↓br_pos, ↓br_neg, ↓rF_I, ↓rF_L, ↓rF_R, ↓rF_N, rO_m, rB_m, ↓rI_m, wI_m, ↓rB2_m, ↓rB3_m, wB2_m, wB3_m, ↓rL_m, wL_m, ↓rQ_m, wQ_m, ↓lI_m, pI_m, pL_m, pR_m, sI_m, sBy_m, sBo_m, sL_m, sQ_m, fst_m, true_and, and_true, tg_some, ln_some, uI_1, uI_2, uL_1, uL_2, uL_3, uQ_1, uQ_2, uQ_3, rv_i, rv_l, rv_n, rv_b0, rv_b1, RMR, ne_eq, reduceCtorEq, not_false_eq_true, Option.getD_some, if_true, if_false, and_self, false_and, and_false, Nat.add_left_cancel_iff, Nat.add_eq_left, Nat.left_eq_add, Nat.one_ne_zero, Nat.reduceAdd, Nat.reduceLT, Nat.reduceLeDiff, Nat.reduceEqDiff, true_implies, false_implies, implies_true, Option.some.injEq, forall_eq', forall_eq, reduceCtorEq, brT, brF, br_s, i_10, i_01, ib_0_2, ib_1_2, tn_0, tn_1, Int32.le_refl, eq_self, rv_bN, rv_iM, y, z00]
      exact hQ
    · rw [y] at hQ
      simp only [↓br_pos, ↓br_neg, ↓rF_I, ↓rF_L, ↓rF_R, ↓rF_N, rO_m, rB_m, ↓rI_m, wI_m, ↓rB2_m, ↓rB3_m, wB2_m, wB3_m, ↓rL_m, wL_m, ↓rQ_m, wQ_m, ↓lI_m, pI_m, pL_m, pR_m, sI_m, sBy_m, sBo_m, sL_m, sQ_m, fst_m, true_and, and_true, tg_some, ln_some, uI_1, uI_2, uL_1, uL_2, uL_3, uQ_1, uQ_2, uQ_3, rv_i, rv_l, rv_n, rv_b0, rv_b1, RMR, ne_eq, reduceCtorEq, not_false_eq_true, Option.getD_some, if_true, if_false, and_self, false_and, and_false, Nat.add_left_cancel_iff, Nat.add_eq_left, Nat.left_eq_add, Nat.one_ne_zero, Nat.reduceAdd, Nat.reduceLT, Nat.reduceLeDiff, Nat.reduceEqDiff, true_implies, false_implies, implies_true, Option.some.injEq, forall_eq', forall_eq, reduceCtorEq, brT, brF, br_s, i_10, i_01, ib_0_2, ib_1_2, tn_0, tn_1, Int32.le_refl, eq_self, rv_bN, rv_iM, y, z10]
      exact hQ
  · have z' : bN a (τ 1) = 0 := bN_01.resolve_right z
    have e : bC τ a b = 0 := by
      unfold bC
      refine if_neg (fun q => ?_)
      unfold bN at z'
      rw [if_pos q.1] at z'
      exact absurd z' (by decide)
    rw [e] at hQ
    simp only [↓br_pos, ↓br_neg, ↓rF_I, ↓rF_L, ↓rF_R, ↓rF_N, rO_m, rB_m, ↓rI_m, wI_m, ↓rB2_m, ↓rB3_m, wB2_m, wB3_m, ↓rL_m, wL_m, ↓rQ_m, wQ_m, ↓lI_m, pI_m, pL_m, pR_m, sI_m, sBy_m, sBo_m, sL_m, sQ_m, fst_m, true_and, and_true, tg_some, ln_some, uI_1, uI_2, uL_1, uL_2, uL_3, uQ_1, uQ_2, uQ_3, rv_i, rv_l, rv_n, rv_b0, rv_b1, RMR, ne_eq, reduceCtorEq, not_false_eq_true, Option.getD_some, if_true, if_false, and_self, false_and, and_false, Nat.add_left_cancel_iff, Nat.add_eq_left, Nat.left_eq_add, Nat.one_ne_zero, Nat.reduceAdd, Nat.reduceLT, Nat.reduceLeDiff, Nat.reduceEqDiff, true_implies, false_implies, implies_true, Option.some.injEq, forall_eq', forall_eq, reduceCtorEq, brT, brF, br_s, i_10, i_01, ib_0_2, ib_1_2, tn_0, tn_1, Int32.le_refl, eq_self, rv_bN, rv_iM, RCM 81, RLY, lit_at hw, g_152 hw hτ hv hd, z', z00]
    exact hQ
theorem g_155 {w : mT} {σ : mS} {τ : Rw} {s a : Nat} {x : Int32} {D : Nat} {K : Int32 → Hp → Prop} (hw : lit w) (hτ : mTold σ τ) (hx : x = Int32.ofNat a) (h : 31 + 6 * s + a < 79) (hD : 1 ≤ D) : wpI D 155 [.ref 81, .int (Int32.ofNat s), .int x] (mW w σ) K ↔ K (Int32.ofNat (τ (31 + 6 * s + a))) (mW w σ) := by
  subst hx
  refine cI_of (m := 0) (fun d hd Q hQ => ?_) rfl hD
  refine b155_0 ?_
  simp only [↓br_pos, ↓br_neg, ↓rF_I, ↓rF_L, ↓rF_R, ↓rF_N, rO_m, rB_m, ↓rI_m, wI_m, ↓rB2_m, ↓rB3_m, wB2_m, wB3_m, ↓rL_m, wL_m, ↓rQ_m, wQ_m, ↓lI_m, pI_m, pL_m, pR_m, sI_m, sBy_m, sBo_m, sL_m, sQ_m, fst_m, true_and, and_true, tg_some, ln_some, uI_1, uI_2, uL_1, uL_2, uL_3, uQ_1, uQ_2, uQ_3, rv_i, rv_l, rv_n, rv_b0, rv_b1, RMR, ne_eq, reduceCtorEq, not_false_eq_true, Option.getD_some, if_true, if_false, and_self, false_and, and_false, Nat.add_left_cancel_iff, Nat.add_eq_left, Nat.left_eq_add, Nat.one_ne_zero, Nat.reduceAdd, Nat.reduceLT, Nat.reduceLeDiff, Nat.reduceEqDiff, true_implies, false_implies, implies_true, Option.some.injEq, forall_eq', forall_eq, reduceCtorEq, brT, brF, br_s, i_10, i_01, ib_0_2, ib_1_2, tn_0, tn_1, Int32.le_refl, eq_self, rv_bN, rv_iM, RCM 81, RLY, lit_at hw, ad_2, ad_4, ad_6, ad_8, ad_10, ad_12, ad_16, ad_24, ad_27, ad_28, ad_31, ad_35, ad_43, ad_51, ad_107, ad_131, ad_311, ml_3, ml_6, ml_7, ml_60, ml_100, ml_2471, mq_12, ar_2, ar_3, ar_4, ar_5, ar_6, of_add, of_mul, on_succ, mt hτ h]
  exact hQ
theorem g_156 {p k c D : Nat} {hp : Hp} {K : Int32 → Hp → Prop} (hD : 1 ≤ D) : wpI D 156 [.int (Int32.ofNat p), .int (Int32.ofNat k), .int (Int32.ofNat c)] hp K ↔ K (Int32.ofNat (li p k c)) hp := by
  refine cI_of (m := 0) (fun d hd Q hQ => ?_) rfl hD
  refine b156_0 ?_
  have e : li p k c = 311 + (60 * p + k) * 12 + c := by unfold li; omega
  rw [e] at hQ
  simp only [↓br_pos, ↓br_neg, ↓rF_I, ↓rF_L, ↓rF_R, ↓rF_N, rO_m, rB_m, ↓rI_m, wI_m, ↓rB2_m, ↓rB3_m, wB2_m, wB3_m, ↓rL_m, wL_m, ↓rQ_m, wQ_m, ↓lI_m, pI_m, pL_m, pR_m, sI_m, sBy_m, sBo_m, sL_m, sQ_m, fst_m, true_and, and_true, tg_some, ln_some, uI_1, uI_2, uL_1, uL_2, uL_3, uQ_1, uQ_2, uQ_3, rv_i, rv_l, rv_n, rv_b0, rv_b1, RMR, ne_eq, reduceCtorEq, not_false_eq_true, Option.getD_some, if_true, if_false, and_self, false_and, and_false, Nat.add_left_cancel_iff, Nat.add_eq_left, Nat.left_eq_add, Nat.one_ne_zero, Nat.reduceAdd, Nat.reduceLT, Nat.reduceLeDiff, Nat.reduceEqDiff, true_implies, false_implies, implies_true, Option.some.injEq, forall_eq', forall_eq, reduceCtorEq, brT, brF, br_s, i_10, i_01, ib_0_2, ib_1_2, tn_0, tn_1, Int32.le_refl, eq_self, rv_bN, rv_iM, ad_2, ad_4, ad_6, ad_8, ad_10, ad_12, ad_16, ad_24, ad_27, ad_28, ad_31, ad_35, ad_43, ad_51, ad_107, ad_131, ad_311, ml_3, ml_6, ml_7, ml_60, ml_100, ml_2471, mq_12, ar_2, ar_3, ar_4, ar_5, ar_6, of_add, of_mul, on_succ]
  exact hQ
theorem g_157 {w : mT} {σ : mS} {τ ρ : Rw} {p k : Nat} {D : Nat} {K : Int32 → Hp → Prop} (hw : lit w) (hτ : mTold σ τ) (hρ : mRow σ 85 0 ρ) (hp : p < 3) (hk : k < 60) (hl : ρ (lo p k) < 12) (hD : 1 ≤ D) : wpI D 157 [.ref 81, .int (Int32.ofNat p), .int (Int32.ofNat k)] (mW w σ) K ↔ K (Int32.ofNat (τ (16 + ρ (lo p k)))) (mW w σ) := by
  refine cI_of (m := 0) (fun d hd Q hQ => ?_) rfl hD
  refine b157_0 ?_
  have e : 131 + 60 * p + k = lo p k := by unfold lo; omega
  simp only [↓br_pos, ↓br_neg, ↓rF_I, ↓rF_L, ↓rF_R, ↓rF_N, rO_m, rB_m, ↓rI_m, wI_m, ↓rB2_m, ↓rB3_m, wB2_m, wB3_m, ↓rL_m, wL_m, ↓rQ_m, wQ_m, ↓lI_m, pI_m, pL_m, pR_m, sI_m, sBy_m, sBo_m, sL_m, sQ_m, fst_m, true_and, and_true, tg_some, ln_some, uI_1, uI_2, uL_1, uL_2, uL_3, uQ_1, uQ_2, uQ_3, rv_i, rv_l, rv_n, rv_b0, rv_b1, RMR, ne_eq, reduceCtorEq, not_false_eq_true, Option.getD_some, if_true, if_false, and_self, false_and, and_false, Nat.add_left_cancel_iff, Nat.add_eq_left, Nat.left_eq_add, Nat.one_ne_zero, Nat.reduceAdd, Nat.reduceLT, Nat.reduceLeDiff, Nat.reduceEqDiff, true_implies, false_implies, implies_true, Option.some.injEq, forall_eq', forall_eq, reduceCtorEq, brT, brF, br_s, i_10, i_01, ib_0_2, ib_1_2, tn_0, tn_1, Int32.le_refl, eq_self, rv_bN, rv_iM, RCM 81, RLY, lit_at hw, ad_2, ad_4, ad_6, ad_8, ad_10, ad_12, ad_16, ad_24, ad_27, ad_28, ad_31, ad_35, ad_43, ad_51, ad_107, ad_131, ad_311, ml_3, ml_6, ml_7, ml_60, ml_100, ml_2471, mq_12, ar_2, ar_3, ar_4, ar_5, ar_6, of_add, of_mul, on_succ, e, mr hρ (by unfold lo; omega : lo p k < 2471), mt hτ (by omega : 16 + ρ (lo p k) < 79)]
  exact hQ
theorem g_159 {w : mT} {σ : mS} {τ ρ : Rw} {s : Nat} {D : Nat} {K : Int32 → Hp → Prop} (hw : lit w) (hτ : mTold σ τ) (hρ : mRow σ 85 0 ρ) (hv : vTold τ) (hs : s < τ 2) (hr : ρ (27 + s) ≤ 119988) (hD : 2 ≤ D) : wpI D 159 [.ref 81, .int (Int32.ofNat s)] (mW w σ) K ↔ K (iB (τ (31 + 6 * s) ≤ ρ (27 + s))) (mW w σ) := by
  have v2 := hv.2.2.1
  have v3 := (hv.2.2.2.2.2.2 s hs).1.2
  refine cI_of (m := 1) (fun d hd Q hQ => ?_) rfl hD
  refine b159_0 ?_
  have c := on_lt (i := ρ (27 + s)) (j := τ (31 + 6 * s)) (by omega) (by omega)
  by_cases z : τ (31 + 6 * s) ≤ ρ (27 + s)
  · have c' := iff_false_intro (fun q => absurd (c.mp q) (by omega))
    rw [iB_t z] at hQ
    simp only [↓br_pos, ↓br_neg, ↓rF_I, ↓rF_L, ↓rF_R, ↓rF_N, rO_m, rB_m, ↓rI_m, wI_m, ↓rB2_m, ↓rB3_m, wB2_m, wB3_m, ↓rL_m, wL_m, ↓rQ_m, wQ_m, ↓lI_m, pI_m, pL_m, pR_m, sI_m, sBy_m, sBo_m, sL_m, sQ_m, fst_m, true_and, and_true, tg_some, ln_some, uI_1, uI_2, uL_1, uL_2, uL_3, uQ_1, uQ_2, uQ_3, rv_i, rv_l, rv_n, rv_b0, rv_b1, RMR, ne_eq, reduceCtorEq, not_false_eq_true, Option.getD_some, if_true, if_false, and_self, false_and, and_false, Nat.add_left_cancel_iff, Nat.add_eq_left, Nat.left_eq_add, Nat.one_ne_zero, Nat.reduceAdd, Nat.reduceLT, Nat.reduceLeDiff, Nat.reduceEqDiff, true_implies, false_implies, implies_true, Option.some.injEq, forall_eq', forall_eq, reduceCtorEq, brT, brF, br_s, i_10, i_01, ib_0_2, ib_1_2, tn_0, tn_1, Int32.le_refl, eq_self, rv_bN, rv_iM, RCM 81, RLY, lit_at hw, ad_2, ad_4, ad_6, ad_8, ad_10, ad_12, ad_16, ad_24, ad_27, ad_28, ad_31, ad_35, ad_43, ad_51, ad_107, ad_131, ad_311, ml_3, ml_6, ml_7, ml_60, ml_100, ml_2471, mq_12, ar_2, ar_3, ar_4, ar_5, ar_6, of_add, of_mul, on_succ, mr hρ (by omega : 27 + s < 2471), g_155 (x := 0) (a := 0) hw hτ rfl (by omega : 31 + 6 * s + 0 < 79) hd, Nat.add_zero, c']
    exact hQ
  · have c' := iff_true_intro (c.mpr (by omega))
    rw [iB_f z] at hQ
    simp only [↓br_pos, ↓br_neg, ↓rF_I, ↓rF_L, ↓rF_R, ↓rF_N, rO_m, rB_m, ↓rI_m, wI_m, ↓rB2_m, ↓rB3_m, wB2_m, wB3_m, ↓rL_m, wL_m, ↓rQ_m, wQ_m, ↓lI_m, pI_m, pL_m, pR_m, sI_m, sBy_m, sBo_m, sL_m, sQ_m, fst_m, true_and, and_true, tg_some, ln_some, uI_1, uI_2, uL_1, uL_2, uL_3, uQ_1, uQ_2, uQ_3, rv_i, rv_l, rv_n, rv_b0, rv_b1, RMR, ne_eq, reduceCtorEq, not_false_eq_true, Option.getD_some, if_true, if_false, and_self, false_and, and_false, Nat.add_left_cancel_iff, Nat.add_eq_left, Nat.left_eq_add, Nat.one_ne_zero, Nat.reduceAdd, Nat.reduceLT, Nat.reduceLeDiff, Nat.reduceEqDiff, true_implies, false_implies, implies_true, Option.some.injEq, forall_eq', forall_eq, reduceCtorEq, brT, brF, br_s, i_10, i_01, ib_0_2, ib_1_2, tn_0, tn_1, Int32.le_refl, eq_self, rv_bN, rv_iM, RCM 81, RLY, lit_at hw, ad_2, ad_4, ad_6, ad_8, ad_10, ad_12, ad_16, ad_24, ad_27, ad_28, ad_31, ad_35, ad_43, ad_51, ad_107, ad_131, ad_311, ml_3, ml_6, ml_7, ml_60, ml_100, ml_2471, mq_12, ar_2, ar_3, ar_4, ar_5, ar_6, of_add, of_mul, on_succ, mr hρ (by omega : 27 + s < 2471), g_155 (x := 0) (a := 0) hw hτ rfl (by omega : 31 + 6 * s + 0 < 79) hd, Nat.add_zero, c']
    exact hQ
theorem g_160 {w : mT} {σ : mS} {τ ρ : Rw} {s : Nat} {D : Nat} {K : Int32 → Hp → Prop} (hw : lit w) (hτ : mTold σ τ) (hρ : mRow σ 85 0 ρ) (hv : vTold τ) (hr : vRow τ ρ) (hs : s < τ 2) (hD : 2 ≤ D) : wpI D 160 [.ref 81, .int (Int32.ofNat s)] (mW w σ) K ↔ K (Int32.ofNat (lateD τ ρ s)) (mW w σ) := by
  have v2 := hv.2.2.1
  have v3 := (hv.2.2.2.2.2.2 s hs).2.2.2.1.2
  have r0 := vR_day hr
  have rs := vR_sa hr s hs
  refine cI_of (m := 1) (fun d hd Q hQ => ?_) rfl hD
  refine b160_0 ?_
  have g := fun {K : Int32 → Hp → Prop} => g_155 (K := K) (x := 3) (a := 3) hw hτ rfl (by omega : 31 + 6 * s + 3 < 79) hd
  unfold lateD at hQ
  by_cases z : ρ (43 + s) = 0
  · rw [if_pos z] at hQ
    have c1 : (Int32.ofNat (ρ (43 + s)) ≤ 0) ↔ True := iff_true_intro ((of_le0 (by omega)).mpr z)
    by_cases y : ρ 0 ≤ τ (31 + 6 * s + 3)
    · have c2 : (Int32.ofNat (ρ 0) ≤ Int32.ofNat (τ (31 + 6 * s + 3))) ↔ True := iff_true_intro ((on_le (by omega) (by omega)).mpr y)
      rw [show ρ 0 - τ (31 + 6 * s + 3) = 0 by omega] at hQ
      simp only [↓br_pos, ↓br_neg, ↓rF_I, ↓rF_L, ↓rF_R, ↓rF_N, rO_m, rB_m, ↓rI_m, wI_m, ↓rB2_m, ↓rB3_m, wB2_m, wB3_m, ↓rL_m, wL_m, ↓rQ_m, wQ_m, ↓lI_m, pI_m, pL_m, pR_m, sI_m, sBy_m, sBo_m, sL_m, sQ_m, fst_m, true_and, and_true, tg_some, ln_some, uI_1, uI_2, uL_1, uL_2, uL_3, uQ_1, uQ_2, uQ_3, rv_i, rv_l, rv_n, rv_b0, rv_b1, RMR, ne_eq, reduceCtorEq, not_false_eq_true, Option.getD_some, if_true, if_false, and_self, false_and, and_false, Nat.add_left_cancel_iff, Nat.add_eq_left, Nat.left_eq_add, Nat.one_ne_zero, Nat.reduceAdd, Nat.reduceLT, Nat.reduceLeDiff, Nat.reduceEqDiff, true_implies, false_implies, implies_true, Option.some.injEq, forall_eq', forall_eq, reduceCtorEq, brT, brF, br_s, i_10, i_01, ib_0_2, ib_1_2, tn_0, tn_1, Int32.le_refl, eq_self, rv_bN, rv_iM, RCM 81, RLY, lit_at hw, ad_2, ad_4, ad_6, ad_8, ad_10, ad_12, ad_16, ad_24, ad_27, ad_28, ad_31, ad_35, ad_43, ad_51, ad_107, ad_131, ad_311, ml_3, ml_6, ml_7, ml_60, ml_100, ml_2471, mq_12, ar_2, ar_3, ar_4, ar_5, ar_6, of_add, of_mul, on_succ, mr hρ (by omega : 43 + s < 2471), mr_0l hρ, g, c1, c2]
      exact hQ
    · have c2 : (Int32.ofNat (ρ 0) ≤ Int32.ofNat (τ (31 + 6 * s + 3))) ↔ False := iff_false_intro (fun q => y ((on_le (by omega) (by omega)).mp q))
      rw [← of_sub (by omega)] at hQ
      simp only [↓br_pos, ↓br_neg, ↓rF_I, ↓rF_L, ↓rF_R, ↓rF_N, rO_m, rB_m, ↓rI_m, wI_m, ↓rB2_m, ↓rB3_m, wB2_m, wB3_m, ↓rL_m, wL_m, ↓rQ_m, wQ_m, ↓lI_m, pI_m, pL_m, pR_m, sI_m, sBy_m, sBo_m, sL_m, sQ_m, fst_m, true_and, and_true, tg_some, ln_some, uI_1, uI_2, uL_1, uL_2, uL_3, uQ_1, uQ_2, uQ_3, rv_i, rv_l, rv_n, rv_b0, rv_b1, RMR, ne_eq, reduceCtorEq, not_false_eq_true, Option.getD_some, if_true, if_false, and_self, false_and, and_false, Nat.add_left_cancel_iff, Nat.add_eq_left, Nat.left_eq_add, Nat.one_ne_zero, Nat.reduceAdd, Nat.reduceLT, Nat.reduceLeDiff, Nat.reduceEqDiff, true_implies, false_implies, implies_true, Option.some.injEq, forall_eq', forall_eq, reduceCtorEq, brT, brF, br_s, i_10, i_01, ib_0_2, ib_1_2, tn_0, tn_1, Int32.le_refl, eq_self, rv_bN, rv_iM, RCM 81, RLY, lit_at hw, ad_2, ad_4, ad_6, ad_8, ad_10, ad_12, ad_16, ad_24, ad_27, ad_28, ad_31, ad_35, ad_43, ad_51, ad_107, ad_131, ad_311, ml_3, ml_6, ml_7, ml_60, ml_100, ml_2471, mq_12, ar_2, ar_3, ar_4, ar_5, ar_6, of_add, of_mul, on_succ, mr hρ (by omega : 43 + s < 2471), mr_0l hρ, g, c1, c2]
      exact hQ
  · rw [if_neg z] at hQ
    have c1 : (Int32.ofNat (ρ (43 + s)) ≤ 0) ↔ False := iff_false_intro (fun q => z ((of_le0 (by omega)).mp q))
    by_cases y : ρ (43 + s) - 1 ≤ τ (31 + 6 * s + 3)
    · have c2 : (Int32.ofNat (ρ (43 + s) - 1) ≤ Int32.ofNat (τ (31 + 6 * s + 3))) ↔ True := iff_true_intro ((on_le (by omega) (by omega)).mpr y)
      rw [show ρ (43 + s) - 1 - τ (31 + 6 * s + 3) = 0 by omega] at hQ
      simp only [↓br_pos, ↓br_neg, ↓rF_I, ↓rF_L, ↓rF_R, ↓rF_N, rO_m, rB_m, ↓rI_m, wI_m, ↓rB2_m, ↓rB3_m, wB2_m, wB3_m, ↓rL_m, wL_m, ↓rQ_m, wQ_m, ↓lI_m, pI_m, pL_m, pR_m, sI_m, sBy_m, sBo_m, sL_m, sQ_m, fst_m, true_and, and_true, tg_some, ln_some, uI_1, uI_2, uL_1, uL_2, uL_3, uQ_1, uQ_2, uQ_3, rv_i, rv_l, rv_n, rv_b0, rv_b1, RMR, ne_eq, reduceCtorEq, not_false_eq_true, Option.getD_some, if_true, if_false, and_self, false_and, and_false, Nat.add_left_cancel_iff, Nat.add_eq_left, Nat.left_eq_add, Nat.one_ne_zero, Nat.reduceAdd, Nat.reduceLT, Nat.reduceLeDiff, Nat.reduceEqDiff, true_implies, false_implies, implies_true, Option.some.injEq, forall_eq', forall_eq, reduceCtorEq, brT, brF, br_s, i_10, i_01, ib_0_2, ib_1_2, tn_0, tn_1, Int32.le_refl, eq_self, rv_bN, rv_iM, RCM 81, RLY, lit_at hw, ad_2, ad_4, ad_6, ad_8, ad_10, ad_12, ad_16, ad_24, ad_27, ad_28, ad_31, ad_35, ad_43, ad_51, ad_107, ad_131, ad_311, ml_3, ml_6, ml_7, ml_60, ml_100, ml_2471, mq_12, ar_2, ar_3, ar_4, ar_5, ar_6, of_add, of_mul, on_succ, mr hρ (by omega : 43 + s < 2471), g, c1, on_pred (by omega : 0 < ρ (43 + s)), c2]
      exact hQ
    · have c2 : (Int32.ofNat (ρ (43 + s) - 1) ≤ Int32.ofNat (τ (31 + 6 * s + 3))) ↔ False := iff_false_intro (fun q => y ((on_le (by omega) (by omega)).mp q))
      rw [← of_sub (by omega)] at hQ
      simp only [↓br_pos, ↓br_neg, ↓rF_I, ↓rF_L, ↓rF_R, ↓rF_N, rO_m, rB_m, ↓rI_m, wI_m, ↓rB2_m, ↓rB3_m, wB2_m, wB3_m, ↓rL_m, wL_m, ↓rQ_m, wQ_m, ↓lI_m, pI_m, pL_m, pR_m, sI_m, sBy_m, sBo_m, sL_m, sQ_m, fst_m, true_and, and_true, tg_some, ln_some, uI_1, uI_2, uL_1, uL_2, uL_3, uQ_1, uQ_2, uQ_3, rv_i, rv_l, rv_n, rv_b0, rv_b1, RMR, ne_eq, reduceCtorEq, not_false_eq_true, Option.getD_some, if_true, if_false, and_self, false_and, and_false, Nat.add_left_cancel_iff, Nat.add_eq_left, Nat.left_eq_add, Nat.one_ne_zero, Nat.reduceAdd, Nat.reduceLT, Nat.reduceLeDiff, Nat.reduceEqDiff, true_implies, false_implies, implies_true, Option.some.injEq, forall_eq', forall_eq, reduceCtorEq, brT, brF, br_s, i_10, i_01, ib_0_2, ib_1_2, tn_0, tn_1, Int32.le_refl, eq_self, rv_bN, rv_iM, RCM 81, RLY, lit_at hw, ad_2, ad_4, ad_6, ad_8, ad_10, ad_12, ad_16, ad_24, ad_27, ad_28, ad_31, ad_35, ad_43, ad_51, ad_107, ad_131, ad_311, ml_3, ml_6, ml_7, ml_60, ml_100, ml_2471, mq_12, ar_2, ar_3, ar_4, ar_5, ar_6, of_add, of_mul, on_succ, mr hρ (by omega : 43 + s < 2471), g, c1, on_pred (by omega : 0 < ρ (43 + s)), c2]
      exact hQ
theorem g_165 {w : mT} {σ : mS} {τ ρ : Rw} {a b : Int32} {D : Nat} {K : Int32 → Hp → Prop} (hw : lit w) (hτ : mTold σ τ) (hρ : mRow σ 85 0 ρ) (hv : vTold τ) (hr : vRow τ ρ) (hD : 3 ≤ D) : wpI D 165 [.ref 81, .int a, .int b] (mW w σ) K ↔ K (iB (laP τ ρ a b)) (mW w σ) := by
  have v1 := hv.2.1
  refine cI_of (m := 2) (fun d hd Q hQ => ?_) rfl hD
  have hd1 : 1 ≤ d := by omega
  refine b165_0 ?_
  by_cases z : bN a (τ 1) = 1
  · obtain ⟨p, rfl, hp⟩ := bN_ex z
    have v2 := vR_la hr p (by omega)
    have e : iB (laP τ ρ (Int32.ofNat p) b) = bN b (ρ (24 + p)) := iB_bN (by
      unfold laP
      rw [on_nat (by omega)]
      exact ⟨fun q => q.2, fun q => ⟨z, q⟩⟩)
    rw [e] at hQ
    simp only [↓br_pos, ↓br_neg, ↓rF_I, ↓rF_L, ↓rF_R, ↓rF_N, rO_m, rB_m, ↓rI_m, wI_m, ↓rB2_m, ↓rB3_m, wB2_m, wB3_m, ↓rL_m, wL_m, ↓rQ_m, wQ_m, ↓lI_m, pI_m, pL_m, pR_m, sI_m, sBy_m, sBo_m, sL_m, sQ_m, fst_m, true_and, and_true, tg_some, ln_some, uI_1, uI_2, uL_1, uL_2, uL_3, uQ_1, uQ_2, uQ_3, rv_i, rv_l, rv_n, rv_b0, rv_b1, RMR, ne_eq, reduceCtorEq, not_false_eq_true, Option.getD_some, if_true, if_false, and_self, false_and, and_false, Nat.add_left_cancel_iff, Nat.add_eq_left, Nat.left_eq_add, Nat.one_ne_zero, Nat.reduceAdd, Nat.reduceLT, Nat.reduceLeDiff, Nat.reduceEqDiff, true_implies, false_implies, implies_true, Option.some.injEq, forall_eq', forall_eq, reduceCtorEq, brT, brF, br_s, i_10, i_01, ib_0_2, ib_1_2, tn_0, tn_1, Int32.le_refl, eq_self, rv_bN, rv_iM, RCM 81, RLY, lit_at hw, ad_2, ad_4, ad_6, ad_8, ad_10, ad_12, ad_16, ad_24, ad_27, ad_28, ad_31, ad_35, ad_43, ad_51, ad_107, ad_131, ad_311, ml_3, ml_6, ml_7, ml_60, ml_100, ml_2471, mq_12, ar_2, ar_3, ar_4, ar_5, ar_6, of_add, of_mul, on_succ, g_152 hw hτ hv hd, z, z10, mr hρ (by omega : 24 + p < 2471), g_129 hd1, vin_n (by omega : ρ (24 + p) < 2147483648)]
    rcases bN_01 (a := b) (n := ρ (24 + p)) with y | y
    · rw [y] at hQ
      simp only [↓br_pos, ↓br_neg, ↓rF_I, ↓rF_L, ↓rF_R, ↓rF_N, rO_m, rB_m, ↓rI_m, wI_m, ↓rB2_m, ↓rB3_m, wB2_m, wB3_m, ↓rL_m, wL_m, ↓rQ_m, wQ_m, ↓lI_m, pI_m, pL_m, pR_m, sI_m, sBy_m, sBo_m, sL_m, sQ_m, fst_m, true_and, and_true, tg_some, ln_some, uI_1, uI_2, uL_1, uL_2, uL_3, uQ_1, uQ_2, uQ_3, rv_i, rv_l, rv_n, rv_b0, rv_b1, RMR, ne_eq, reduceCtorEq, not_false_eq_true, Option.getD_some, if_true, if_false, and_self, false_and, and_false, Nat.add_left_cancel_iff, Nat.add_eq_left, Nat.left_eq_add, Nat.one_ne_zero, Nat.reduceAdd, Nat.reduceLT, Nat.reduceLeDiff, Nat.reduceEqDiff, true_implies, false_implies, implies_true, Option.some.injEq, forall_eq', forall_eq, reduceCtorEq, brT, brF, br_s, i_10, i_01, ib_0_2, ib_1_2, tn_0, tn_1, Int32.le_refl, eq_self, rv_bN, rv_iM, y, z00]
      exact hQ
    · rw [y] at hQ
      simp only [↓br_pos, ↓br_neg, ↓rF_I, ↓rF_L, ↓rF_R, ↓rF_N, rO_m, rB_m, ↓rI_m, wI_m, ↓rB2_m, ↓rB3_m, wB2_m, wB3_m, ↓rL_m, wL_m, ↓rQ_m, wQ_m, ↓lI_m, pI_m, pL_m, pR_m, sI_m, sBy_m, sBo_m, sL_m, sQ_m, fst_m, true_and, and_true, tg_some, ln_some, uI_1, uI_2, uL_1, uL_2, uL_3, uQ_1, uQ_2, uQ_3, rv_i, rv_l, rv_n, rv_b0, rv_b1, RMR, ne_eq, reduceCtorEq, not_false_eq_true, Option.getD_some, if_true, if_false, and_self, false_and, and_false, Nat.add_left_cancel_iff, Nat.add_eq_left, Nat.left_eq_add, Nat.one_ne_zero, Nat.reduceAdd, Nat.reduceLT, Nat.reduceLeDiff, Nat.reduceEqDiff, true_implies, false_implies, implies_true, Option.some.injEq, forall_eq', forall_eq, reduceCtorEq, brT, brF, br_s, i_10, i_01, ib_0_2, ib_1_2, tn_0, tn_1, Int32.le_refl, eq_self, rv_bN, rv_iM, y, z10]
      exact hQ
  · have z' : bN a (τ 1) = 0 := bN_01.resolve_right z
    rw [iB_f (fun q => z q.1)] at hQ
    simp only [↓br_pos, ↓br_neg, ↓rF_I, ↓rF_L, ↓rF_R, ↓rF_N, rO_m, rB_m, ↓rI_m, wI_m, ↓rB2_m, ↓rB3_m, wB2_m, wB3_m, ↓rL_m, wL_m, ↓rQ_m, wQ_m, ↓lI_m, pI_m, pL_m, pR_m, sI_m, sBy_m, sBo_m, sL_m, sQ_m, fst_m, true_and, and_true, tg_some, ln_some, uI_1, uI_2, uL_1, uL_2, uL_3, uQ_1, uQ_2, uQ_3, rv_i, rv_l, rv_n, rv_b0, rv_b1, RMR, ne_eq, reduceCtorEq, not_false_eq_true, Option.getD_some, if_true, if_false, and_self, false_and, and_false, Nat.add_left_cancel_iff, Nat.add_eq_left, Nat.left_eq_add, Nat.one_ne_zero, Nat.reduceAdd, Nat.reduceLT, Nat.reduceLeDiff, Nat.reduceEqDiff, true_implies, false_implies, implies_true, Option.some.injEq, forall_eq', forall_eq, reduceCtorEq, brT, brF, br_s, i_10, i_01, ib_0_2, ib_1_2, tn_0, tn_1, Int32.le_refl, eq_self, rv_bN, rv_iM, RCM 81, RLY, lit_at hw, g_152 hw hτ hv hd, z', z00]
    exact hQ
theorem mx {m : Nat} (hm : m < 2) : (1 : Int32) - Int32.ofNat m = Int32.ofNat (1 - m) := of_sub (a := 1) (by omega)
theorem g_170 {w : mT} {σ : mS} {ρ : Rw} {m p : Nat} {D : Nat} {K : Int32 → Hp → Prop} (hw : lit w) (hρ : mRow σ 85 0 ρ) (hm : m < 2) (hs : ρ (2 + m) < 1000) (hp : p < 1000) (hD : 1 ≤ D) : wpI D 170 [.ref 81, .int (Int32.ofNat m), .int (Int32.ofNat p)] (mW w σ) K ↔ K (iB (onAtD ρ m p = true)) (mW w σ) := by
  refine cI_of (m := 0) (fun d hd Q hQ => ?_) rfl hD
  refine b170_0 ?_
  by_cases z : ρ (2 + m) = 0
  · have c1 : (Int32.ofNat (ρ (2 + m)) ≤ 0) ↔ True := iff_true_intro ((of_le0 (by omega)).mpr z)
    rw [iB_f (fun q => (of_decide_eq_true q).1 z)] at hQ
    simp only [↓br_pos, ↓br_neg, ↓rF_I, ↓rF_L, ↓rF_R, ↓rF_N, rO_m, rB_m, ↓rI_m, wI_m, ↓rB2_m, ↓rB3_m, wB2_m, wB3_m, ↓rL_m, wL_m, ↓rQ_m, wQ_m, ↓lI_m, pI_m, pL_m, pR_m, sI_m, sBy_m, sBo_m, sL_m, sQ_m, fst_m, true_and, and_true, tg_some, ln_some, uI_1, uI_2, uL_1, uL_2, uL_3, uQ_1, uQ_2, uQ_3, rv_i, rv_l, rv_n, rv_b0, rv_b1, RMR, ne_eq, reduceCtorEq, not_false_eq_true, Option.getD_some, if_true, if_false, and_self, false_and, and_false, Nat.add_left_cancel_iff, Nat.add_eq_left, Nat.left_eq_add, Nat.one_ne_zero, Nat.reduceAdd, Nat.reduceLT, Nat.reduceLeDiff, Nat.reduceEqDiff, true_implies, false_implies, implies_true, Option.some.injEq, forall_eq', forall_eq, reduceCtorEq, brT, brF, br_s, i_10, i_01, ib_0_2, ib_1_2, tn_0, tn_1, Int32.le_refl, eq_self, rv_bN, rv_iM, RCM 81, RLY, lit_at hw, ad_2, ad_4, ad_6, ad_8, ad_10, ad_12, ad_16, ad_24, ad_27, ad_28, ad_31, ad_35, ad_43, ad_51, ad_107, ad_131, ad_311, ml_3, ml_6, ml_7, ml_60, ml_100, ml_2471, mq_12, ar_2, ar_3, ar_4, ar_5, ar_6, of_add, of_mul, on_succ, mr hρ (by omega : 2 + m < 2471), c1]
    exact hQ
  · have c1 : (Int32.ofNat (ρ (2 + m)) ≤ 0) ↔ False := iff_false_intro (fun q => z ((of_le0 (by omega)).mp q))
    have c := of_inj (a := (ρ (2 + m) - 1) / 100) (b := p) (by omega) (by omega)
    by_cases y : (ρ (2 + m) - 1) / 100 = p
    · have c2 := iff_true_intro (c.mpr y)
      rw [iB_t (decide_eq_true ⟨z, y⟩)] at hQ
      simp only [↓br_pos, ↓br_neg, ↓rF_I, ↓rF_L, ↓rF_R, ↓rF_N, rO_m, rB_m, ↓rI_m, wI_m, ↓rB2_m, ↓rB3_m, wB2_m, wB3_m, ↓rL_m, wL_m, ↓rQ_m, wQ_m, ↓lI_m, pI_m, pL_m, pR_m, sI_m, sBy_m, sBo_m, sL_m, sQ_m, fst_m, true_and, and_true, tg_some, ln_some, uI_1, uI_2, uL_1, uL_2, uL_3, uQ_1, uQ_2, uQ_3, rv_i, rv_l, rv_n, rv_b0, rv_b1, RMR, ne_eq, reduceCtorEq, not_false_eq_true, Option.getD_some, if_true, if_false, and_self, false_and, and_false, Nat.add_left_cancel_iff, Nat.add_eq_left, Nat.left_eq_add, Nat.one_ne_zero, Nat.reduceAdd, Nat.reduceLT, Nat.reduceLeDiff, Nat.reduceEqDiff, true_implies, false_implies, implies_true, Option.some.injEq, forall_eq', forall_eq, reduceCtorEq, brT, brF, br_s, i_10, i_01, ib_0_2, ib_1_2, tn_0, tn_1, Int32.le_refl, eq_self, rv_bN, rv_iM, RCM 81, RLY, lit_at hw, ad_2, ad_4, ad_6, ad_8, ad_10, ad_12, ad_16, ad_24, ad_27, ad_28, ad_31, ad_35, ad_43, ad_51, ad_107, ad_131, ad_311, ml_3, ml_6, ml_7, ml_60, ml_100, ml_2471, mq_12, ar_2, ar_3, ar_4, ar_5, ar_6, of_add, of_mul, on_succ, mr hρ (by omega : 2 + m < 2471), c1, h0_c, on_pred (by omega : 0 < ρ (2 + m)), of_div (by omega : ρ (2 + m) - 1 < 2147483648), c2]
      exact hQ
    · have c2 := iff_false_intro (fun q => y (c.mp q))
      rw [iB_f (fun q => y (of_decide_eq_true q).2)] at hQ
      simp only [↓br_pos, ↓br_neg, ↓rF_I, ↓rF_L, ↓rF_R, ↓rF_N, rO_m, rB_m, ↓rI_m, wI_m, ↓rB2_m, ↓rB3_m, wB2_m, wB3_m, ↓rL_m, wL_m, ↓rQ_m, wQ_m, ↓lI_m, pI_m, pL_m, pR_m, sI_m, sBy_m, sBo_m, sL_m, sQ_m, fst_m, true_and, and_true, tg_some, ln_some, uI_1, uI_2, uL_1, uL_2, uL_3, uQ_1, uQ_2, uQ_3, rv_i, rv_l, rv_n, rv_b0, rv_b1, RMR, ne_eq, reduceCtorEq, not_false_eq_true, Option.getD_some, if_true, if_false, and_self, false_and, and_false, Nat.add_left_cancel_iff, Nat.add_eq_left, Nat.left_eq_add, Nat.one_ne_zero, Nat.reduceAdd, Nat.reduceLT, Nat.reduceLeDiff, Nat.reduceEqDiff, true_implies, false_implies, implies_true, Option.some.injEq, forall_eq', forall_eq, reduceCtorEq, brT, brF, br_s, i_10, i_01, ib_0_2, ib_1_2, tn_0, tn_1, Int32.le_refl, eq_self, rv_bN, rv_iM, RCM 81, RLY, lit_at hw, ad_2, ad_4, ad_6, ad_8, ad_10, ad_12, ad_16, ad_24, ad_27, ad_28, ad_31, ad_35, ad_43, ad_51, ad_107, ad_131, ad_311, ml_3, ml_6, ml_7, ml_60, ml_100, ml_2471, mq_12, ar_2, ar_3, ar_4, ar_5, ar_6, of_add, of_mul, on_succ, mr hρ (by omega : 2 + m < 2471), c1, h0_c, on_pred (by omega : 0 < ρ (2 + m)), of_div (by omega : ρ (2 + m) - 1 < 2147483648), c2]
      exact hQ
theorem g_171 {w : mT} {σ : mS} {ρ : Rw} {m : Nat} {D : Nat} {K : Int32 → Hp → Prop} (hw : lit w) (hρ : mRow σ 85 0 ρ) (hm : m < 2) (hz : ρ (2 + m) ≠ 0) (hs : ρ (2 + m) < 1000) (hD : 1 ≤ D) : wpI D 171 [.ref 81, .int (Int32.ofNat m)] (mW w σ) K ↔ K (Int32.ofNat (cellAt ρ m)) (mW w σ) := by
  refine cI_of (m := 0) (fun d hd Q hQ => ?_) rfl hD
  refine b171_0 ?_
  simp only [↓br_pos, ↓br_neg, ↓rF_I, ↓rF_L, ↓rF_R, ↓rF_N, rO_m, rB_m, ↓rI_m, wI_m, ↓rB2_m, ↓rB3_m, wB2_m, wB3_m, ↓rL_m, wL_m, ↓rQ_m, wQ_m, ↓lI_m, pI_m, pL_m, pR_m, sI_m, sBy_m, sBo_m, sL_m, sQ_m, fst_m, true_and, and_true, tg_some, ln_some, uI_1, uI_2, uL_1, uL_2, uL_3, uQ_1, uQ_2, uQ_3, rv_i, rv_l, rv_n, rv_b0, rv_b1, RMR, ne_eq, reduceCtorEq, not_false_eq_true, Option.getD_some, if_true, if_false, and_self, false_and, and_false, Nat.add_left_cancel_iff, Nat.add_eq_left, Nat.left_eq_add, Nat.one_ne_zero, Nat.reduceAdd, Nat.reduceLT, Nat.reduceLeDiff, Nat.reduceEqDiff, true_implies, false_implies, implies_true, Option.some.injEq, forall_eq', forall_eq, reduceCtorEq, brT, brF, br_s, i_10, i_01, ib_0_2, ib_1_2, tn_0, tn_1, Int32.le_refl, eq_self, rv_bN, rv_iM, RCM 81, RLY, lit_at hw, ad_2, ad_4, ad_6, ad_8, ad_10, ad_12, ad_16, ad_24, ad_27, ad_28, ad_31, ad_35, ad_43, ad_51, ad_107, ad_131, ad_311, ml_3, ml_6, ml_7, ml_60, ml_100, ml_2471, mq_12, ar_2, ar_3, ar_4, ar_5, ar_6, of_add, of_mul, on_succ, mr hρ (by omega : 2 + m < 2471), h0_c, on_pred (by omega : 0 < ρ (2 + m)), of_mod (by omega : ρ (2 + m) - 1 < 2147483648)]
  exact hQ
theorem g_172 {w : mT} {σ : mS} {τ ρ : Rw} {m p c : Nat} {D : Nat} {K : Int32 → Hp → Prop} (hw : lit w) (hτ : mTold σ τ) (hρ : mRow σ 85 0 ρ) (hv : vTold τ) (hm : m < 2) (hs : ρ (2 + (1 - m)) < 1000) (hp : p < 1000) (hc : c < 1000) (hD : 2 ≤ D) : wpI D 172 [.ref 81, .int (Int32.ofNat m), .int (Int32.ofNat p), .int (Int32.ofNat c)] (mW w σ) K ↔ K (iB (frP τ ρ m p c)) (mW w σ) := by
  have v3 := hv.2.2.2.1
  refine cI_of (m := 1) (fun d hd Q hQ => ?_) rfl hD
  refine b172_0 ?_
  have g1 := fun {K : Int32 → Hp → Prop} => g_170 (K := K) (m := 1 - m) (p := p) hw hρ (by omega) hs hp hd
  by_cases z : onAtD ρ (1 - m) p = true
  · have y0 := (of_decide_eq_true z).1
    have l100 := cAt_lt (ρ := ρ) (m := 1 - m)
    have c' := on_le (i := dist (cellAt ρ (1 - m)) c) (j := τ 3) (by unfold dist; omega) (by omega)
    by_cases y : dist (cellAt ρ (1 - m)) c ≤ τ 3
    · have c2 := iff_true_intro (c'.mpr y)
      rw [iB_f (fun q => q ⟨z, y⟩)] at hQ
      simp only [↓br_pos, ↓br_neg, ↓rF_I, ↓rF_L, ↓rF_R, ↓rF_N, rO_m, rB_m, ↓rI_m, wI_m, ↓rB2_m, ↓rB3_m, wB2_m, wB3_m, ↓rL_m, wL_m, ↓rQ_m, wQ_m, ↓lI_m, pI_m, pL_m, pR_m, sI_m, sBy_m, sBo_m, sL_m, sQ_m, fst_m, true_and, and_true, tg_some, ln_some, uI_1, uI_2, uL_1, uL_2, uL_3, uQ_1, uQ_2, uQ_3, rv_i, rv_l, rv_n, rv_b0, rv_b1, RMR, ne_eq, reduceCtorEq, not_false_eq_true, Option.getD_some, if_true, if_false, and_self, false_and, and_false, Nat.add_left_cancel_iff, Nat.add_eq_left, Nat.left_eq_add, Nat.one_ne_zero, Nat.reduceAdd, Nat.reduceLT, Nat.reduceLeDiff, Nat.reduceEqDiff, true_implies, false_implies, implies_true, Option.some.injEq, forall_eq', forall_eq, reduceCtorEq, brT, brF, br_s, i_10, i_01, ib_0_2, ib_1_2, tn_0, tn_1, Int32.le_refl, eq_self, rv_bN, rv_iM, RCM 81, RLY, lit_at hw, mx hm, g1, iB_t z, z10, g_171 hw hρ (by omega : 1 - m < 2) y0 hs hd, mt_3 hτ, abs_of (by omega : cellAt ρ (1 - m) < 2147483648) (by omega : c < 2147483648), c2]
      exact hQ
    · have c2 := iff_false_intro (fun q => y (c'.mp q))
      rw [iB_t (show frP τ ρ m p c from fun q => y q.2)] at hQ
      simp only [↓br_pos, ↓br_neg, ↓rF_I, ↓rF_L, ↓rF_R, ↓rF_N, rO_m, rB_m, ↓rI_m, wI_m, ↓rB2_m, ↓rB3_m, wB2_m, wB3_m, ↓rL_m, wL_m, ↓rQ_m, wQ_m, ↓lI_m, pI_m, pL_m, pR_m, sI_m, sBy_m, sBo_m, sL_m, sQ_m, fst_m, true_and, and_true, tg_some, ln_some, uI_1, uI_2, uL_1, uL_2, uL_3, uQ_1, uQ_2, uQ_3, rv_i, rv_l, rv_n, rv_b0, rv_b1, RMR, ne_eq, reduceCtorEq, not_false_eq_true, Option.getD_some, if_true, if_false, and_self, false_and, and_false, Nat.add_left_cancel_iff, Nat.add_eq_left, Nat.left_eq_add, Nat.one_ne_zero, Nat.reduceAdd, Nat.reduceLT, Nat.reduceLeDiff, Nat.reduceEqDiff, true_implies, false_implies, implies_true, Option.some.injEq, forall_eq', forall_eq, reduceCtorEq, brT, brF, br_s, i_10, i_01, ib_0_2, ib_1_2, tn_0, tn_1, Int32.le_refl, eq_self, rv_bN, rv_iM, RCM 81, RLY, lit_at hw, mx hm, g1, iB_t z, z10, g_171 hw hρ (by omega : 1 - m < 2) y0 hs hd, mt_3 hτ, abs_of (by omega : cellAt ρ (1 - m) < 2147483648) (by omega : c < 2147483648), c2]
      exact hQ
  · rw [iB_t (show frP τ ρ m p c from fun q => z q.1)] at hQ
    simp only [↓br_pos, ↓br_neg, ↓rF_I, ↓rF_L, ↓rF_R, ↓rF_N, rO_m, rB_m, ↓rI_m, wI_m, ↓rB2_m, ↓rB3_m, wB2_m, wB3_m, ↓rL_m, wL_m, ↓rQ_m, wQ_m, ↓lI_m, pI_m, pL_m, pR_m, sI_m, sBy_m, sBo_m, sL_m, sQ_m, fst_m, true_and, and_true, tg_some, ln_some, uI_1, uI_2, uL_1, uL_2, uL_3, uQ_1, uQ_2, uQ_3, rv_i, rv_l, rv_n, rv_b0, rv_b1, RMR, ne_eq, reduceCtorEq, not_false_eq_true, Option.getD_some, if_true, if_false, and_self, false_and, and_false, Nat.add_left_cancel_iff, Nat.add_eq_left, Nat.left_eq_add, Nat.one_ne_zero, Nat.reduceAdd, Nat.reduceLT, Nat.reduceLeDiff, Nat.reduceEqDiff, true_implies, false_implies, implies_true, Option.some.injEq, forall_eq', forall_eq, reduceCtorEq, brT, brF, br_s, i_10, i_01, ib_0_2, ib_1_2, tn_0, tn_1, Int32.le_refl, eq_self, rv_bN, rv_iM, RCM 81, RLY, lit_at hw, mx hm, g1, iB_f z, z00]
    exact hQ
