theorem rv_iM {a : Int32} : (rvOK (some .boolean) (some (.int (iM a))) = true) ↔ True := by
  rw [rv_b]; refine iff_true_intro ?_
  unfold iM; split <;> simp
theorem brQ_b {a : Int32} {n : Nat} {hp : Hp} {Q : Option (Option Value) → Hp → Prop} : br (0 ≤ a.toInt ∧ a.toInt < n) (Q (some (some (.int 1))) hp) (Q (some (some (.int 0))) hp) ↔ Q (some (some (.int (bN a n)))) hp := by
  unfold br bN
  split
  · rename_i h; exact ⟨fun q => q.1 h, fun q => ⟨fun _ => q, fun z => absurd h z⟩⟩
  · rename_i h; exact ⟨fun q => q.2 h, fun q => ⟨fun z => absurd z h, fun _ => q⟩⟩
theorem g_70 {w : mT} {σ : mS} {t n D : Nat} {a1 : Int32} {K : Int32 → Hp → Prop} (hT : isT w t) (hn : σ.1 t 2 = Int32.ofNat n) (hn2 : n < 2147483648) (hD : 1 ≤ D) : wpI D 70 [.ref t, .int a1] (mW w σ) K ↔ K (bN a1 n) (mW w σ) := by
  simp only [isT] at hT
  refine cI_of (m := 0) (fun d hd Q hQ => ?_) rfl hD
  refine b70_0 ?_
  simp only [↓rF_I, ↓rF_L, ↓rF_R, ↓rF_N, rO_m, rB_m, ↓rI_m, wI_m, ↓rB2_m, ↓rB3_m, wB2_m, wB3_m, ↓rL_m, wL_m, ↓rQ_m, wQ_m, ↓lI_m, pI_m, pL_m, pR_m, sI_m, sBy_m, sBo_m, sL_m, sQ_m, fst_m, true_and, and_true, tg_some, ln_some, uI_1, uI_2, uL_1, uL_2, uL_3, uQ_1, uQ_2, uQ_3, rv_i, rv_l, rv_n, rv_b0, rv_b1, RMR, ne_eq, reduceCtorEq, not_false_eq_true, Option.getD_some, if_true, if_false, and_self, false_and, and_false, Nat.add_left_cancel_iff, Nat.add_eq_left, Nat.left_eq_add, Nat.one_ne_zero, Nat.reduceAdd, Nat.reduceLT, Nat.reduceLeDiff, Nat.reduceEqDiff, true_implies, false_implies, implies_true, Option.some.injEq, forall_eq', forall_eq, reduceCtorEq, brT, brF, br_s, i_10, i_01, ib_0_2, ib_1_2, tn_0, tn_1, Int32.le_refl, eq_self, rv_bN, rv_iM, RCT t, hT, hn, ↓br_bN hn2, brQ_b]
  exact hQ
theorem g_71 {w : mT} {σ : mS} {t n D : Nat} {a1 : Int32} {K : Int32 → Hp → Prop} (hT : isT w t) (hn : σ.1 t 3 = Int32.ofNat n) (hn2 : n < 2147483648) (hD : 1 ≤ D) : wpI D 71 [.ref t, .int a1] (mW w σ) K ↔ K (bN a1 n) (mW w σ) := by
  simp only [isT] at hT
  refine cI_of (m := 0) (fun d hd Q hQ => ?_) rfl hD
  refine b71_0 ?_
  simp only [↓rF_I, ↓rF_L, ↓rF_R, ↓rF_N, rO_m, rB_m, ↓rI_m, wI_m, ↓rB2_m, ↓rB3_m, wB2_m, wB3_m, ↓rL_m, wL_m, ↓rQ_m, wQ_m, ↓lI_m, pI_m, pL_m, pR_m, sI_m, sBy_m, sBo_m, sL_m, sQ_m, fst_m, true_and, and_true, tg_some, ln_some, uI_1, uI_2, uL_1, uL_2, uL_3, uQ_1, uQ_2, uQ_3, rv_i, rv_l, rv_n, rv_b0, rv_b1, RMR, ne_eq, reduceCtorEq, not_false_eq_true, Option.getD_some, if_true, if_false, and_self, false_and, and_false, Nat.add_left_cancel_iff, Nat.add_eq_left, Nat.left_eq_add, Nat.one_ne_zero, Nat.reduceAdd, Nat.reduceLT, Nat.reduceLeDiff, Nat.reduceEqDiff, true_implies, false_implies, implies_true, Option.some.injEq, forall_eq', forall_eq, reduceCtorEq, brT, brF, br_s, i_10, i_01, ib_0_2, ib_1_2, tn_0, tn_1, Int32.le_refl, eq_self, rv_bN, rv_iM, RCT t, hT, hn, ↓br_bN hn2, brQ_b]
  exact hQ
theorem g_73 {w : mT} {σ : mS} {t n D : Nat} {a1 : Int32} {K : Int32 → Hp → Prop} (hT : isT w t) (hn : σ.1 t 4 = Int32.ofNat n) (hn2 : n < 2147483648) (hD : 1 ≤ D) : wpI D 73 [.ref t, .int a1] (mW w σ) K ↔ K (bN a1 n) (mW w σ) := by
  simp only [isT] at hT
  refine cI_of (m := 0) (fun d hd Q hQ => ?_) rfl hD
  refine b73_0 ?_
  simp only [↓rF_I, ↓rF_L, ↓rF_R, ↓rF_N, rO_m, rB_m, ↓rI_m, wI_m, ↓rB2_m, ↓rB3_m, wB2_m, wB3_m, ↓rL_m, wL_m, ↓rQ_m, wQ_m, ↓lI_m, pI_m, pL_m, pR_m, sI_m, sBy_m, sBo_m, sL_m, sQ_m, fst_m, true_and, and_true, tg_some, ln_some, uI_1, uI_2, uL_1, uL_2, uL_3, uQ_1, uQ_2, uQ_3, rv_i, rv_l, rv_n, rv_b0, rv_b1, RMR, ne_eq, reduceCtorEq, not_false_eq_true, Option.getD_some, if_true, if_false, and_self, false_and, and_false, Nat.add_left_cancel_iff, Nat.add_eq_left, Nat.left_eq_add, Nat.one_ne_zero, Nat.reduceAdd, Nat.reduceLT, Nat.reduceLeDiff, Nat.reduceEqDiff, true_implies, false_implies, implies_true, Option.some.injEq, forall_eq', forall_eq, reduceCtorEq, brT, brF, br_s, i_10, i_01, ib_0_2, ib_1_2, tn_0, tn_1, Int32.le_refl, eq_self, rv_bN, rv_iM, RCT t, hT, hn, ↓br_bN hn2, brQ_b]
  exact hQ
/-- a cell of a pile -/
def bC (τ : Rw) (p c : Int32) : Int32 := if (0 ≤ p.toInt ∧ p.toInt < (τ 1 : Nat)) ∧ 0 ≤ c.toInt ∧ c.toInt < (τ (28 + p.toNatClampNeg) : Nat) then 1 else 0
theorem rv_bC {τ : Rw} {p c : Int32} : (rvOK (some .boolean) (some (.int (bC τ p c))) = true) ↔ True := by
  rw [rv_b]; refine iff_true_intro ?_
  unfold bC; split <;> simp
theorem g_72 {w : mT} {σ : mS} {t D : Nat} {τ : Rw} {a1 a2 : Int32} {K : Int32 → Hp → Prop} (hT : isT w t) (hτ : tTold σ t τ) (hv : vTold τ) (hD : 2 ≤ D) : wpI D 72 [.ref t, .int a1, .int a2] (mW w σ) K ↔ K (bC τ a1 a2) (mW w σ) := by
  have hT' := hT
  simp only [isT] at hT
  refine cI_of (m := 1) (fun d hd Q hQ => ?_) rfl hD
  have hd1 : 1 ≤ d := by omega
  refine b72_0 ?_
  have v1 := hv.2.1
  by_cases h : 0 ≤ a1.toInt ∧ a1.toInt < (τ 1 : Nat)
  · obtain ⟨i, rfl, hi⟩ := ex_on h
    have e := hτ.2.2.2.2.2.1 i hi
    have v2 := (hv.2.2.2.2.2.1 i hi).2
    have eb : inB (Int32.ofNat i) 3 = true := on_inB (by omega) (by omega)
    have en := on_nat (i := i) (by omega)
    unfold bC at hQ
    rw [en] at hQ
    simp only [↓rF_I, ↓rF_L, ↓rF_R, ↓rF_N, rO_m, rB_m, ↓rI_m, wI_m, ↓rB2_m, ↓rB3_m, wB2_m, wB3_m, ↓rL_m, wL_m, ↓rQ_m, wQ_m, ↓lI_m, pI_m, pL_m, pR_m, sI_m, sBy_m, sBo_m, sL_m, sQ_m, fst_m, true_and, and_true, tg_some, ln_some, uI_1, uI_2, uL_1, uL_2, uL_3, uQ_1, uQ_2, uQ_3, rv_i, rv_l, rv_n, rv_b0, rv_b1, RMR, ne_eq, reduceCtorEq, not_false_eq_true, Option.getD_some, if_true, if_false, and_self, false_and, and_false, Nat.add_left_cancel_iff, Nat.add_eq_left, Nat.left_eq_add, Nat.one_ne_zero, Nat.reduceAdd, Nat.reduceLT, Nat.reduceLeDiff, Nat.reduceEqDiff, true_implies, false_implies, implies_true, Option.some.injEq, forall_eq', forall_eq, reduceCtorEq, brT, brF, br_s, i_10, i_01, ib_0_2, ib_1_2, tn_0, tn_1, Int32.le_refl, eq_self, rv_bN, rv_iM, hd1, RCT t, hT, g_71 hT' hτ.2.2.1 (by omega : τ 1 < 2147483648), bN_t h, eb, en, e, ↓br_bN (show τ (28 + i) < 2147483648 by omega)]
    refine ⟨fun q => ?_, fun q => ?_⟩
    · rw [if_pos ⟨h, q⟩] at hQ; exact hQ
    · rw [if_neg (fun z => q z.2)] at hQ; exact hQ
  · unfold bC at hQ
    rw [if_neg (fun z => h z.1)] at hQ
    simp only [↓rF_I, ↓rF_L, ↓rF_R, ↓rF_N, rO_m, rB_m, ↓rI_m, wI_m, ↓rB2_m, ↓rB3_m, wB2_m, wB3_m, ↓rL_m, wL_m, ↓rQ_m, wQ_m, ↓lI_m, pI_m, pL_m, pR_m, sI_m, sBy_m, sBo_m, sL_m, sQ_m, fst_m, true_and, and_true, tg_some, ln_some, uI_1, uI_2, uL_1, uL_2, uL_3, uQ_1, uQ_2, uQ_3, rv_i, rv_l, rv_n, rv_b0, rv_b1, RMR, ne_eq, reduceCtorEq, not_false_eq_true, Option.getD_some, if_true, if_false, and_self, false_and, and_false, Nat.add_left_cancel_iff, Nat.add_eq_left, Nat.left_eq_add, Nat.one_ne_zero, Nat.reduceAdd, Nat.reduceLT, Nat.reduceLeDiff, Nat.reduceEqDiff, true_implies, false_implies, implies_true, Option.some.injEq, forall_eq', forall_eq, reduceCtorEq, brT, brF, br_s, i_10, i_01, ib_0_2, ib_1_2, tn_0, tn_1, Int32.le_refl, eq_self, rv_bN, rv_iM, hd1, RCT t, hT, g_71 hT' hτ.2.2.1 (by omega : τ 1 < 2147483648), bN_f h]
    exact hQ
theorem bC_t {τ : Rw} {p c : Nat} (h : p < τ 1) (hv : vTold τ) (h2 : c < τ (28 + p)) : bC τ (Int32.ofNat p) (Int32.ofNat c) = 1 := by
  have v1 := hv.2.1
  have v2 := (hv.2.2.2.2.2.1 p h).2
  unfold bC
  rw [on_nat (by omega), on_int (by omega), on_int (by omega)]
  exact if_pos ⟨⟨by omega, by omega⟩, by omega, by omega⟩
/-- which are cells -/
theorem bC_ex {τ : Rw} {p c : Int32} (hv : vTold τ) (h : bC τ p c = 1) : ∃ i j, p = Int32.ofNat i ∧ c = Int32.ofNat j ∧ i < τ 1 ∧ j < τ (28 + i) := by
  unfold bC at h
  split at h
  · rename_i h1
    obtain ⟨i, rfl, hi⟩ := ex_on h1.1
    have v1 := hv.2.1
    rw [on_nat (by omega)] at h1
    obtain ⟨j, rfl, hj⟩ := ex_on h1.2
    exact ⟨i, j, rfl, rfl, hi, hj⟩
  · exact absurd h (by decide)
theorem bC_01 {τ : Rw} {p c : Int32} : bC τ p c = 0 ∨ bC τ p c = 1 := by
  unfold bC; split
  · exact Or.inr rfl
  · exact Or.inl rfl
theorem bN_01 {a : Int32} {n : Nat} : bN a n = 0 ∨ bN a n = 1 := by
  unfold bN; split
  · exact Or.inr rfl
  · exact Or.inl rfl
theorem bN_ex {a : Int32} {n : Nat} (h : bN a n = 1) : ∃ i, a = Int32.ofNat i ∧ i < n := by
  unfold bN at h
  split at h
  · rename_i h1; exact ex_on h1
  · exact absurd h (by decide)
/-! State: where a machine stands -/
def sP (ρ : Rw) (m : Nat) : Int32 := if ρ (2 + m) = 0 then -1 else Int32.ofNat ((ρ (2 + m) - 1) / 100)
def sCe (ρ : Rw) (m : Nat) : Int32 := if ρ (2 + m) = 0 then -1 else Int32.ofNat ((ρ (2 + m) - 1) % 100)
theorem of_div {a : Nat} (ha : a < 2147483648) : Int32.ofNat a / 100 = Int32.ofNat (a / 100) := by
  apply Int32.toInt_inj.mp
  rw [Int32.toInt_div, on_int ha, on_int (by omega), show (100 : Int32).toInt = 100 by decide]
  have e : (a : Int).tdiv 100 = ((a / 100 : Nat) : Int) := by rw [Int.tdiv_eq_ediv_of_nonneg (by omega)]; rfl
  rw [e]
  show Int.bmod ((a / 100 : Nat) : Int) 4294967296 = _
  exact Int.bmod_eq_of_le (by omega) (by omega)
theorem of_mod {a : Nat} (ha : a < 2147483648) : Int32.ofNat a - Int32.ofNat a / 100 * 100 = Int32.ofNat (a % 100) := by
  rw [of_div ha, show (100 : Int32) = Int32.ofNat 100 from rfl, of_mul, of_sub (by omega)]
  congr 1
  omega
theorem st_m1 {a : Nat} (h : a ≠ 0) : Int32.ofNat a - 1 = Int32.ofNat (a - 1) := by
  rw [show (1 : Int32) = Int32.ofNat 1 from rfl]
  exact of_sub (by omega)
theorem on_m1 {a : Nat} (h : a < 2147483648) : (Int32.ofNat a = -1) ↔ False := by
  refine iff_false_intro (fun q => ?_)
  have q2 := congrArg Int32.toInt q
  rw [on_int h, show (-1 : Int32).toInt = -1 by decide] at q2
  omega
theorem onP_lt {τ ρ : Rw} {m : Nat} (hv : vTold τ) (h : onP τ ρ m) : ρ (2 + m) < 1000 := by
  rcases h with h | ⟨p, c, h1, h2, h3⟩
  · omega
  · have v1 := hv.2.1
    have v2 := (hv.2.2.2.2.2.1 p h1).2
    omega
theorem g_52 {w : mT} {σ : mS} {r m D : Nat} {τ ρ : Rw} {K : Int32 → Hp → Prop} (hR : isS w r) (hρ : tSt σ r τ ρ) (hm : m < 2) (hs : ρ (2 + m) < 1000) (hD : 1 ≤ D) : wpI D 52 [.ref r, .int (Int32.ofNat m)] (mW w σ) K ↔ K (sP ρ m) (mW w σ) := by
  simp only [isS] at hR
  refine cI_of (m := 0) (fun d hd Q hQ => ?_) rfl hD
  refine b52_0 ?_
  have e := (hρ.2.2.2.2.2.2.2.1 m hm).1
  have eb : inB (Int32.ofNat m) 2 = true := on_inB hm (by omega)
  have en := on_nat (i := m) (by omega)
  have e100 : ((100 : Int32) = 0) ↔ False := iff_false_intro (by decide)
  unfold sP at hQ
  by_cases h : ρ (2 + m) = 0
  · rw [if_pos h] at hQ
    have e' : σ.1 (r + 8) m = -1 := by rw [e, h]; decide
    simp only [↓rF_I, ↓rF_L, ↓rF_R, ↓rF_N, rO_m, rB_m, ↓rI_m, wI_m, ↓rB2_m, ↓rB3_m, wB2_m, wB3_m, ↓rL_m, wL_m, ↓rQ_m, wQ_m, ↓lI_m, pI_m, pL_m, pR_m, sI_m, sBy_m, sBo_m, sL_m, sQ_m, fst_m, true_and, and_true, tg_some, ln_some, uI_1, uI_2, uL_1, uL_2, uL_3, uQ_1, uQ_2, uQ_3, rv_i, rv_l, rv_n, rv_b0, rv_b1, RMR, ne_eq, reduceCtorEq, not_false_eq_true, Option.getD_some, if_true, if_false, and_self, false_and, and_false, Nat.add_left_cancel_iff, Nat.add_eq_left, Nat.left_eq_add, Nat.one_ne_zero, Nat.reduceAdd, Nat.reduceLT, Nat.reduceLeDiff, Nat.reduceEqDiff, true_implies, false_implies, implies_true, Option.some.injEq, forall_eq', forall_eq, reduceCtorEq, brT, brF, br_s, i_10, i_01, ib_0_2, ib_1_2, tn_0, tn_1, Int32.le_refl, eq_self, rv_bN, rv_iM, RCS r, hR, eb, en, e']
    exact hQ
  · rw [if_neg h] at hQ
    have e' : σ.1 (r + 8) m = Int32.ofNat (ρ (2 + m) - 1) := by rw [e, st_m1 h]
    simp only [↓rF_I, ↓rF_L, ↓rF_R, ↓rF_N, rO_m, rB_m, ↓rI_m, wI_m, ↓rB2_m, ↓rB3_m, wB2_m, wB3_m, ↓rL_m, wL_m, ↓rQ_m, wQ_m, ↓lI_m, pI_m, pL_m, pR_m, sI_m, sBy_m, sBo_m, sL_m, sQ_m, fst_m, true_and, and_true, tg_some, ln_some, uI_1, uI_2, uL_1, uL_2, uL_3, uQ_1, uQ_2, uQ_3, rv_i, rv_l, rv_n, rv_b0, rv_b1, RMR, ne_eq, reduceCtorEq, not_false_eq_true, Option.getD_some, if_true, if_false, and_self, false_and, and_false, Nat.add_left_cancel_iff, Nat.add_eq_left, Nat.left_eq_add, Nat.one_ne_zero, Nat.reduceAdd, Nat.reduceLT, Nat.reduceLeDiff, Nat.reduceEqDiff, true_implies, false_implies, implies_true, Option.some.injEq, forall_eq', forall_eq, reduceCtorEq, brT, brF, br_s, i_10, i_01, ib_0_2, ib_1_2, tn_0, tn_1, Int32.le_refl, eq_self, rv_bN, rv_iM, RCS r, hR, eb, en, e', on_m1 (show ρ (2 + m) - 1 < 2147483648 by omega), e100, of_div (a := ρ (2 + m) - 1) (by omega)]
    exact hQ
theorem g_53 {w : mT} {σ : mS} {r m D : Nat} {τ ρ : Rw} {K : Int32 → Hp → Prop} (hR : isS w r) (hρ : tSt σ r τ ρ) (hm : m < 2) (hs : ρ (2 + m) < 1000) (hD : 1 ≤ D) : wpI D 53 [.ref r, .int (Int32.ofNat m)] (mW w σ) K ↔ K (sCe ρ m) (mW w σ) := by
  simp only [isS] at hR
  refine cI_of (m := 0) (fun d hd Q hQ => ?_) rfl hD
  refine b53_0 ?_
  have e := (hρ.2.2.2.2.2.2.2.1 m hm).1
  have eb : inB (Int32.ofNat m) 2 = true := on_inB hm (by omega)
  have en := on_nat (i := m) (by omega)
  have e100 : ((100 : Int32) = 0) ↔ False := iff_false_intro (by decide)
  unfold sCe at hQ
  by_cases h : ρ (2 + m) = 0
  · rw [if_pos h] at hQ
    have e' : σ.1 (r + 8) m = -1 := by rw [e, h]; decide
    simp only [↓rF_I, ↓rF_L, ↓rF_R, ↓rF_N, rO_m, rB_m, ↓rI_m, wI_m, ↓rB2_m, ↓rB3_m, wB2_m, wB3_m, ↓rL_m, wL_m, ↓rQ_m, wQ_m, ↓lI_m, pI_m, pL_m, pR_m, sI_m, sBy_m, sBo_m, sL_m, sQ_m, fst_m, true_and, and_true, tg_some, ln_some, uI_1, uI_2, uL_1, uL_2, uL_3, uQ_1, uQ_2, uQ_3, rv_i, rv_l, rv_n, rv_b0, rv_b1, RMR, ne_eq, reduceCtorEq, not_false_eq_true, Option.getD_some, if_true, if_false, and_self, false_and, and_false, Nat.add_left_cancel_iff, Nat.add_eq_left, Nat.left_eq_add, Nat.one_ne_zero, Nat.reduceAdd, Nat.reduceLT, Nat.reduceLeDiff, Nat.reduceEqDiff, true_implies, false_implies, implies_true, Option.some.injEq, forall_eq', forall_eq, reduceCtorEq, brT, brF, br_s, i_10, i_01, ib_0_2, ib_1_2, tn_0, tn_1, Int32.le_refl, eq_self, rv_bN, rv_iM, RCS r, hR, eb, en, e']
    exact hQ
  · rw [if_neg h] at hQ
    have e' : σ.1 (r + 8) m = Int32.ofNat (ρ (2 + m) - 1) := by rw [e, st_m1 h]
    simp only [↓rF_I, ↓rF_L, ↓rF_R, ↓rF_N, rO_m, rB_m, ↓rI_m, wI_m, ↓rB2_m, ↓rB3_m, wB2_m, wB3_m, ↓rL_m, wL_m, ↓rQ_m, wQ_m, ↓lI_m, pI_m, pL_m, pR_m, sI_m, sBy_m, sBo_m, sL_m, sQ_m, fst_m, true_and, and_true, tg_some, ln_some, uI_1, uI_2, uL_1, uL_2, uL_3, uQ_1, uQ_2, uQ_3, rv_i, rv_l, rv_n, rv_b0, rv_b1, RMR, ne_eq, reduceCtorEq, not_false_eq_true, Option.getD_some, if_true, if_false, and_self, false_and, and_false, Nat.add_left_cancel_iff, Nat.add_eq_left, Nat.left_eq_add, Nat.one_ne_zero, Nat.reduceAdd, Nat.reduceLT, Nat.reduceLeDiff, Nat.reduceEqDiff, true_implies, false_implies, implies_true, Option.some.injEq, forall_eq', forall_eq, reduceCtorEq, brT, brF, br_s, i_10, i_01, ib_0_2, ib_1_2, tn_0, tn_1, Int32.le_refl, eq_self, rv_bN, rv_iM, RCS r, hR, eb, en, e', on_m1 (show ρ (2 + m) - 1 < 2147483648 by omega), e100, of_mod (a := ρ (2 + m) - 1) (by omega)]
    exact hQ
theorem g_50 {w : mT} {σ : mS} {a0 a1 : Int32} {D : Nat} {K : Int32 → Hp → Prop} (hD : 1 ≤ D) : wpI D 50 [.int a0, .int a1] (mW w σ) K ↔ K (a0 * 60 + a1) (mW w σ) :=
  cI_of (m := 0) (fun d hd Q hQ => b50_0 ⟨rfl, hQ⟩) rfl hD
theorem g_51 {w : mT} {σ : mS} {a0 a1 a2 : Int32} {D : Nat} {K : Int32 → Hp → Prop} (hD : 1 ≤ D) : wpI D 51 [.int a0, .int a1, .int a2] (mW w σ) K ↔ K ((a0 * 60 + a1) * 12 + a2) (mW w σ) :=
  cI_of (m := 0) (fun d hd Q hQ => b51_0 ⟨rfl, hQ⟩) rfl hD
theorem pl_of {p k c : Nat} : (Int32.ofNat p * 60 + Int32.ofNat k) * 12 + Int32.ofNat c = Int32.ofNat ((p * 60 + k) * 12 + c) := by
  rw [show (60 : Int32) = Int32.ofNat 60 from rfl, show (12 : Int32) = Int32.ofNat 12 from rfl, of_mul, of_add, of_mul, of_add]
theorem ro_of {p k : Nat} : Int32.ofNat p * 60 + Int32.ofNat k = Int32.ofNat (p * 60 + k) := by
  rw [show (60 : Int32) = Int32.ofNat 60 from rfl, of_mul, of_add]
/-- tonnes on a cell -/
theorem lp_56 {w : mT} {σ : mS} {r p c d : Nat} {τ ρ : Rw} {Q : Option (Option Value) → Hp → Prop} (hR : isS w r) (hρ : tSt σ r τ ρ) (hv : vRow τ ρ) (hp : p < 3) (hc : c < 12) (hd : 1 ≤ d) (hQ : Q (some (some (.int (Int32.ofNat (tOn ρ p c))))) (mW w σ)) : ∀ n i : Nat, i + n = ρ (24 + p) → Wp 56 5 [.ref r, .int (Int32.ofNat p), .int (Int32.ofNat c), .int (Int32.ofNat (sm i (fun k => ρ (li p k c)))), .int (Int32.ofNat i)] [] (mW w σ) Q d := by
  simp only [isS] at hR
  have h60 := hv.2.2.2.2.2.2.2.1 p hp
  have e1 := hρ.2.2.2.1 p hp
  have eb : inB (Int32.ofNat p) 3 = true := on_inB hp (by omega)
  have en := on_nat (i := p) (by omega)
  intro n
  induction n with
  | zero =>
    intro i hi
    have hi' : i = ρ (24 + p) := by omega
    subst hi'
    refine b56_5 ?_
    simp only [↓rF_I, ↓rF_L, ↓rF_R, ↓rF_N, rO_m, rB_m, ↓rI_m, wI_m, ↓rB2_m, ↓rB3_m, wB2_m, wB3_m, ↓rL_m, wL_m, ↓rQ_m, wQ_m, ↓lI_m, pI_m, pL_m, pR_m, sI_m, sBy_m, sBo_m, sL_m, sQ_m, fst_m, true_and, and_true, tg_some, ln_some, uI_1, uI_2, uL_1, uL_2, uL_3, uQ_1, uQ_2, uQ_3, rv_i, rv_l, rv_n, rv_b0, rv_b1, RMR, ne_eq, reduceCtorEq, not_false_eq_true, Option.getD_some, if_true, if_false, and_self, false_and, and_false, Nat.add_left_cancel_iff, Nat.add_eq_left, Nat.left_eq_add, Nat.one_ne_zero, Nat.reduceAdd, Nat.reduceLT, Nat.reduceLeDiff, Nat.reduceEqDiff, true_implies, false_implies, implies_true, Option.some.injEq, forall_eq', forall_eq, reduceCtorEq, brT, brF, br_s, i_10, i_01, ib_0_2, ib_1_2, tn_0, tn_1, Int32.le_refl, eq_self, rv_bN, rv_iM, RCS r, hR, eb, en, e1, Int32.le_refl]
    exact hQ
  | succ n ih =>
    intro i hi
    have l1 : ¬ Int32.ofNat (ρ (24 + p)) ≤ Int32.ofNat i := by
      intro q; exact absurd ((on_le (by omega) (by omega)).mp q) (by omega)
    have e2 := hρ.2.2.2.2.2.1 p hp i (by omega) c hc
    have eb2 : inB (Int32.ofNat ((p * 60 + i) * 12 + c)) 2160 = true := on_inB (by omega) (by omega)
    have en2 := on_nat (i := (p * 60 + i) * 12 + c) (by omega)
    refine b56_5 ?_
    simp only [↓rF_I, ↓rF_L, ↓rF_R, ↓rF_N, rO_m, rB_m, ↓rI_m, wI_m, ↓rB2_m, ↓rB3_m, wB2_m, wB3_m, ↓rL_m, wL_m, ↓rQ_m, wQ_m, ↓lI_m, pI_m, pL_m, pR_m, sI_m, sBy_m, sBo_m, sL_m, sQ_m, fst_m, true_and, and_true, tg_some, ln_some, uI_1, uI_2, uL_1, uL_2, uL_3, uQ_1, uQ_2, uQ_3, rv_i, rv_l, rv_n, rv_b0, rv_b1, RMR, ne_eq, reduceCtorEq, not_false_eq_true, Option.getD_some, if_true, if_false, and_self, false_and, and_false, Nat.add_left_cancel_iff, Nat.add_eq_left, Nat.left_eq_add, Nat.one_ne_zero, Nat.reduceAdd, Nat.reduceLT, Nat.reduceLeDiff, Nat.reduceEqDiff, true_implies, false_implies, implies_true, Option.some.injEq, forall_eq', forall_eq, reduceCtorEq, brT, brF, br_s, i_10, i_01, ib_0_2, ib_1_2, tn_0, tn_1, Int32.le_refl, eq_self, rv_bN, rv_iM, RCS r, hR, eb, en, e1, l1, g_51 hd, pl_of, eb2, en2, e2, of_add, on_succ]
    have e3 : sm i (fun k => ρ (li p k c)) + ρ (311 + ((60 * p + i) * 12 + c)) = sm (i + 1) (fun k => ρ (li p k c)) := rfl
    rw [e3]
    exact ih (i + 1) (by omega)
theorem g_56 {w : mT} {σ : mS} {r p c D : Nat} {τ ρ : Rw} {K : Int32 → Hp → Prop} (hR : isS w r) (hρ : tSt σ r τ ρ) (hv : vRow τ ρ) (hp : p < 3) (hc : c < 12) (hD : 2 ≤ D) : wpI D 56 [.ref r, .int (Int32.ofNat p), .int (Int32.ofNat c)] (mW w σ) K ↔ K (Int32.ofNat (tOn ρ p c)) (mW w σ) :=
  cI_of (m := 1) (fun d hd Q hQ => b56_0 (lp_56 hR hρ hv hp hc hd hQ (ρ (24 + p)) 0 (Nat.zero_add _))) rfl hD
