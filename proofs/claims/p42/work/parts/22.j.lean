section
/-! what both sides stand for: a TEXT as numbers (tau, as the model's told), a state as numbers (rho, as the model's now) -/
abbrev Rw : Type := Nat → Nat
def rSet (ρ : Rw) (j x : Nat) : Rw := fun i => if i = j then x else ρ i
theorem rSet_1 {ρ : Rw} {j x i : Nat} : rSet ρ j x i = if i = j then x else ρ i := rfl
/-- the class's TOLD at t says tau -/
def tTold (σ : mS) (t : Nat) (τ : Rw) : Prop :=
  σ.1 t 1 = Int32.ofNat (τ 3) ∧ σ.1 t 2 = Int32.ofNat (τ 0) ∧ σ.1 t 3 = Int32.ofNat (τ 1) ∧ σ.1 t 4 = Int32.ofNat (τ 2) ∧
  (∀ l, l < τ 0 → σ.1 (t + 1) l = Int32.ofNat (τ (4 + l)) ∧ σ.1 (t + 2) l = Int32.ofNat (τ (16 + l))) ∧
  (∀ p, p < τ 1 → σ.1 (t + 3) p = Int32.ofNat (τ (28 + p))) ∧
  (∀ s, s < τ 2 → σ.1 (t + 4) s = Int32.ofNat (τ (31 + 6 * s)) ∧ σ.1 (t + 5) s = Int32.ofNat (τ (31 + 6 * s + 1)) ∧ σ.1 (t + 6) s = Int32.ofNat (τ (31 + 6 * s + 2)) ∧ σ.1 (t + 7) s = Int32.ofNat (τ (31 + 6 * s + 3)) ∧ σ.1 (t + 8) s = Int32.ofNat (τ (31 + 6 * s + 4)) ∧ σ.1 (t + 9) s = Int32.ofNat (τ (31 + 6 * s + 5)))
/-- what a TEXT can say -/
def vTold (τ : Rw) : Prop := τ 0 ≤ 12 ∧ τ 1 ≤ 3 ∧ τ 2 ≤ 8 ∧ τ 3 ≤ 3 ∧ (∀ l, l < τ 0 → 1 ≤ τ (4 + l) ∧ τ (4 + l) ≤ 9999 ∧ τ (16 + l) ≤ 999) ∧ (∀ p, p < τ 1 → 2 ≤ τ (28 + p) ∧ τ (28 + p) ≤ 12) ∧
  (∀ s, s < τ 2 → (1 ≤ τ (31 + 6 * s) ∧ τ (31 + 6 * s) ≤ 999) ∧ τ (31 + 6 * s + 1) ≤ 999 ∧ τ (31 + 6 * s + 2) ≤ 999 ∧ (1 ≤ τ (31 + 6 * s + 3) ∧ τ (31 + 6 * s + 3) ≤ 99) ∧ (1 ≤ τ (31 + 6 * s + 4) ∧ τ (31 + 6 * s + 4) ≤ 20) ∧ τ (31 + 6 * s + 5) ≤ 999)
/-- the class's State at r is the row rho -/
def tSt (σ : mS) (r : Nat) (τ ρ : Rw) : Prop :=
  σ.1 r 0 = Int32.ofNat (ρ 0) ∧ σ.1 r 1 = Int32.ofNat (ρ 1) ∧
  (∀ l, l < τ 0 → σ.1 (r + 1) l = Int32.ofNat (ρ (12 + l))) ∧
  (∀ p, p < 3 → σ.1 (r + 2) p = Int32.ofNat (ρ (24 + p))) ∧
  (∀ p, p < 3 → ∀ k, k < ρ (24 + p) → σ.1 (r + 3) (p * 60 + k) = Int32.ofNat (ρ (131 + (60 * p + k)))) ∧
  (∀ p, p < 3 → ∀ k, k < ρ (24 + p) → ∀ c, c < 12 → σ.1 (r + 4) ((p * 60 + k) * 12 + c) = Int32.ofNat (ρ (311 + ((60 * p + k) * 12 + c)))) ∧
  (∀ s, s < τ 2 → σ.1 (r + 5) s = Int32.ofNat (ρ (27 + s)) ∧ σ.1 (r + 6) s = Int32.ofNat (ρ (35 + s)) ∧ σ.1 (r + 7) s = Int32.ofNat (ρ (43 + s)) - 1) ∧
  (∀ m, m < 2 → σ.1 (r + 8) m = Int32.ofNat (ρ (2 + m)) - 1 ∧ σ.1 (r + 9) m = Int32.ofNat (ρ (4 + m)) ∧ σ.1 (r + 10) m = Int32.ofNat (ρ (6 + m)) ∧ σ.1 (r + 11) m = Int32.ofNat (ρ (8 + m)) ∧ σ.1 (r + 12) m = Int32.ofNat (ρ (10 + m))) ∧
  (∀ i, i < ρ 10 → σ.1 (r + 13) (6 * i) = Int32.ofNat (ρ (51 + 7 * i)) ∧ σ.1 (r + 13) (6 * i + 1) = Int32.ofNat (ρ (51 + 7 * i + 1)) ∧ σ.1 (r + 13) (6 * i + 2) = Int32.ofNat (ρ (51 + 7 * i + 5)) ∧ σ.1 (r + 13) (6 * i + 3) = Int32.ofNat (ρ (51 + 7 * i + 3)) ∧ σ.1 (r + 13) (6 * i + 4) = Int32.ofNat (ρ (51 + 7 * i + 4)) ∧ σ.1 (r + 13) (6 * i + 5) = Int32.ofNat (ρ (51 + 7 * i + 6)) - 1) ∧
  (∀ i, i < ρ 11 → σ.1 (r + 13) (48 + 6 * i) = Int32.ofNat (ρ (107 + 3 * i)) ∧ σ.1 (r + 13) (48 + 6 * i + 1) = Int32.ofNat (ρ (107 + 3 * i + 2)) ∧ σ.1 (r + 13) (48 + 6 * i + 2) = Int32.ofNat (ρ (107 + 3 * i + 1)))
/-- sums -/
def sm (n : Nat) (f : Nat → Nat) : Nat := match n with
  | 0 => 0
  | n + 1 => sm n f + f n
theorem sm_0 {f : Nat → Nat} : sm 0 f = 0 := rfl
theorem sm_s {n : Nat} {f : Nat → Nat} : sm (n + 1) f = sm n f + f n := rfl
theorem sm_le {n : Nat} {f g : Nat → Nat} (h : ∀ i, i < n → f i ≤ g i) : sm n f ≤ sm n g := by
  induction n with
  | zero => exact Nat.le_refl _
  | succ n ih => rw [sm_s, sm_s]; exact Nat.add_le_add (ih (fun i hi => h i (by omega))) (h n (by omega))
theorem sm_eq {n : Nat} {f g : Nat → Nat} (h : ∀ i, i < n → f i = g i) : sm n f = sm n g := by
  induction n with
  | zero => rfl
  | succ n ih => rw [sm_s, sm_s, ih (fun i hi => h i (by omega)), h n (by omega)]
theorem sm_one {n i : Nat} {f : Nat → Nat} (h : i < n) : f i ≤ sm n f := by
  induction n with
  | zero => omega
  | succ n ih =>
    rw [sm_s]
    by_cases e : i = n
    · subst e; omega
    · have := ih (by omega); omega
theorem sm_add {n : Nat} {f g : Nat → Nat} : sm n (fun i => f i + g i) = sm n f + sm n g := by
  induction n with
  | zero => rfl
  | succ n ih => simp only [sm_s, ih]; omega
theorem sm_z {n : Nat} {f : Nat → Nat} (h : ∀ i, i < n → f i = 0) : sm n f = 0 := by
  induction n with
  | zero => rfl
  | succ n ih => rw [sm_s, ih (fun i hi => h i (by omega)), h n (by omega)]
theorem sm_swap {n m : Nat} {f : Nat → Nat → Nat} : sm n (fun i => sm m (f i)) = sm m (fun j => sm n (fun i => f i j)) := by
  induction n with
  | zero => exact (sm_z (fun _ _ => rfl)).symm
  | succ n ih => simp only [sm_s, ih, sm_add]
theorem sm_mul {n c : Nat} {f : Nat → Nat} : sm n (fun i => c * f i) = c * sm n f := by
  induction n with
  | zero => rfl
  | succ n ih => simp only [sm_s, ih, Nat.mul_add]
theorem sm_mono {n m : Nat} {f : Nat → Nat} (h : n ≤ m) : sm n f ≤ sm m f := by
  induction m with
  | zero => have : n = 0 := by omega
            subst this; exact Nat.le_refl _
  | succ m ih =>
    by_cases e : n = m + 1
    · subst e; exact Nat.le_refl _
    · rw [sm_s]; have := ih (by omega); omega
theorem sm_upd {n i x : Nat} {f : Nat → Nat} (h : i < n) : sm n (fun j => if j = i then x else f j) + f i = sm n f + x := by
  induction n with
  | zero => omega
  | succ n ih =>
    rw [sm_s, sm_s]
    by_cases e : i = n
    · subst e
      rw [if_pos rfl, sm_eq (g := f) (fun j hj => if_neg (by omega))]
      omega
    · rw [if_neg (by omega)]; have := ih (by omega); omega
/-- where a tonne lies -/
def li (p k c : Nat) : Nat := 311 + ((60 * p + k) * 12 + c)
def lo (p k : Nat) : Nat := 131 + (60 * p + k)
/-- tonnes on a cell, and times their grades -/
def tOn (ρ : Rw) (p c : Nat) : Nat := sm (ρ (24 + p)) (fun k => ρ (li p k c))
def gOn (τ ρ : Rw) (p c : Nat) : Nat := sm (ρ (24 + p)) (fun k => ρ (li p k c) * τ (16 + ρ (lo p k)))
def tPi (τ ρ : Rw) (p : Nat) : Nat := sm (τ (28 + p)) (tOn ρ p)
def gPi (τ ρ : Rw) (p : Nat) : Nat := sm (τ (28 + p)) (gOn τ ρ p)
/-- all tonnes -/
def allT (τ ρ : Rw) : Nat := sm (τ 0) (fun l => ρ (12 + l)) + sm 3 (fun p => sm 12 (fun c => tOn ρ p c)) + sm (τ 2) (fun s => ρ (27 + s))
def onP (τ ρ : Rw) (m : Nat) : Prop := ρ (2 + m) = 0 ∨ ∃ p c, p < τ 1 ∧ c < τ (28 + p) ∧ ρ (2 + m) = 100 * p + c + 1
/-- what a state can be -/
def vRow (τ ρ : Rw) : Prop :=
  ρ 0 ≤ 999 ∧ onP τ ρ 0 ∧ onP τ ρ 1 ∧ ρ 6 ≤ 10 ∧ ρ 7 ≤ 10 ∧ ρ 10 ≤ 8 ∧ ρ 11 ≤ 8 ∧ (∀ p, p < 3 → ρ (24 + p) ≤ 60) ∧
  (∀ p, p < 3 → ∀ k, k < ρ (24 + p) → ρ (lo p k) < τ 0) ∧
  (∀ p, p < 3 → ∀ k, ρ (24 + p) ≤ k → k < 60 → ∀ c, c < 12 → ρ (li p k c) = 0) ∧
  allT τ ρ ≤ 119988 ∧ (∀ s, s < τ 2 → ρ (35 + s) ≤ 999 * ρ (27 + s)) ∧ (∀ s, s < τ 2 → ρ (43 + s) ≤ 1000) ∧
  (∀ i, i < ρ 10 → ρ (51 + 7 * i) < τ 1 ∧ ρ (51 + 7 * i + 1) < τ 0 ∧ ρ (51 + 7 * i + 3) < τ (28 + ρ (51 + 7 * i)) ∧ ρ (51 + 7 * i + 5) < τ (28 + ρ (51 + 7 * i)) ∧ (1 ≤ ρ (51 + 7 * i + 4) ∧ ρ (51 + 7 * i + 4) ≤ 99) ∧ (ρ (51 + 7 * i + 6) = 0 ∨ (ρ (51 + 7 * i + 6) ≤ ρ (24 + ρ (51 + 7 * i)) ∧ ρ (lo (ρ (51 + 7 * i)) (ρ (51 + 7 * i + 6) - 1)) = ρ (51 + 7 * i + 1)))) ∧
  (∀ i, i < ρ 11 → ρ (107 + 3 * i) < τ 1 ∧ ρ (107 + 3 * i + 1) < τ (28 + ρ (107 + 3 * i)) ∧ ρ (107 + 3 * i + 2) < τ 2)
/-- the model's side -/
def mTold (σ : mS) (τ : Rw) : Prop := ∀ j, j < 79 → σ.1 83 j = Int32.ofNat (τ j)
def mRow (σ : mS) (a o : Nat) (ρ : Rw) : Prop := ∀ j, j < 2471 → σ.1 a (o + j) = Int32.ofNat (ρ j)
/-! numbers -/
theorem of_add {a b : Nat} : Int32.ofNat a + Int32.ofNat b = Int32.ofNat (a + b) := (Int32.ofNat_add a b).symm
theorem of_mul {a b : Nat} : Int32.ofNat a * Int32.ofNat b = Int32.ofNat (a * b) := (Int32.ofNat_mul a b).symm
theorem of_sub {a b : Nat} (h : b ≤ a) : Int32.ofNat a - Int32.ofNat b = Int32.ofNat (a - b) := by
  rw [Int32.sub_eq_iff_eq_add, of_add, Nat.sub_add_cancel h]
theorem of_inj {a b : Nat} (ha : a < 2147483648) (hb : b < 2147483648) : (Int32.ofNat a = Int32.ofNat b) ↔ a = b := by
  constructor
  · intro h
    have h2 := congrArg Int32.toInt h
    rw [on_int ha, on_int hb] at h2
    omega
  · intro h; rw [h]
theorem of_m1 {a : Nat} (ha : a < 2147483648) : (Int32.ofNat a - 1 = -1) ↔ a = 0 := by
  constructor
  · intro h
    have h2 : Int32.ofNat a = Int32.ofNat 0 := by
      have h3 := congrArg (· + (1 : Int32)) h
      simp only [Int32.sub_add_cancel] at h3
      rw [h3]; decide
    exact (of_inj ha (by omega)).mp h2
  · intro h; rw [h]; decide
/-- an argument that counts something of n -/
def bN (a : Int32) (n : Nat) : Int32 := if 0 ≤ a.toInt ∧ a.toInt < n then 1 else 0
theorem bN_t {a : Int32} {n : Nat} (h : 0 ≤ a.toInt ∧ a.toInt < n) : bN a n = 1 := if_pos h
theorem bN_f {a : Int32} {n : Nat} (h : ¬ (0 ≤ a.toInt ∧ a.toInt < n)) : bN a n = 0 := if_neg h
theorem bN_on {i n : Nat} (h : i < n) (hn : n < 2147483648) : bN (Int32.ofNat i) n = 1 := bN_t (by rw [on_int (by omega)]; omega)
theorem rv_bN {a : Int32} {n : Nat} : (rvOK (some .boolean) (some (.int (bN a n))) = true) ↔ True := by
  rw [rv_b]; refine iff_true_intro ?_
  unfold bN; split <;> simp
/-- such an argument is a number -/
theorem ex_on {a : Int32} {n : Nat} (h : 0 ≤ a.toInt ∧ a.toInt < n) : ∃ i : Nat, a = Int32.ofNat i ∧ i < n := by
  have hl : a.toInt < 2147483648 := by have := a.toInt_lt; omega
  refine ⟨a.toInt.toNat, ?_, by omega⟩
  apply Int32.toInt_inj.mp
  rw [on_int (by omega)]
  omega
theorem br_bN {a : Int32} {n : Nat} {A B : Prop} (hn : n < 2147483648) : br (a < 0) A (br (Int32.ofNat n ≤ a) A B) ↔ br (0 ≤ a.toInt ∧ a.toInt < n) B A := by
  unfold br
  rw [i_lt, i_le, on_int hn, show (0 : Int32).toInt = 0 by decide]
  constructor
  · intro h
    refine ⟨fun q => (h.2 (by omega)).2 (by omega), fun q => ?_⟩
    by_cases z : a.toInt < 0
    · exact h.1 z
    · exact (h.2 z).1 (by omega)
  · intro h
    exact ⟨fun q => h.2 (by omega), fun q => ⟨fun z => h.2 (by omega), fun z => h.1 (by omega)⟩⟩
theorem vin_N {a : Int32} {n : Nat} (hn : n < 2147483648) : vin (Int32.toInt64 a) 0 (Int32.toInt64 (Int32.ofNat n - 1)) = bN a n := by
  unfold vin bN
  have e : (Int32.ofNat n - 1).toInt = (n : Int) - 1 := by
    rw [Int32.toInt_sub, on_int hn, show (1 : Int32).toInt = 1 by decide]
    show Int.bmod ((n : Int) - 1) 4294967296 = _
    exact Int.bmod_eq_of_le (by omega) (by omega)
  rw [Int32.toInt_toInt64, Int32.toInt_toInt64, e, show (0 : Int64).toInt = 0 by decide]
  by_cases h : 0 ≤ a.toInt ∧ a.toInt < n
  · rw [if_pos h, if_pos (by omega)]
  · rw [if_neg h, if_neg (by omega)]
end
section
theorem rv_iM {a : Int32} : (rvOK (some .boolean) (some (.int (iM a))) = true) ↔ True := by
  rw [rv_b]; refine iff_true_intro ?_
  unfold iM; split <;> simp
theorem brQ_b {a : Int32} {n : Nat} {hp : Hp} {Q : Option (Option Value) → Hp → Prop} : br (0 ≤ a.toInt ∧ a.toInt < n) (Q (some (some (.int 1))) hp) (Q (some (some (.int 0))) hp) ↔ Q (some (some (.int (bN a n)))) hp := by
  unfold br bN
  split
  · rename_i h; exact ⟨fun q => q.1 h, fun q => ⟨fun _ => q, fun z => absurd h z⟩⟩
  · rename_i h; exact ⟨fun q => q.2 h, fun q => ⟨fun z => absurd z h, fun _ => q⟩⟩
theorem g_70 {w : mT} {σ : mS} {t n D : Nat} {a1 : Int32} {K : Int32 → Hp → Prop} (hT : isT w t) (hn : σ.1 t 2 = Int32.ofNat n) (hn2 : n < 2147483648) (hD : 1 ≤ D) : wpI D 70 [.ref t, .int a1] (mW w σ) K ↔ K (bN a1 n) (mW w σ) := by
  simp only [isT] at hT
  refine cI_of (m := 0) (fun d hd Q hQ => ?_) rfl hD
  refine b70_0 ?_
  simp only [↓rF_I, ↓rF_L, ↓rF_R, ↓rF_N, rO_m, rB_m, ↓rI_m, wI_m, ↓rB2_m, ↓rB3_m, wB2_m, wB3_m, ↓rL_m, wL_m, ↓rQ_m, wQ_m, ↓lI_m, pI_m, pL_m, pR_m, sI_m, sBy_m, sBo_m, sL_m, sQ_m, fst_m, true_and, and_true, tg_some, ln_some, uI_1, uI_2, uL_1, uL_2, uL_3, uQ_1, uQ_2, uQ_3, rv_i, rv_l, rv_n, rv_b0, rv_b1, RMR, ne_eq, reduceCtorEq, not_false_eq_true, Option.getD_some, if_true, if_false, and_self, false_and, and_false, Nat.add_left_cancel_iff, Nat.add_eq_left, Nat.left_eq_add, Nat.one_ne_zero, Nat.reduceAdd, Nat.reduceLT, Nat.reduceLeDiff, Nat.reduceEqDiff, true_implies, false_implies, implies_true, Option.some.injEq, forall_eq', forall_eq, reduceCtorEq, brT, brF, br_s, i_10, i_01, ib_0_2, ib_1_2, tn_0, tn_1, Int32.le_refl, eq_self, rv_bN, rv_iM, RCT t, hT, hn, ↓br_bN hn2, brQ_b]
  exact hQ
theorem g_71 {w : mT} {σ : mS} {t n D : Nat} {a1 : Int32} {K : Int32 → Hp → Prop} (hT : isT w t) (hn : σ.1 t 3 = Int32.ofNat n) (hn2 : n < 2147483648) (hD : 1 ≤ D) : wpI D 71 [.ref t, .int a1] (mW w σ) K ↔ K (bN a1 n) (mW w σ) := by
  simp only [isT] at hT
  refine cI_of (m := 0) (fun d hd Q hQ => ?_) rfl hD
  refine b71_0 ?_
  simp only [↓rF_I, ↓rF_L, ↓rF_R, ↓rF_N, rO_m, rB_m, ↓rI_m, wI_m, ↓rB2_m, ↓rB3_m, wB2_m, wB3_m, ↓rL_m, wL_m, ↓rQ_m, wQ_m, ↓lI_m, pI_m, pL_m, pR_m, sI_m, sBy_m, sBo_m, sL_m, sQ_m, fst_m, true_and, and_true, tg_some, ln_some, uI_1, uI_2, uL_1, uL_2, uL_3, uQ_1, uQ_2, uQ_3, rv_i, rv_l, rv_n, rv_b0, rv_b1, RMR, ne_eq, reduceCtorEq, not_false_eq_true, Option.getD_some, if_true, if_false, and_self, false_and, and_false, Nat.add_left_cancel_iff, Nat.add_eq_left, Nat.left_eq_add, Nat.one_ne_zero, Nat.reduceAdd, Nat.reduceLT, Nat.reduceLeDiff, Nat.reduceEqDiff, true_implies, false_implies, implies_true, Option.some.injEq, forall_eq', forall_eq, reduceCtorEq, brT, brF, br_s, i_10, i_01, ib_0_2, ib_1_2, tn_0, tn_1, Int32.le_refl, eq_self, rv_bN, rv_iM, RCT t, hT, hn, ↓br_bN hn2, brQ_b]
  exact hQ
theorem g_73 {w : mT} {σ : mS} {t n D : Nat} {a1 : Int32} {K : Int32 → Hp → Prop} (hT : isT w t) (hn : σ.1 t 4 = Int32.ofNat n) (hn2 : n < 2147483648) (hD : 1 ≤ D) : wpI D 73 [.ref t, .int a1] (mW w σ) K ↔ K (bN a1 n) (mW w σ) := by
  simp only [isT] at hT
  refine cI_of (m := 0) (fun d hd Q hQ => ?_) rfl hD
  refine b73_0 ?_
  simp only [↓rF_I, ↓rF_L, ↓rF_R, ↓rF_N, rO_m, rB_m, ↓rI_m, wI_m, ↓rB2_m, ↓rB3_m, wB2_m, wB3_m, ↓rL_m, wL_m, ↓rQ_m, wQ_m, ↓lI_m, pI_m, pL_m, pR_m, sI_m, sBy_m, sBo_m, sL_m, sQ_m, fst_m, true_and, and_true, tg_some, ln_some, uI_1, uI_2, uL_1, uL_2, uL_3, uQ_1, uQ_2, uQ_3, rv_i, rv_l, rv_n, rv_b0, rv_b1, RMR, ne_eq, reduceCtorEq, not_false_eq_true, Option.getD_some, if_true, if_false, and_self, false_and, and_false, Nat.add_left_cancel_iff, Nat.add_eq_left, Nat.left_eq_add, Nat.one_ne_zero, Nat.reduceAdd, Nat.reduceLT, Nat.reduceLeDiff, Nat.reduceEqDiff, true_implies, false_implies, implies_true, Option.some.injEq, forall_eq', forall_eq, reduceCtorEq, brT, brF, br_s, i_10, i_01, ib_0_2, ib_1_2, tn_0, tn_1, Int32.le_refl, eq_self, rv_bN, rv_iM, RCT t, hT, hn, ↓br_bN hn2, brQ_b]
  exact hQ
/-- a cell of a pile -/
def bC (τ : Rw) (p c : Int32) : Int32 := if (0 ≤ p.toInt ∧ p.toInt < (τ 1 : Nat)) ∧ 0 ≤ c.toInt ∧ c.toInt < (τ (28 + p.toNatClampNeg) : Nat) then 1 else 0
theorem rv_bC {τ : Rw} {p c : Int32} : (rvOK (some .boolean) (some (.int (bC τ p c))) = true) ↔ True := by
  rw [rv_b]; refine iff_true_intro ?_
  unfold bC; split <;> simp
theorem g_72 {w : mT} {σ : mS} {t D : Nat} {τ : Rw} {a1 a2 : Int32} {K : Int32 → Hp → Prop} (hT : isT w t) (hτ : tTold σ t τ) (hv : vTold τ) (hD : 2 ≤ D) : wpI D 72 [.ref t, .int a1, .int a2] (mW w σ) K ↔ K (bC τ a1 a2) (mW w σ) := by
  have hT' := hT
  simp only [isT] at hT
  refine cI_of (m := 1) (fun d hd Q hQ => ?_) rfl hD
  have hd1 : 1 ≤ d := by omega
  refine b72_0 ?_
  have v1 := hv.2.1
  by_cases h : 0 ≤ a1.toInt ∧ a1.toInt < (τ 1 : Nat)
  · obtain ⟨i, rfl, hi⟩ := ex_on h
    have e := hτ.2.2.2.2.2.1 i hi
    have v2 := (hv.2.2.2.2.2.1 i hi).2
    have eb : inB (Int32.ofNat i) 3 = true := on_inB (by omega) (by omega)
    have en := on_nat (i := i) (by omega)
    unfold bC at hQ
    rw [en] at hQ
    simp only [↓rF_I, ↓rF_L, ↓rF_R, ↓rF_N, rO_m, rB_m, ↓rI_m, wI_m, ↓rB2_m, ↓rB3_m, wB2_m, wB3_m, ↓rL_m, wL_m, ↓rQ_m, wQ_m, ↓lI_m, pI_m, pL_m, pR_m, sI_m, sBy_m, sBo_m, sL_m, sQ_m, fst_m, true_and, and_true, tg_some, ln_some, uI_1, uI_2, uL_1, uL_2, uL_3, uQ_1, uQ_2, uQ_3, rv_i, rv_l, rv_n, rv_b0, rv_b1, RMR, ne_eq, reduceCtorEq, not_false_eq_true, Option.getD_some, if_true, if_false, and_self, false_and, and_false, Nat.add_left_cancel_iff, Nat.add_eq_left, Nat.left_eq_add, Nat.one_ne_zero, Nat.reduceAdd, Nat.reduceLT, Nat.reduceLeDiff, Nat.reduceEqDiff, true_implies, false_implies, implies_true, Option.some.injEq, forall_eq', forall_eq, reduceCtorEq, brT, brF, br_s, i_10, i_01, ib_0_2, ib_1_2, tn_0, tn_1, Int32.le_refl, eq_self, rv_bN, rv_iM, hd1, RCT t, hT, g_71 hT' hτ.2.2.1 (by omega : τ 1 < 2147483648), bN_t h, eb, en, e, ↓br_bN (show τ (28 + i) < 2147483648 by omega)]
    refine ⟨fun q => ?_, fun q => ?_⟩
    · rw [if_pos ⟨h, q⟩] at hQ; exact hQ
    · rw [if_neg (fun z => q z.2)] at hQ; exact hQ
  · unfold bC at hQ
    rw [if_neg (fun z => h z.1)] at hQ
    simp only [↓rF_I, ↓rF_L, ↓rF_R, ↓rF_N, rO_m, rB_m, ↓rI_m, wI_m, ↓rB2_m, ↓rB3_m, wB2_m, wB3_m, ↓rL_m, wL_m, ↓rQ_m, wQ_m, ↓lI_m, pI_m, pL_m, pR_m, sI_m, sBy_m, sBo_m, sL_m, sQ_m, fst_m, true_and, and_true, tg_some, ln_some, uI_1, uI_2, uL_1, uL_2, uL_3, uQ_1, uQ_2, uQ_3, rv_i, rv_l, rv_n, rv_b0, rv_b1, RMR, ne_eq, reduceCtorEq, not_false_eq_true, Option.getD_some, if_true, if_false, and_self, false_and, and_false, Nat.add_left_cancel_iff, Nat.add_eq_left, Nat.left_eq_add, Nat.one_ne_zero, Nat.reduceAdd, Nat.reduceLT, Nat.reduceLeDiff, Nat.reduceEqDiff, true_implies, false_implies, implies_true, Option.some.injEq, forall_eq', forall_eq, reduceCtorEq, brT, brF, br_s, i_10, i_01, ib_0_2, ib_1_2, tn_0, tn_1, Int32.le_refl, eq_self, rv_bN, rv_iM, hd1, RCT t, hT, g_71 hT' hτ.2.2.1 (by omega : τ 1 < 2147483648), bN_f h]
    exact hQ
theorem bC_t {τ : Rw} {p c : Nat} (h : p < τ 1) (hv : vTold τ) (h2 : c < τ (28 + p)) : bC τ (Int32.ofNat p) (Int32.ofNat c) = 1 := by
  have v1 := hv.2.1
  have v2 := (hv.2.2.2.2.2.1 p h).2
  unfold bC
  rw [on_nat (by omega), on_int (by omega), on_int (by omega)]
  exact if_pos ⟨⟨by omega, by omega⟩, by omega, by omega⟩
/-- which are cells -/
theorem bC_ex {τ : Rw} {p c : Int32} (hv : vTold τ) (h : bC τ p c = 1) : ∃ i j, p = Int32.ofNat i ∧ c = Int32.ofNat j ∧ i < τ 1 ∧ j < τ (28 + i) := by
  unfold bC at h
  split at h
  · rename_i h1
    obtain ⟨i, rfl, hi⟩ := ex_on h1.1
    have v1 := hv.2.1
    rw [on_nat (by omega)] at h1
    obtain ⟨j, rfl, hj⟩ := ex_on h1.2
    exact ⟨i, j, rfl, rfl, hi, hj⟩
  · exact absurd h (by decide)
theorem bC_01 {τ : Rw} {p c : Int32} : bC τ p c = 0 ∨ bC τ p c = 1 := by
  unfold bC; split
  · exact Or.inr rfl
  · exact Or.inl rfl
theorem bN_01 {a : Int32} {n : Nat} : bN a n = 0 ∨ bN a n = 1 := by
  unfold bN; split
  · exact Or.inr rfl
  · exact Or.inl rfl
theorem bN_ex {a : Int32} {n : Nat} (h : bN a n = 1) : ∃ i, a = Int32.ofNat i ∧ i < n := by
  unfold bN at h
  split at h
  · rename_i h1; exact ex_on h1
  · exact absurd h (by decide)
/-! State: where a machine stands -/
def sP (ρ : Rw) (m : Nat) : Int32 := if ρ (2 + m) = 0 then -1 else Int32.ofNat ((ρ (2 + m) - 1) / 100)
def sCe (ρ : Rw) (m : Nat) : Int32 := if ρ (2 + m) = 0 then -1 else Int32.ofNat ((ρ (2 + m) - 1) % 100)
theorem of_div {a : Nat} (ha : a < 2147483648) : Int32.ofNat a / 100 = Int32.ofNat (a / 100) := by
  apply Int32.toInt_inj.mp
  rw [Int32.toInt_div, on_int ha, on_int (by omega), show (100 : Int32).toInt = 100 by decide]
  have e : (a : Int).tdiv 100 = ((a / 100 : Nat) : Int) := by rw [Int.tdiv_eq_ediv_of_nonneg (by omega)]; rfl
  rw [e]
  show Int.bmod ((a / 100 : Nat) : Int) 4294967296 = _
  exact Int.bmod_eq_of_le (by omega) (by omega)
theorem of_mod {a : Nat} (ha : a < 2147483648) : Int32.ofNat a - Int32.ofNat a / 100 * 100 = Int32.ofNat (a % 100) := by
  rw [of_div ha, show (100 : Int32) = Int32.ofNat 100 from rfl, of_mul, of_sub (by omega)]
  congr 1
  omega
theorem st_m1 {a : Nat} (h : a ≠ 0) : Int32.ofNat a - 1 = Int32.ofNat (a - 1) := by
  rw [show (1 : Int32) = Int32.ofNat 1 from rfl]
  exact of_sub (by omega)
theorem on_m1 {a : Nat} (h : a < 2147483648) : (Int32.ofNat a = -1) ↔ False := by
  refine iff_false_intro (fun q => ?_)
  have q2 := congrArg Int32.toInt q
  rw [on_int h, show (-1 : Int32).toInt = -1 by decide] at q2
  omega
theorem onP_lt {τ ρ : Rw} {m : Nat} (hv : vTold τ) (h : onP τ ρ m) : ρ (2 + m) < 1000 := by
  rcases h with h | ⟨p, c, h1, h2, h3⟩
  · omega
  · have v1 := hv.2.1
    have v2 := (hv.2.2.2.2.2.1 p h1).2
    omega
theorem g_52 {w : mT} {σ : mS} {r m D : Nat} {τ ρ : Rw} {K : Int32 → Hp → Prop} (hR : isS w r) (hρ : tSt σ r τ ρ) (hm : m < 2) (hs : ρ (2 + m) < 1000) (hD : 1 ≤ D) : wpI D 52 [.ref r, .int (Int32.ofNat m)] (mW w σ) K ↔ K (sP ρ m) (mW w σ) := by
  simp only [isS] at hR
  refine cI_of (m := 0) (fun d hd Q hQ => ?_) rfl hD
  refine b52_0 ?_
  have e := (hρ.2.2.2.2.2.2.2.1 m hm).1
  have eb : inB (Int32.ofNat m) 2 = true := on_inB hm (by omega)
  have en := on_nat (i := m) (by omega)
  have e100 : ((100 : Int32) = 0) ↔ False := iff_false_intro (by decide)
  unfold sP at hQ
  by_cases h : ρ (2 + m) = 0
  · rw [if_pos h] at hQ
    have e' : σ.1 (r + 8) m = -1 := by rw [e, h]; decide
    simp only [↓rF_I, ↓rF_L, ↓rF_R, ↓rF_N, rO_m, rB_m, ↓rI_m, wI_m, ↓rB2_m, ↓rB3_m, wB2_m, wB3_m, ↓rL_m, wL_m, ↓rQ_m, wQ_m, ↓lI_m, pI_m, pL_m, pR_m, sI_m, sBy_m, sBo_m, sL_m, sQ_m, fst_m, true_and, and_true, tg_some, ln_some, uI_1, uI_2, uL_1, uL_2, uL_3, uQ_1, uQ_2, uQ_3, rv_i, rv_l, rv_n, rv_b0, rv_b1, RMR, ne_eq, reduceCtorEq, not_false_eq_true, Option.getD_some, if_true, if_false, and_self, false_and, and_false, Nat.add_left_cancel_iff, Nat.add_eq_left, Nat.left_eq_add, Nat.one_ne_zero, Nat.reduceAdd, Nat.reduceLT, Nat.reduceLeDiff, Nat.reduceEqDiff, true_implies, false_implies, implies_true, Option.some.injEq, forall_eq', forall_eq, reduceCtorEq, brT, brF, br_s, i_10, i_01, ib_0_2, ib_1_2, tn_0, tn_1, Int32.le_refl, eq_self, rv_bN, rv_iM, RCS r, hR, eb, en, e']
    exact hQ
  · rw [if_neg h] at hQ
    have e' : σ.1 (r + 8) m = Int32.ofNat (ρ (2 + m) - 1) := by rw [e, st_m1 h]
    simp only [↓rF_I, ↓rF_L, ↓rF_R, ↓rF_N, rO_m, rB_m, ↓rI_m, wI_m, ↓rB2_m, ↓rB3_m, wB2_m, wB3_m, ↓rL_m, wL_m, ↓rQ_m, wQ_m, ↓lI_m, pI_m, pL_m, pR_m, sI_m, sBy_m, sBo_m, sL_m, sQ_m, fst_m, true_and, and_true, tg_some, ln_some, uI_1, uI_2, uL_1, uL_2, uL_3, uQ_1, uQ_2, uQ_3, rv_i, rv_l, rv_n, rv_b0, rv_b1, RMR, ne_eq, reduceCtorEq, not_false_eq_true, Option.getD_some, if_true, if_false, and_self, false_and, and_false, Nat.add_left_cancel_iff, Nat.add_eq_left, Nat.left_eq_add, Nat.one_ne_zero, Nat.reduceAdd, Nat.reduceLT, Nat.reduceLeDiff, Nat.reduceEqDiff, true_implies, false_implies, implies_true, Option.some.injEq, forall_eq', forall_eq, reduceCtorEq, brT, brF, br_s, i_10, i_01, ib_0_2, ib_1_2, tn_0, tn_1, Int32.le_refl, eq_self, rv_bN, rv_iM, RCS r, hR, eb, en, e', on_m1 (show ρ (2 + m) - 1 < 2147483648 by omega), e100, of_div (a := ρ (2 + m) - 1) (by omega)]
    exact hQ
theorem g_53 {w : mT} {σ : mS} {r m D : Nat} {τ ρ : Rw} {K : Int32 → Hp → Prop} (hR : isS w r) (hρ : tSt σ r τ ρ) (hm : m < 2) (hs : ρ (2 + m) < 1000) (hD : 1 ≤ D) : wpI D 53 [.ref r, .int (Int32.ofNat m)] (mW w σ) K ↔ K (sCe ρ m) (mW w σ) := by
  simp only [isS] at hR
  refine cI_of (m := 0) (fun d hd Q hQ => ?_) rfl hD
  refine b53_0 ?_
  have e := (hρ.2.2.2.2.2.2.2.1 m hm).1
  have eb : inB (Int32.ofNat m) 2 = true := on_inB hm (by omega)
  have en := on_nat (i := m) (by omega)
  have e100 : ((100 : Int32) = 0) ↔ False := iff_false_intro (by decide)
  unfold sCe at hQ
  by_cases h : ρ (2 + m) = 0
  · rw [if_pos h] at hQ
    have e' : σ.1 (r + 8) m = -1 := by rw [e, h]; decide
    simp only [↓rF_I, ↓rF_L, ↓rF_R, ↓rF_N, rO_m, rB_m, ↓rI_m, wI_m, ↓rB2_m, ↓rB3_m, wB2_m, wB3_m, ↓rL_m, wL_m, ↓rQ_m, wQ_m, ↓lI_m, pI_m, pL_m, pR_m, sI_m, sBy_m, sBo_m, sL_m, sQ_m, fst_m, true_and, and_true, tg_some, ln_some, uI_1, uI_2, uL_1, uL_2, uL_3, uQ_1, uQ_2, uQ_3, rv_i, rv_l, rv_n, rv_b0, rv_b1, RMR, ne_eq, reduceCtorEq, not_false_eq_true, Option.getD_some, if_true, if_false, and_self, false_and, and_false, Nat.add_left_cancel_iff, Nat.add_eq_left, Nat.left_eq_add, Nat.one_ne_zero, Nat.reduceAdd, Nat.reduceLT, Nat.reduceLeDiff, Nat.reduceEqDiff, true_implies, false_implies, implies_true, Option.some.injEq, forall_eq', forall_eq, reduceCtorEq, brT, brF, br_s, i_10, i_01, ib_0_2, ib_1_2, tn_0, tn_1, Int32.le_refl, eq_self, rv_bN, rv_iM, RCS r, hR, eb, en, e']
    exact hQ
  · rw [if_neg h] at hQ
    have e' : σ.1 (r + 8) m = Int32.ofNat (ρ (2 + m) - 1) := by rw [e, st_m1 h]
    simp only [↓rF_I, ↓rF_L, ↓rF_R, ↓rF_N, rO_m, rB_m, ↓rI_m, wI_m, ↓rB2_m, ↓rB3_m, wB2_m, wB3_m, ↓rL_m, wL_m, ↓rQ_m, wQ_m, ↓lI_m, pI_m, pL_m, pR_m, sI_m, sBy_m, sBo_m, sL_m, sQ_m, fst_m, true_and, and_true, tg_some, ln_some, uI_1, uI_2, uL_1, uL_2, uL_3, uQ_1, uQ_2, uQ_3, rv_i, rv_l, rv_n, rv_b0, rv_b1, RMR, ne_eq, reduceCtorEq, not_false_eq_true, Option.getD_some, if_true, if_false, and_self, false_and, and_false, Nat.add_left_cancel_iff, Nat.add_eq_left, Nat.left_eq_add, Nat.one_ne_zero, Nat.reduceAdd, Nat.reduceLT, Nat.reduceLeDiff, Nat.reduceEqDiff, true_implies, false_implies, implies_true, Option.some.injEq, forall_eq', forall_eq, reduceCtorEq, brT, brF, br_s, i_10, i_01, ib_0_2, ib_1_2, tn_0, tn_1, Int32.le_refl, eq_self, rv_bN, rv_iM, RCS r, hR, eb, en, e', on_m1 (show ρ (2 + m) - 1 < 2147483648 by omega), e100, of_mod (a := ρ (2 + m) - 1) (by omega)]
    exact hQ
theorem g_50 {w : mT} {σ : mS} {a0 a1 : Int32} {D : Nat} {K : Int32 → Hp → Prop} (hD : 1 ≤ D) : wpI D 50 [.int a0, .int a1] (mW w σ) K ↔ K (a0 * 60 + a1) (mW w σ) :=
  cI_of (m := 0) (fun d hd Q hQ => b50_0 ⟨rfl, hQ⟩) rfl hD
theorem g_51 {w : mT} {σ : mS} {a0 a1 a2 : Int32} {D : Nat} {K : Int32 → Hp → Prop} (hD : 1 ≤ D) : wpI D 51 [.int a0, .int a1, .int a2] (mW w σ) K ↔ K ((a0 * 60 + a1) * 12 + a2) (mW w σ) :=
  cI_of (m := 0) (fun d hd Q hQ => b51_0 ⟨rfl, hQ⟩) rfl hD
theorem pl_of {p k c : Nat} : (Int32.ofNat p * 60 + Int32.ofNat k) * 12 + Int32.ofNat c = Int32.ofNat ((p * 60 + k) * 12 + c) := by
  rw [show (60 : Int32) = Int32.ofNat 60 from rfl, show (12 : Int32) = Int32.ofNat 12 from rfl, of_mul, of_add, of_mul, of_add]
theorem ro_of {p k : Nat} : Int32.ofNat p * 60 + Int32.ofNat k = Int32.ofNat (p * 60 + k) := by
  rw [show (60 : Int32) = Int32.ofNat 60 from rfl, of_mul, of_add]
/-- tonnes on a cell -/
theorem lp_56 {w : mT} {σ : mS} {r p c d : Nat} {τ ρ : Rw} {Q : Option (Option Value) → Hp → Prop} (hR : isS w r) (hρ : tSt σ r τ ρ) (hv : vRow τ ρ) (hp : p < 3) (hc : c < 12) (hd : 1 ≤ d) (hQ : Q (some (some (.int (Int32.ofNat (tOn ρ p c))))) (mW w σ)) : ∀ n i : Nat, i + n = ρ (24 + p) → Wp 56 5 [.ref r, .int (Int32.ofNat p), .int (Int32.ofNat c), .int (Int32.ofNat (sm i (fun k => ρ (li p k c)))), .int (Int32.ofNat i)] [] (mW w σ) Q d := by
  simp only [isS] at hR
  have h60 := hv.2.2.2.2.2.2.2.1 p hp
  have e1 := hρ.2.2.2.1 p hp
  have eb : inB (Int32.ofNat p) 3 = true := on_inB hp (by omega)
  have en := on_nat (i := p) (by omega)
  intro n
  induction n with
  | zero =>
    intro i hi
    have hi' : i = ρ (24 + p) := by omega
    subst hi'
    refine b56_5 ?_
    simp only [↓rF_I, ↓rF_L, ↓rF_R, ↓rF_N, rO_m, rB_m, ↓rI_m, wI_m, ↓rB2_m, ↓rB3_m, wB2_m, wB3_m, ↓rL_m, wL_m, ↓rQ_m, wQ_m, ↓lI_m, pI_m, pL_m, pR_m, sI_m, sBy_m, sBo_m, sL_m, sQ_m, fst_m, true_and, and_true, tg_some, ln_some, uI_1, uI_2, uL_1, uL_2, uL_3, uQ_1, uQ_2, uQ_3, rv_i, rv_l, rv_n, rv_b0, rv_b1, RMR, ne_eq, reduceCtorEq, not_false_eq_true, Option.getD_some, if_true, if_false, and_self, false_and, and_false, Nat.add_left_cancel_iff, Nat.add_eq_left, Nat.left_eq_add, Nat.one_ne_zero, Nat.reduceAdd, Nat.reduceLT, Nat.reduceLeDiff, Nat.reduceEqDiff, true_implies, false_implies, implies_true, Option.some.injEq, forall_eq', forall_eq, reduceCtorEq, brT, brF, br_s, i_10, i_01, ib_0_2, ib_1_2, tn_0, tn_1, Int32.le_refl, eq_self, rv_bN, rv_iM, RCS r, hR, eb, en, e1, Int32.le_refl]
    exact hQ
  | succ n ih =>
    intro i hi
    have l1 : ¬ Int32.ofNat (ρ (24 + p)) ≤ Int32.ofNat i := by
      intro q; exact absurd ((on_le (by omega) (by omega)).mp q) (by omega)
    have e2 := hρ.2.2.2.2.2.1 p hp i (by omega) c hc
    have eb2 : inB (Int32.ofNat ((p * 60 + i) * 12 + c)) 2160 = true := on_inB (by omega) (by omega)
    have en2 := on_nat (i := (p * 60 + i) * 12 + c) (by omega)
    refine b56_5 ?_
    simp only [↓rF_I, ↓rF_L, ↓rF_R, ↓rF_N, rO_m, rB_m, ↓rI_m, wI_m, ↓rB2_m, ↓rB3_m, wB2_m, wB3_m, ↓rL_m, wL_m, ↓rQ_m, wQ_m, ↓lI_m, pI_m, pL_m, pR_m, sI_m, sBy_m, sBo_m, sL_m, sQ_m, fst_m, true_and, and_true, tg_some, ln_some, uI_1, uI_2, uL_1, uL_2, uL_3, uQ_1, uQ_2, uQ_3, rv_i, rv_l, rv_n, rv_b0, rv_b1, RMR, ne_eq, reduceCtorEq, not_false_eq_true, Option.getD_some, if_true, if_false, and_self, false_and, and_false, Nat.add_left_cancel_iff, Nat.add_eq_left, Nat.left_eq_add, Nat.one_ne_zero, Nat.reduceAdd, Nat.reduceLT, Nat.reduceLeDiff, Nat.reduceEqDiff, true_implies, false_implies, implies_true, Option.some.injEq, forall_eq', forall_eq, reduceCtorEq, brT, brF, br_s, i_10, i_01, ib_0_2, ib_1_2, tn_0, tn_1, Int32.le_refl, eq_self, rv_bN, rv_iM, RCS r, hR, eb, en, e1, l1, g_51 hd, pl_of, eb2, en2, e2, of_add, on_succ]
    have e3 : sm i (fun k => ρ (li p k c)) + ρ (311 + ((60 * p + i) * 12 + c)) = sm (i + 1) (fun k => ρ (li p k c)) := rfl
    rw [e3]
    exact ih (i + 1) (by omega)
theorem g_56 {w : mT} {σ : mS} {r p c D : Nat} {τ ρ : Rw} {K : Int32 → Hp → Prop} (hR : isS w r) (hρ : tSt σ r τ ρ) (hv : vRow τ ρ) (hp : p < 3) (hc : c < 12) (hD : 2 ≤ D) : wpI D 56 [.ref r, .int (Int32.ofNat p), .int (Int32.ofNat c)] (mW w σ) K ↔ K (Int32.ofNat (tOn ρ p c)) (mW w σ) :=
  cI_of (m := 1) (fun d hd Q hQ => b56_0 (lp_56 hR hρ hv hp hc hd hQ (ρ (24 + p)) 0 (Nat.zero_add _))) rfl hD
end
section
/-! where the class keeps what the row's place j says -/
def pf (f : Nat) : Nat := if f = 5 then 2 else if f = 6 then 5 else f
def pg (f : Nat) : Nat := if f = 0 then 0 else 3 - f
def qf (f : Nat) : Nat := if f = 2 then 5 else if f = 5 then 6 else f
def locA (j : Nat) : Nat := if j < 2 then 0 else if j < 4 then 8 else if j < 6 then 9 else if j < 8 then 10 else if j < 10 then 11 else if j < 12 then 12 else if j < 24 then 1 else if j < 27 then 2 else if j < 35 then 5 else if j < 43 then 6 else if j < 51 then 7 else if j < 131 then 13 else if j < 311 then 3 else 4
def locJ (j : Nat) : Nat := if j < 2 then j else if j < 4 then j - 2 else if j < 6 then j - 4 else if j < 8 then j - 6 else if j < 10 then j - 8 else if j < 12 then j - 10 else if j < 24 then j - 12 else if j < 27 then j - 24 else if j < 35 then j - 27 else if j < 43 then j - 35 else if j < 51 then j - 43 else if j < 107 then 6 * ((j - 51) / 7) + pf ((j - 51) % 7) else if j < 131 then 48 + 6 * ((j - 107) / 3) + pg ((j - 107) % 3) else if j < 311 then j - 131 else j - 311
def unloc (A J : Nat) : Nat := if A = 0 then J else if A = 8 then J + 2 else if A = 9 then J + 4 else if A = 10 then J + 6 else if A = 11 then J + 8 else if A = 12 then J + 10 else if A = 1 then J + 12 else if A = 2 then J + 24 else if A = 5 then J + 27 else if A = 6 then J + 35 else if A = 7 then J + 43 else if A = 13 then (if J < 48 then 51 + 7 * (J / 6) + qf (J % 6) else 107 + 3 * ((J - 48) / 6) + pg ((J - 48) % 6)) else if A = 3 then J + 131 else J + 311
def in0 (j : Nat) : Prop := j < 2471 ∧ (51 ≤ j → j < 107 → (j - 51) % 7 ≠ 2)
theorem unl {j : Nat} (h : in0 j) : unloc (locA j) (locJ j) = j := by
  obtain ⟨h1, h2⟩ := h
  unfold locA locJ
  by_cases a0 : j < 2
  · simp only [a0, if_true, unloc]
  by_cases a1 : j < 4
  · simp only [a0, a1, if_true, if_false, unloc]; simp; omega
  by_cases a2 : j < 6
  · simp only [a0, a1, a2, if_true, if_false, unloc]; simp; omega
  by_cases a3 : j < 8
  · simp only [a0, a1, a2, a3, if_true, if_false, unloc]; simp; omega
  by_cases a4 : j < 10
  · simp only [a0, a1, a2, a3, a4, if_true, if_false, unloc]; simp; omega
  by_cases a5 : j < 12
  · simp only [a0, a1, a2, a3, a4, a5, if_true, if_false, unloc]; simp; omega
  by_cases a6 : j < 24
  · simp only [a0, a1, a2, a3, a4, a5, a6, if_true, if_false, unloc]; simp; omega
  by_cases a7 : j < 27
  · simp only [a0, a1, a2, a3, a4, a5, a6, a7, if_true, if_false, unloc]; simp; omega
  by_cases a8 : j < 35
  · simp only [a0, a1, a2, a3, a4, a5, a6, a7, a8, if_true, if_false, unloc]; simp; omega
  by_cases a9 : j < 43
  · simp only [a0, a1, a2, a3, a4, a5, a6, a7, a8, a9, if_true, if_false, unloc]; simp; omega
  by_cases a10 : j < 51
  · simp only [a0, a1, a2, a3, a4, a5, a6, a7, a8, a9, a10, if_true, if_false, unloc]; simp; omega
  by_cases a11 : j < 131
  · simp only [a0, a1, a2, a3, a4, a5, a6, a7, a8, a9, a10, a11, if_true, if_false, unloc]
    by_cases b1 : j < 107
    · have h3 := h2 (by omega) b1
      have e1 : ∀ f, f < 7 → f ≠ 2 → qf (pf f) = f ∧ pf f < 6 := by
        intro f hf hf2; unfold qf pf
        have : f = 0 ∨ f = 1 ∨ f = 3 ∨ f = 4 ∨ f = 5 ∨ f = 6 := by omega
        rcases this with rfl | rfl | rfl | rfl | rfl | rfl <;> decide
      obtain ⟨e2, e3⟩ := e1 ((j - 51) % 7) (by omega) h3
      generalize hx : (j - 51) % 7 = f at *
      generalize hp : pf f = q at *
      have c1 : 6 * ((j - 51) / 7) + q < 48 := by omega
      have c2 : (6 * ((j - 51) / 7) + q) / 6 = (j - 51) / 7 := by omega
      have c3 : (6 * ((j - 51) / 7) + q) % 6 = q := by omega
      simp only [b1, if_true, c1, c2, c3, e2]
      simp
      omega
    · have e1 : ∀ f, f < 3 → pg (pg f) = f ∧ pg f < 3 := by
        intro f hf; unfold pg
        have : f = 0 ∨ f = 1 ∨ f = 2 := by omega
        rcases this with rfl | rfl | rfl <;> decide
      obtain ⟨e2, e3⟩ := e1 ((j - 107) % 3) (by omega)
      generalize hx : (j - 107) % 3 = f at *
      generalize hp : pg f = q at *
      have c1 : ¬ 48 + 6 * ((j - 107) / 3) + q < 48 := by omega
      have c2 : (48 + 6 * ((j - 107) / 3) + q - 48) / 6 = (j - 107) / 3 := by omega
      have c3 : (48 + 6 * ((j - 107) / 3) + q - 48) % 6 = q := by omega
      simp only [b1, if_false, c1, c2, c3, e2]
      simp
      omega
  have b1 : ¬ j < 107 := by omega
  by_cases a12 : j < 311
  · simp only [a0, a1, a2, a3, a4, a5, a6, a7, a8, a9, a10, a11, a12, b1, if_true, if_false, unloc]; simp; omega
  · simp only [a0, a1, a2, a3, a4, a5, a6, a7, a8, a9, a10, a11, a12, b1, if_false, unloc]; simp; omega
theorem loc_inj {i j : Nat} (hi : in0 i) (hj : in0 j) (h : locA i = locA j) (h2 : locJ i = locJ j) : i = j := by
  rw [← unl hi, ← unl hj, h, h2]
/-- places that are kept less by 1 -/
abbrev isSh (j : Nat) : Prop := (2 ≤ j ∧ j < 4) ∨ (43 ≤ j ∧ j < 51) ∨ (51 ≤ j ∧ j < 107 ∧ (j - 51) % 7 = 6)
def tv (j x : Nat) : Int32 := if isSh j then Int32.ofNat x - 1 else Int32.ofNat x
theorem tv_0 {j x : Nat} (h : ¬ isSh j) : tv j x = Int32.ofNat x := if_neg h
theorem tv_1 {j x : Nat} (h : isSh j) : tv j x = Int32.ofNat x - 1 := if_pos h
/-- the places that count -/
def dom (τ ρ : Rw) (j : Nat) : Prop := j < 12 ∨ (12 ≤ j ∧ j < 12 + τ 0) ∨ (24 ≤ j ∧ j < 27) ∨ (27 ≤ j ∧ j < 27 + τ 2) ∨ (35 ≤ j ∧ j < 35 + τ 2) ∨ (43 ≤ j ∧ j < 43 + τ 2) ∨
  (51 ≤ j ∧ j < 51 + 7 * ρ 10 ∧ (j - 51) % 7 ≠ 2) ∨ (107 ≤ j ∧ j < 107 + 3 * ρ 11) ∨
  (131 ≤ j ∧ j < 311 ∧ (j - 131) % 60 < ρ (24 + (j - 131) / 60)) ∨ (311 ≤ j ∧ j < 2471 ∧ (j - 311) / 12 % 60 < ρ (24 + (j - 311) / 720))
/-- bounds that the places need -/
def bRow (τ ρ : Rw) : Prop := τ 0 ≤ 12 ∧ τ 2 ≤ 8 ∧ ρ 10 ≤ 8 ∧ ρ 11 ≤ 8 ∧ ∀ p, p < 3 → ρ (24 + p) ≤ 60
theorem dom_in {τ ρ : Rw} {j : Nat} (hb : bRow τ ρ) (h : dom τ ρ j) : in0 j := by
  obtain ⟨b1, b2, b3, b4, -⟩ := hb
  unfold dom at h
  refine ⟨by omega, fun q1 q2 => by omega⟩
def cv (σ : mS) (r j : Nat) : Int32 := σ.1 (r + locA j) (locJ j)
theorem lA_st {m : Nat} (h : m < 2) : locA (2 + m) = 8 ∧ locJ (2 + m) = m := by
  have : m = 0 ∨ m = 1 := by omega
  rcases this with rfl | rfl <;> decide
theorem lA_wk {m : Nat} (h : m < 2) : locA (4 + m) = 9 ∧ locJ (4 + m) = m := by
  have : m = 0 ∨ m = 1 := by omega
  rcases this with rfl | rfl <;> decide
theorem lA_wy {m : Nat} (h : m < 2) : locA (6 + m) = 10 ∧ locJ (6 + m) = m := by
  have : m = 0 ∨ m = 1 := by omega
  rcases this with rfl | rfl <;> decide
theorem lA_wt {m : Nat} (h : m < 2) : locA (8 + m) = 11 ∧ locJ (8 + m) = m := by
  have : m = 0 ∨ m = 1 := by omega
  rcases this with rfl | rfl <;> decide
theorem lA_or {m : Nat} (h : m < 2) : locA (10 + m) = 12 ∧ locJ (10 + m) = m := by
  have : m = 0 ∨ m = 1 := by omega
  rcases this with rfl | rfl <;> decide
theorem lA_lf {l : Nat} (h : l < 12) : locA (12 + l) = 1 ∧ locJ (12 + l) = l := by
  unfold locA locJ
  rw [if_neg (by omega), if_neg (by omega), if_neg (by omega), if_neg (by omega), if_neg (by omega), if_neg (by omega), if_pos (by omega), if_neg (by omega), if_neg (by omega), if_neg (by omega), if_neg (by omega), if_neg (by omega), if_neg (by omega), if_pos (by omega)]
  omega
theorem lA_la {p : Nat} (h : p < 3) : locA (24 + p) = 2 ∧ locJ (24 + p) = p := by
  have : p = 0 ∨ p = 1 ∨ p = 2 := by omega
  rcases this with rfl | rfl | rfl <;> decide
theorem lA_hT {s : Nat} (h : s < 8) : locA (27 + s) = 5 ∧ locJ (27 + s) = s := by
  have : s = 0 ∨ s = 1 ∨ s = 2 ∨ s = 3 ∨ s = 4 ∨ s = 5 ∨ s = 6 ∨ s = 7 := by omega
  rcases this with rfl | rfl | rfl | rfl | rfl | rfl | rfl | rfl <;> decide
theorem lA_hO {s : Nat} (h : s < 8) : locA (35 + s) = 6 ∧ locJ (35 + s) = s := by
  have : s = 0 ∨ s = 1 ∨ s = 2 ∨ s = 3 ∨ s = 4 ∨ s = 5 ∨ s = 6 ∨ s = 7 := by omega
  rcases this with rfl | rfl | rfl | rfl | rfl | rfl | rfl | rfl <;> decide
theorem lA_sa {s : Nat} (h : s < 8) : locA (43 + s) = 7 ∧ locJ (43 + s) = s := by
  have : s = 0 ∨ s = 1 ∨ s = 2 ∨ s = 3 ∨ s = 4 ∨ s = 5 ∨ s = 6 ∨ s = 7 := by omega
  rcases this with rfl | rfl | rfl | rfl | rfl | rfl | rfl | rfl <;> decide
theorem lA_o0 {i f : Nat} (h : i < 8) (hf : f < 7) : locA (51 + 7 * i + f) = 13 ∧ locJ (51 + 7 * i + f) = 6 * i + pf f := by
  unfold locA locJ
  have e1 : (51 + 7 * i + f - 51) / 7 = i := by omega
  have e2 : (51 + 7 * i + f - 51) % 7 = f := by omega
  rw [if_neg (by omega), if_neg (by omega), if_neg (by omega), if_neg (by omega), if_neg (by omega), if_neg (by omega), if_neg (by omega), if_neg (by omega), if_neg (by omega), if_neg (by omega), if_neg (by omega), if_pos (by omega), if_neg (by omega), if_neg (by omega), if_neg (by omega), if_neg (by omega), if_neg (by omega), if_neg (by omega), if_neg (by omega), if_neg (by omega), if_neg (by omega), if_neg (by omega), if_neg (by omega), if_pos (by omega), e1, e2]
  exact ⟨rfl, rfl⟩
theorem lA_o1 {i f : Nat} (h : i < 8) (hf : f < 3) : locA (107 + 3 * i + f) = 13 ∧ locJ (107 + 3 * i + f) = 48 + 6 * i + pg f := by
  unfold locA locJ
  have e1 : (107 + 3 * i + f - 107) / 3 = i := by omega
  have e2 : (107 + 3 * i + f - 107) % 3 = f := by omega
  rw [if_neg (by omega), if_neg (by omega), if_neg (by omega), if_neg (by omega), if_neg (by omega), if_neg (by omega), if_neg (by omega), if_neg (by omega), if_neg (by omega), if_neg (by omega), if_neg (by omega), if_pos (by omega), if_neg (by omega), if_neg (by omega), if_neg (by omega), if_neg (by omega), if_neg (by omega), if_neg (by omega), if_neg (by omega), if_neg (by omega), if_neg (by omega), if_neg (by omega), if_neg (by omega), if_neg (by omega), if_pos (by omega), e1, e2]
  exact ⟨rfl, rfl⟩
theorem lA_lo {j : Nat} (h : j < 180) : locA (131 + j) = 3 ∧ locJ (131 + j) = j := by
  unfold locA locJ
  rw [if_neg (by omega), if_neg (by omega), if_neg (by omega), if_neg (by omega), if_neg (by omega), if_neg (by omega), if_neg (by omega), if_neg (by omega), if_neg (by omega), if_neg (by omega), if_neg (by omega), if_neg (by omega), if_pos (by omega), if_neg (by omega), if_neg (by omega), if_neg (by omega), if_neg (by omega), if_neg (by omega), if_neg (by omega), if_neg (by omega), if_neg (by omega), if_neg (by omega), if_neg (by omega), if_neg (by omega), if_neg (by omega), if_neg (by omega), if_pos (by omega)]
  omega
theorem lA_li {j : Nat} : locA (311 + j) = 4 ∧ locJ (311 + j) = j := by
  unfold locA locJ
  rw [if_neg (by omega), if_neg (by omega), if_neg (by omega), if_neg (by omega), if_neg (by omega), if_neg (by omega), if_neg (by omega), if_neg (by omega), if_neg (by omega), if_neg (by omega), if_neg (by omega), if_neg (by omega), if_neg (by omega), if_neg (by omega), if_neg (by omega), if_neg (by omega), if_neg (by omega), if_neg (by omega), if_neg (by omega), if_neg (by omega), if_neg (by omega), if_neg (by omega), if_neg (by omega), if_neg (by omega), if_neg (by omega), if_neg (by omega), if_neg (by omega)]
  omega
end
section
theorem rS_eq {ρ : Rw} {j x : Nat} : rSet ρ j x j = x := if_pos rfl
theorem rS_ne {ρ : Rw} {j x i : Nat} (h : i ≠ j) : rSet ρ j x i = ρ i := if_neg h
theorem dom_lo {τ ρ : Rw} {p k : Nat} (hp : p < 3) (hk : k < ρ (24 + p)) (h60 : k < 60) : dom τ ρ (131 + (60 * p + k)) := by
  have e : (131 + (60 * p + k) - 131) / 60 = p := by omega
  have e2 : (131 + (60 * p + k) - 131) % 60 = k := by omega
  unfold dom
  rw [e, e2]
  exact Or.inr (Or.inr (Or.inr (Or.inr (Or.inr (Or.inr (Or.inr (Or.inr (Or.inl ⟨by omega, by omega, hk⟩))))))))
theorem dom_li {τ ρ : Rw} {p k c : Nat} (hp : p < 3) (hk : k < ρ (24 + p)) (h60 : k < 60) (hc : c < 12) : dom τ ρ (311 + ((60 * p + k) * 12 + c)) := by
  have e : (311 + ((60 * p + k) * 12 + c) - 311) / 720 = p := by omega
  have e2 : (311 + ((60 * p + k) * 12 + c) - 311) / 12 % 60 = k := by omega
  unfold dom
  rw [e, e2]
  exact Or.inr (Or.inr (Or.inr (Or.inr (Or.inr (Or.inr (Or.inr (Or.inr (Or.inr ⟨by omega, by omega, hk⟩))))))))
theorem tSt_at {σ : mS} {r j : Nat} {τ ρ : Rw} (h : tSt σ r τ ρ) (hb : bRow τ ρ) (hd : dom τ ρ j) : cv σ r j = tv j (ρ j) := by
  obtain ⟨h1, h2, h3, h4, h5, h6, h7, h8, h9, h10⟩ := h
  obtain ⟨b1, b2, b3, b4, b5⟩ := hb
  unfold dom at hd
  unfold cv
  rcases hd with hd | hd | hd | hd | hd | hd | hd | hd | hd | hd
  · have : j = 0 ∨ j = 1 ∨ j = 2 + 0 ∨ j = 2 + 1 ∨ j = 4 + 0 ∨ j = 4 + 1 ∨ j = 6 + 0 ∨ j = 6 + 1 ∨ j = 8 + 0 ∨ j = 8 + 1 ∨ j = 10 + 0 ∨ j = 10 + 1 := by omega
    rcases this with rfl | rfl | rfl | rfl | rfl | rfl | rfl | rfl | rfl | rfl | rfl | rfl
    · rw [tv_0 (by decide)]; exact h1
    · rw [tv_0 (by decide)]; exact h2
    · rw [tv_1 (by decide)]; exact (h8 0 (by omega)).1
    · rw [tv_1 (by decide)]; exact (h8 1 (by omega)).1
    · rw [tv_0 (by decide)]; exact (h8 0 (by omega)).2.1
    · rw [tv_0 (by decide)]; exact (h8 1 (by omega)).2.1
    · rw [tv_0 (by decide)]; exact (h8 0 (by omega)).2.2.1
    · rw [tv_0 (by decide)]; exact (h8 1 (by omega)).2.2.1
    · rw [tv_0 (by decide)]; exact (h8 0 (by omega)).2.2.2.1
    · rw [tv_0 (by decide)]; exact (h8 1 (by omega)).2.2.2.1
    · rw [tv_0 (by decide)]; exact (h8 0 (by omega)).2.2.2.2
    · rw [tv_0 (by decide)]; exact (h8 1 (by omega)).2.2.2.2
  · obtain ⟨l, rfl⟩ : ∃ l, j = 12 + l := ⟨j - 12, by omega⟩
    obtain ⟨a, b⟩ := lA_lf (l := l) (by omega)
    rw [a, b, tv_0 (by unfold isSh; omega)]
    exact h3 l (by omega)
  · obtain ⟨l, rfl⟩ : ∃ l, j = 24 + l := ⟨j - 24, by omega⟩
    obtain ⟨a, b⟩ := lA_la (p := l) (by omega)
    rw [a, b, tv_0 (by unfold isSh; omega)]
    exact h4 l (by omega)
  · obtain ⟨l, rfl⟩ : ∃ l, j = 27 + l := ⟨j - 27, by omega⟩
    obtain ⟨a, b⟩ := lA_hT (s := l) (by omega)
    rw [a, b, tv_0 (by unfold isSh; omega)]
    exact (h7 l (by omega)).1
  · obtain ⟨l, rfl⟩ : ∃ l, j = 35 + l := ⟨j - 35, by omega⟩
    obtain ⟨a, b⟩ := lA_hO (s := l) (by omega)
    rw [a, b, tv_0 (by unfold isSh; omega)]
    exact (h7 l (by omega)).2.1
  · obtain ⟨l, rfl⟩ : ∃ l, j = 43 + l := ⟨j - 43, by omega⟩
    obtain ⟨a, b⟩ := lA_sa (s := l) (by omega)
    rw [a, b, tv_1 (by unfold isSh; omega)]
    exact (h7 l (by omega)).2.2
  · obtain ⟨i, f, rfl, hi, hf, hf2⟩ : ∃ i f, j = 51 + 7 * i + f ∧ i < ρ 10 ∧ f < 7 ∧ f ≠ 2 := ⟨(j - 51) / 7, (j - 51) % 7, by omega, by omega, by omega, by omega⟩
    obtain ⟨a, b⟩ := lA_o0 (i := i) (f := f) (by omega) hf
    obtain ⟨c0, c1, c2, c3, c4, c5⟩ := h9 i hi
    have : f = 0 ∨ f = 1 ∨ f = 3 ∨ f = 4 ∨ f = 5 ∨ f = 6 := by omega
    rw [a, b]
    rcases this with rfl | rfl | rfl | rfl | rfl | rfl
    · rw [tv_0 (by unfold isSh; omega)]; exact c0
    · rw [tv_0 (by unfold isSh; omega)]; exact c1
    · rw [tv_0 (by unfold isSh; omega)]; exact c3
    · rw [tv_0 (by unfold isSh; omega)]; exact c4
    · rw [tv_0 (by unfold isSh; omega)]; exact c2
    · rw [tv_1 (by unfold isSh; omega)]; exact c5
  · obtain ⟨i, f, rfl, hi, hf⟩ : ∃ i f, j = 107 + 3 * i + f ∧ i < ρ 11 ∧ f < 3 := ⟨(j - 107) / 3, (j - 107) % 3, by omega, by omega, by omega⟩
    obtain ⟨a, b⟩ := lA_o1 (i := i) (f := f) (by omega) hf
    obtain ⟨c0, c1, c2⟩ := h10 i hi
    have : f = 0 ∨ f = 1 ∨ f = 2 := by omega
    rw [a, b]
    rcases this with rfl | rfl | rfl
    · rw [tv_0 (by unfold isSh; omega)]; exact c0
    · rw [tv_0 (by unfold isSh; omega)]; exact c2
    · rw [tv_0 (by unfold isSh; omega)]; exact c1
  · obtain ⟨p, k, rfl, hp, hk⟩ : ∃ p k, j = 131 + (60 * p + k) ∧ p < 3 ∧ k < 60 := ⟨(j - 131) / 60, (j - 131) % 60, by omega, by omega, by omega⟩
    rw [show (131 + (60 * p + k) - 131) % 60 = k by omega, show (131 + (60 * p + k) - 131) / 60 = p by omega] at hd
    obtain ⟨a, b⟩ := lA_lo (j := 60 * p + k) (by omega)
    rw [a, b, tv_0 (by unfold isSh; omega), Nat.mul_comm 60 p]
    have := h5 p hp k hd.2.2
    rw [Nat.mul_comm 60 p] at this
    exact this
  · obtain ⟨p, k, c, rfl, hp, hk, hc⟩ : ∃ p k c, j = 311 + ((60 * p + k) * 12 + c) ∧ p < 3 ∧ k < 60 ∧ c < 12 := ⟨(j - 311) / 720, (j - 311) / 12 % 60, (j - 311) % 12, by omega, by omega, by omega, by omega⟩
    rw [show (311 + ((60 * p + k) * 12 + c) - 311) / 12 % 60 = k by omega, show (311 + ((60 * p + k) * 12 + c) - 311) / 720 = p by omega] at hd
    obtain ⟨a, b⟩ := lA_li (j := (60 * p + k) * 12 + c)
    rw [a, b, tv_0 (by unfold isSh; omega), Nat.mul_comm 60 p]
    have := h6 p hp k hd.2.2 c hc
    rw [Nat.mul_comm 60 p] at this
    exact this
theorem tSt_of {σ : mS} {r : Nat} {τ ρ : Rw} (hb : bRow τ ρ) (h : ∀ j, dom τ ρ j → cv σ r j = tv j (ρ j)) : tSt σ r τ ρ := by
  obtain ⟨b1, b2, b3, b4, b5⟩ := hb
  unfold cv at h
  have g : ∀ j, j < 12 → dom τ ρ j := fun j hj => Or.inl hj
  refine ⟨?_, ?_, fun l hl => ?_, fun p hp => ?_, fun p hp k hk => ?_, fun p hp k hk c hc => ?_, fun s hs => ⟨?_, ?_, ?_⟩, fun m hm => ⟨?_, ?_, ?_, ?_, ?_⟩, fun i hi => ⟨?_, ?_, ?_, ?_, ?_, ?_⟩, fun i hi => ⟨?_, ?_, ?_⟩⟩
  · have := h 0 (g 0 (by omega)); rw [tv_0 (by decide)] at this; exact this
  · have := h 1 (g 1 (by omega)); rw [tv_0 (by decide)] at this; exact this
  · obtain ⟨a, b⟩ := lA_lf (l := l) (by omega)
    have := h (12 + l) (by unfold dom; omega)
    rw [a, b, tv_0 (by unfold isSh; omega)] at this; exact this
  · obtain ⟨a, b⟩ := lA_la (p := p) (by omega)
    have := h (24 + p) (by unfold dom; omega)
    rw [a, b, tv_0 (by unfold isSh; omega)] at this; exact this
  · have h60 := b5 p hp
    obtain ⟨a, b⟩ := lA_lo (j := 60 * p + k) (by omega)
    have := h (131 + (60 * p + k)) (dom_lo hp hk (by omega))
    rw [a, b, tv_0 (by unfold isSh; omega)] at this
    rw [Nat.mul_comm p 60]; exact this
  · have h60 := b5 p hp
    obtain ⟨a, b⟩ := lA_li (j := (60 * p + k) * 12 + c)
    have := h (311 + ((60 * p + k) * 12 + c)) (dom_li hp hk (by omega) hc)
    rw [a, b, tv_0 (by unfold isSh; omega)] at this
    rw [Nat.mul_comm p 60]; exact this
  · obtain ⟨a, b⟩ := lA_hT (s := s) (by omega)
    have := h (27 + s) (by unfold dom; omega)
    rw [a, b, tv_0 (by unfold isSh; omega)] at this; exact this
  · obtain ⟨a, b⟩ := lA_hO (s := s) (by omega)
    have := h (35 + s) (by unfold dom; omega)
    rw [a, b, tv_0 (by unfold isSh; omega)] at this; exact this
  · obtain ⟨a, b⟩ := lA_sa (s := s) (by omega)
    have := h (43 + s) (by unfold dom; omega)
    rw [a, b, tv_1 (by unfold isSh; omega)] at this; exact this
  · obtain ⟨a, b⟩ := lA_st hm
    have := h (2 + m) (g _ (by omega))
    rw [a, b, tv_1 (by unfold isSh; omega)] at this; exact this
  · obtain ⟨a, b⟩ := lA_wk hm
    have := h (4 + m) (g _ (by omega))
    rw [a, b, tv_0 (by unfold isSh; omega)] at this; exact this
  · obtain ⟨a, b⟩ := lA_wy hm
    have := h (6 + m) (g _ (by omega))
    rw [a, b, tv_0 (by unfold isSh; omega)] at this; exact this
  · obtain ⟨a, b⟩ := lA_wt hm
    have := h (8 + m) (g _ (by omega))
    rw [a, b, tv_0 (by unfold isSh; omega)] at this; exact this
  · obtain ⟨a, b⟩ := lA_or hm
    have := h (10 + m) (g _ (by omega))
    rw [a, b, tv_0 (by unfold isSh; omega)] at this; exact this
  all_goals try (have di : ∀ f, f < 7 → f ≠ 2 → dom τ ρ (51 + 7 * i + f) := fun f hf hf2 => by
                   have : i < ρ 10 := hi
                   unfold dom; omega)
  · obtain ⟨a, b⟩ := lA_o0 (i := i) (f := 0) (by omega) (by omega)
    have := h (51 + 7 * i + 0) (di 0 (by omega) (by omega))
    rw [a, b, tv_0 (by unfold isSh; omega)] at this; exact this
  · obtain ⟨a, b⟩ := lA_o0 (i := i) (f := 1) (by omega) (by omega)
    have := h (51 + 7 * i + 1) (di 1 (by omega) (by omega))
    rw [a, b, tv_0 (by unfold isSh; omega)] at this; exact this
  · obtain ⟨a, b⟩ := lA_o0 (i := i) (f := 5) (by omega) (by omega)
    have := h (51 + 7 * i + 5) (di 5 (by omega) (by omega))
    rw [a, b, tv_0 (by unfold isSh; omega)] at this; exact this
  · obtain ⟨a, b⟩ := lA_o0 (i := i) (f := 3) (by omega) (by omega)
    have := h (51 + 7 * i + 3) (di 3 (by omega) (by omega))
    rw [a, b, tv_0 (by unfold isSh; omega)] at this; exact this
  · obtain ⟨a, b⟩ := lA_o0 (i := i) (f := 4) (by omega) (by omega)
    have := h (51 + 7 * i + 4) (di 4 (by omega) (by omega))
    rw [a, b, tv_0 (by unfold isSh; omega)] at this; exact this
  · obtain ⟨a, b⟩ := lA_o0 (i := i) (f := 6) (by omega) (by omega)
    have := h (51 + 7 * i + 6) (di 6 (by omega) (by omega))
    rw [a, b, tv_1 (by unfold isSh; omega)] at this; exact this
  · obtain ⟨a, b⟩ := lA_o1 (i := i) (f := 0) (by omega) (by omega)
    have := h (107 + 3 * i + 0) (by have : i < ρ 11 := hi; unfold dom; omega)
    rw [a, b, tv_0 (by unfold isSh; omega)] at this; exact this
  · obtain ⟨a, b⟩ := lA_o1 (i := i) (f := 2) (by omega) (by omega)
    have := h (107 + 3 * i + 2) (by have : i < ρ 11 := hi; unfold dom; omega)
    rw [a, b, tv_0 (by unfold isSh; omega)] at this; exact this
  · obtain ⟨a, b⟩ := lA_o1 (i := i) (f := 1) (by omega) (by omega)
    have := h (107 + 3 * i + 1) (by have : i < ρ 11 := hi; unfold dom; omega)
    rw [a, b, tv_0 (by unfold isSh; omega)] at this; exact this
/-- a step from one state to the next -/
theorem tSt_up {σ σ' : mS} {r : Nat} {τ ρ ρ' : Rw} (h : tSt σ r τ ρ) (hb : bRow τ ρ) (hb' : bRow τ ρ') (hs : ∀ j, dom τ ρ' j → (dom τ ρ j ∧ cv σ' r j = cv σ r j ∧ ρ' j = ρ j) ∨ cv σ' r j = tv j (ρ' j)) : tSt σ' r τ ρ' :=
  tSt_of hb' (fun j hj => by
    rcases hs j hj with ⟨h1, h2, h3⟩ | h1
    · rw [h2, h3]; exact tSt_at h hb h1
    · exact h1)
theorem bRow_c {τ ρ ρ' : Rw} (hb : bRow τ ρ) (h : ρ' 10 = ρ 10 ∧ ρ' 11 = ρ 11 ∧ ∀ p, p < 3 → ρ' (24 + p) = ρ (24 + p)) : bRow τ ρ' := by
  obtain ⟨b1, b2, b3, b4, b5⟩ := hb
  exact ⟨b1, b2, by rw [h.1]; exact b3, by rw [h.2.1]; exact b4, fun p hp => by rw [h.2.2 p hp]; exact b5 p hp⟩
theorem dom_c {τ ρ ρ' : Rw} (h : ρ' 10 = ρ 10 ∧ ρ' 11 = ρ 11 ∧ ∀ p, p < 3 → ρ' (24 + p) = ρ (24 + p)) {j : Nat} (hd : dom τ ρ' j) : dom τ ρ j := by
  obtain ⟨h1, h2, h3⟩ := h
  unfold dom at hd ⊢
  rw [h1, h2] at hd
  rcases hd with hd | hd | hd | hd | hd | hd | hd | hd | hd | hd
  · exact Or.inl hd
  · exact Or.inr (Or.inl hd)
  · exact Or.inr (Or.inr (Or.inl hd))
  · exact Or.inr (Or.inr (Or.inr (Or.inl hd)))
  · exact Or.inr (Or.inr (Or.inr (Or.inr (Or.inl hd))))
  · exact Or.inr (Or.inr (Or.inr (Or.inr (Or.inr (Or.inl hd)))))
  · exact Or.inr (Or.inr (Or.inr (Or.inr (Or.inr (Or.inr (Or.inl hd))))))
  · exact Or.inr (Or.inr (Or.inr (Or.inr (Or.inr (Or.inr (Or.inr (Or.inl hd)))))))
  · rw [h3 _ (by omega)] at hd
    exact Or.inr (Or.inr (Or.inr (Or.inr (Or.inr (Or.inr (Or.inr (Or.inr (Or.inl hd))))))))
  · rw [h3 _ (by omega)] at hd
    exact Or.inr (Or.inr (Or.inr (Or.inr (Or.inr (Or.inr (Or.inr (Or.inr (Or.inr hd))))))))
theorem cnt_set {ρ : Rw} {j x : Nat} (hc : j ≠ 10 ∧ j ≠ 11 ∧ (j < 24 ∨ 27 ≤ j)) : rSet ρ j x 10 = ρ 10 ∧ rSet ρ j x 11 = ρ 11 ∧ ∀ p, p < 3 → rSet ρ j x (24 + p) = ρ (24 + p) :=
  ⟨rS_ne (by omega), rS_ne (by omega), fun p hp => rS_ne (by omega)⟩
/-- a write where the place j is kept -/
theorem tSt_w {σ : mS} {r j A J x : Nat} {v : Int32} {τ ρ : Rw} (h : tSt σ r τ ρ) (hb : bRow τ ρ) (hj : in0 j) (hl : locA j = A ∧ locJ j = J) (hv : v = tv j x) (hc : j ≠ 10 ∧ j ≠ 11 ∧ (j < 24 ∨ 27 ≤ j)) : tSt (uI σ (r + A) J v) r τ (rSet ρ j x) := by
  obtain ⟨hA, hJ⟩ := hl
  refine tSt_up h hb (bRow_c hb (cnt_set hc)) (fun i hi => ?_)
  have hd := dom_c (cnt_set hc) hi
  by_cases e : i = j
  · subst e
    refine Or.inr ?_
    unfold cv
    rw [uI_1, hA, hJ, if_pos ⟨rfl, rfl⟩, rS_eq, hv]
  · refine Or.inl ⟨hd, ?_, rS_ne e⟩
    unfold cv
    rw [uI_1]
    refine if_neg (fun q => e (loc_inj (dom_in hb hd) hj ?_ ?_))
    · rw [hA]; omega
    · rw [hJ]; exact q.2
theorem tSt_w0 {σ : mS} {r j J x : Nat} {v : Int32} {τ ρ : Rw} (h : tSt σ r τ ρ) (hb : bRow τ ρ) (hj : in0 j) (hl : locA j = 0 ∧ locJ j = J) (hv : v = tv j x) (hc : j ≠ 10 ∧ j ≠ 11 ∧ (j < 24 ∨ 27 ≤ j)) : tSt (uI σ r J v) r τ (rSet ρ j x) :=
  tSt_w (A := 0) h hb hj hl hv hc
/-- a write where nothing is kept -/
theorem tSt_j {σ : mS} {r A J : Nat} {v : Int32} {τ ρ : Rw} (h : tSt σ r τ ρ) (hb : bRow τ ρ) (hn : ∀ j, dom τ ρ j → locA j = A → locJ j ≠ J) : tSt (uI σ (r + A) J v) r τ ρ := by
  refine tSt_up h hb hb (fun i hi => Or.inl ⟨hi, ?_, rfl⟩)
  unfold cv
  rw [uI_1]
  refine if_neg (fun q => hn i hi (by omega) q.2)
theorem frR_mo {r s r' s' : Nat} {σ σ' : mS} (h : frR r s σ σ') (h1 : r' ≤ r) (h2 : s ≤ s') : frR r' s' σ σ' := ⟨fun a h3 => h.1 a (by omega), h.2⟩
theorem tSt_fr {σ σ' : mS} {r : Nat} {τ ρ : Rw} (h : tSt σ r τ ρ) (hf : ∀ a, r ≤ a → a < r + 14 → σ'.1 a = σ.1 a) : tSt σ' r τ ρ := by
  unfold tSt at h ⊢
  rw [hf r (by omega) (by omega), hf (r + 1) (by omega) (by omega), hf (r + 2) (by omega) (by omega), hf (r + 3) (by omega) (by omega), hf (r + 4) (by omega) (by omega), hf (r + 5) (by omega) (by omega), hf (r + 6) (by omega) (by omega), hf (r + 7) (by omega) (by omega), hf (r + 8) (by omega) (by omega), hf (r + 9) (by omega) (by omega), hf (r + 10) (by omega) (by omega), hf (r + 11) (by omega) (by omega), hf (r + 12) (by omega) (by omega), hf (r + 13) (by omega) (by omega)]
  exact h
theorem tTold_fr {σ σ' : mS} {t : Nat} {τ : Rw} (h : tTold σ t τ) (hf : ∀ a, t ≤ a → a < t + 10 → σ'.1 a = σ.1 a) : tTold σ' t τ := by
  unfold tTold at h ⊢
  rw [hf t (by omega) (by omega), hf (t + 1) (by omega) (by omega), hf (t + 2) (by omega) (by omega), hf (t + 3) (by omega) (by omega), hf (t + 4) (by omega) (by omega), hf (t + 5) (by omega) (by omega), hf (t + 6) (by omega) (by omega), hf (t + 7) (by omega) (by omega), hf (t + 8) (by omega) (by omega), hf (t + 9) (by omega) (by omega)]
  exact h
theorem vRow_b {τ ρ : Rw} (hv : vTold τ) (h : vRow τ ρ) : bRow τ ρ := ⟨hv.1, hv.2.2.1, h.2.2.2.2.2.1, h.2.2.2.2.2.2.1, h.2.2.2.2.2.2.2.1⟩
/-- a row of memory, all new -/
def uG (σ : mS) (a : Nat) (f : Nat → Int32) : mS := (fun a' j' => if a' = a then f j' else σ.1 a' j', σ.2)
theorem uG_1 {σ : mS} {a a' j' : Nat} {f : Nat → Int32} : (uG σ a f).1 a' j' = if a' = a then f j' else σ.1 a' j' := rfl
theorem uG_2 {σ : mS} {a : Nat} {f : Nat → Int32} : (uG σ a f).2 = σ.2 := rfl
theorem uG_I {σ : mS} {a j : Nat} {x : Int32} {f : Nat → Int32} : uI (uG σ a f) a j x = uG σ a (fun j' => if j' = j then x else f j') := by
  refine Prod.ext (funext fun a' => funext fun j' => ?_) rfl
  show (if a' = a ∧ j' = j then x else if a' = a then f j' else σ.1 a' j') = if a' = a then (if j' = j then x else f j') else σ.1 a' j'
  by_cases h : a' = a
  · by_cases h2 : j' = j
    · rw [if_pos ⟨h, h2⟩, if_pos h, if_pos h2]
    · rw [if_neg (fun q => h2 q.2), if_pos h, if_pos h, if_neg h2]
  · rw [if_neg (fun q => h q.1), if_neg h, if_neg h]
theorem uG_s {σ : mS} {a : Nat} {f : Nat → Int32} (h : ∀ j, f j = σ.1 a j) : uG σ a f = σ := by
  refine Prod.ext (funext fun a' => funext fun j' => ?_) rfl
  show (if a' = a then f j' else σ.1 a' j') = σ.1 a' j'
  split
  · rename_i e; rw [e]; exact h j'
  · rfl
theorem uG_c {σ : mS} {a : Nat} {f g : Nat → Int32} (h : ∀ j, f j = g j) : uG σ a f = uG σ a g := by rw [show f = g from funext h]
theorem frR_G {r s : Nat} {σ : mS} {a : Nat} {f : Nat → Int32} (h : r ≤ a ∧ a < s) : frR r s σ (uG σ a f) := by
  refine ⟨fun q h1 => ?_, rfl⟩
  have hq : ¬ q = a := by omega
  exact funext fun j => if_neg hq
theorem frR_C {r s : Nat} {σ : mS} {a0 sp a1 dp n : Nat} (h : r ≤ a1 ∧ a1 < s) : frR r s σ (uC σ a0 sp a1 dp n) := by
  refine ⟨fun q h1 => ?_, rfl⟩
  have hq : ¬ q = a1 := by omega
  exact funext fun j => if_neg hq
theorem tSt_R {σ σ' : mS} {r lo hi : Nat} {τ ρ : Rw} (h : tSt σ r τ ρ) (hf : frR lo hi σ σ') (hd : r + 14 ≤ lo ∨ hi ≤ r) : tSt σ' r τ ρ := tSt_fr h (fun a h1 h2 => hf.1 a (by omega))
theorem tTold_R {σ σ' : mS} {t lo hi : Nat} {τ : Rw} (h : tTold σ t τ) (hf : frR lo hi σ σ') (hd : t + 10 ≤ lo ∨ hi ≤ t) : tTold σ' t τ := tTold_fr h (fun a h1 h2 => hf.1 a (by omega))
end
section
/-! what is done to a state, told in numbers -/
def dist (a b : Nat) : Nat := (a - b) + (b - a)
def onAt (ρ : Rw) (m p : Nat) : Prop := ρ (2 + m) ≠ 0 ∧ (ρ (2 + m) - 1) / 100 = p
abbrev onAtD (ρ : Rw) (m p : Nat) : Bool := decide (ρ (2 + m) ≠ 0 ∧ (ρ (2 + m) - 1) / 100 = p)
def cellAt (ρ : Rw) (m : Nat) : Nat := (ρ (2 + m) - 1) % 100
/-- a machine goes to a cell -/
def sGo (ρ : Rw) (m p c : Nat) : Rw := rSet (rSet ρ (4 + m) (ρ (4 + m) + if onAtD ρ m p then dist (cellAt ρ m) c else 10)) (2 + m) (100 * p + c + 1)
/-- a new layer -/
def sAdd (ρ : Rw) (p l : Nat) : Rw := rSet (rSet ρ (lo p (ρ (24 + p))) l) (24 + p) (ρ (24 + p) + 1)
/-- tonnes are laid -/
def sPour (ρ : Rw) (p k c t : Nat) : Rw := rSet (rSet ρ (li p k c) (ρ (li p k c) + t)) (12 + ρ (lo p k)) (ρ (12 + ρ (lo p k)) - t)
/-- a cell's column -/
abbrev isCol (ρ : Rw) (p c j : Nat) : Prop := 311 ≤ j ∧ (j - 311) / 720 = p ∧ (j - 311) % 12 = c ∧ (j - 311) / 12 % 60 < ρ (24 + p)
def sMove (τ ρ : Rw) (p c s : Nat) : Rw := fun j => if isCol ρ p c j then 0 else if j = 35 + s then ρ (35 + s) + gOn τ ρ p c else if j = 27 + s then ρ (27 + s) + tOn ρ p c else ρ j
/-- orders -/
def sO0 (ρ : Rw) (p l a b t : Nat) : Rw :=
  fun j => if j = 10 then ρ 10 + 1 else if 51 + 7 * ρ 10 ≤ j ∧ j < 51 + 7 * ρ 10 + 7 then
    (if j = 51 + 7 * ρ 10 then p else if j = 51 + 7 * ρ 10 + 1 then l else if j = 51 + 7 * ρ 10 + 2 then a else if j = 51 + 7 * ρ 10 + 3 then b else if j = 51 + 7 * ρ 10 + 4 then t else if j = 51 + 7 * ρ 10 + 5 then a else 0) else ρ j
def sO1 (ρ : Rw) (p c s : Nat) : Rw :=
  fun j => if j = 11 then ρ 11 + 1 else if 107 + 3 * ρ 11 ≤ j ∧ j < 107 + 3 * ρ 11 + 3 then
    (if j = 107 + 3 * ρ 11 then p else if j = 107 + 3 * ρ 11 + 1 then c else s) else ρ j
def sE0 (ρ : Rw) : Rw := fun j => if j = 10 then ρ 10 - 1 else if j = 6 then 0 else if 51 ≤ j ∧ j < 51 + 7 * (ρ 10 - 1) then ρ (j + 7) else ρ j
def sE1 (ρ : Rw) : Rw := fun j => if j = 11 then ρ 11 - 1 else if j = 7 then 0 else if 107 ≤ j ∧ j < 107 + 3 * (ρ 11 - 1) then ρ (j + 3) else ρ j
/-! what a state can be: its pieces -/
theorem vR_day {τ ρ : Rw} (h : vRow τ ρ) : ρ 0 ≤ 999 := h.1
theorem vR_on {τ ρ : Rw} (h : vRow τ ρ) {m : Nat} (hm : m < 2) : onP τ ρ m := by
  have : m = 0 ∨ m = 1 := by omega
  rcases this with rfl | rfl
  · exact h.2.1
  · exact h.2.2.1
theorem vR_way {τ ρ : Rw} (h : vRow τ ρ) {m : Nat} (hm : m < 2) : ρ (6 + m) ≤ 10 := by
  have : m = 0 ∨ m = 1 := by omega
  rcases this with rfl | rfl
  · exact h.2.2.2.1
  · exact h.2.2.2.2.1
theorem vR_c0 {τ ρ : Rw} (h : vRow τ ρ) : ρ 10 ≤ 8 := h.2.2.2.2.2.1
theorem vR_c1 {τ ρ : Rw} (h : vRow τ ρ) : ρ 11 ≤ 8 := h.2.2.2.2.2.2.1
theorem vR_la {τ ρ : Rw} (h : vRow τ ρ) : ∀ p, p < 3 → ρ (24 + p) ≤ 60 := h.2.2.2.2.2.2.2.1
theorem vR_lo {τ ρ : Rw} (h : vRow τ ρ) : ∀ p, p < 3 → ∀ k, k < ρ (24 + p) → ρ (lo p k) < τ 0 := h.2.2.2.2.2.2.2.2.1
theorem vR_z {τ ρ : Rw} (h : vRow τ ρ) : ∀ p, p < 3 → ∀ k, ρ (24 + p) ≤ k → k < 60 → ∀ c, c < 12 → ρ (li p k c) = 0 := h.2.2.2.2.2.2.2.2.2.1
theorem vR_all {τ ρ : Rw} (h : vRow τ ρ) : allT τ ρ ≤ 119988 := h.2.2.2.2.2.2.2.2.2.2.1
theorem vR_ore {τ ρ : Rw} (h : vRow τ ρ) : ∀ s, s < τ 2 → ρ (35 + s) ≤ 999 * ρ (27 + s) := h.2.2.2.2.2.2.2.2.2.2.2.1
theorem vR_sa {τ ρ : Rw} (h : vRow τ ρ) : ∀ s, s < τ 2 → ρ (43 + s) ≤ 1000 := h.2.2.2.2.2.2.2.2.2.2.2.2.1
abbrev vO0 (τ ρ : Rw) (i : Nat) : Prop := ρ (51 + 7 * i) < τ 1 ∧ ρ (51 + 7 * i + 1) < τ 0 ∧ ρ (51 + 7 * i + 3) < τ (28 + ρ (51 + 7 * i)) ∧ ρ (51 + 7 * i + 5) < τ (28 + ρ (51 + 7 * i)) ∧ (1 ≤ ρ (51 + 7 * i + 4) ∧ ρ (51 + 7 * i + 4) ≤ 99) ∧ (ρ (51 + 7 * i + 6) = 0 ∨ (ρ (51 + 7 * i + 6) ≤ ρ (24 + ρ (51 + 7 * i)) ∧ ρ (lo (ρ (51 + 7 * i)) (ρ (51 + 7 * i + 6) - 1)) = ρ (51 + 7 * i + 1)))
abbrev vO1 (τ ρ : Rw) (i : Nat) : Prop := ρ (107 + 3 * i) < τ 1 ∧ ρ (107 + 3 * i + 1) < τ (28 + ρ (107 + 3 * i)) ∧ ρ (107 + 3 * i + 2) < τ 2
theorem vR_o0 {τ ρ : Rw} (h : vRow τ ρ) : ∀ i, i < ρ 10 → vO0 τ ρ i := h.2.2.2.2.2.2.2.2.2.2.2.2.2.1
theorem vR_o1 {τ ρ : Rw} (h : vRow τ ρ) : ∀ i, i < ρ 11 → vO1 τ ρ i := h.2.2.2.2.2.2.2.2.2.2.2.2.2.2
theorem vR_mk {τ ρ : Rw} (h0 : ρ 0 ≤ 999) (h1 : ∀ m, m < 2 → onP τ ρ m) (h2 : ∀ m, m < 2 → ρ (6 + m) ≤ 10) (h3 : ρ 10 ≤ 8) (h4 : ρ 11 ≤ 8) (h5 : ∀ p, p < 3 → ρ (24 + p) ≤ 60)
    (h6 : ∀ p, p < 3 → ∀ k, k < ρ (24 + p) → ρ (lo p k) < τ 0) (h7 : ∀ p, p < 3 → ∀ k, ρ (24 + p) ≤ k → k < 60 → ∀ c, c < 12 → ρ (li p k c) = 0)
    (h8 : allT τ ρ ≤ 119988) (h9 : ∀ s, s < τ 2 → ρ (35 + s) ≤ 999 * ρ (27 + s)) (h10 : ∀ s, s < τ 2 → ρ (43 + s) ≤ 1000) (h11 : ∀ i, i < ρ 10 → vO0 τ ρ i) (h12 : ∀ i, i < ρ 11 → vO1 τ ρ i) : vRow τ ρ :=
  ⟨h0, h1 0 (by omega), h1 1 (by omega), h2 0 (by omega), h2 1 (by omega), h3, h4, h5, h6, h7, h8, h9, h10, h11, h12⟩
theorem onP_c {τ ρ ρ' : Rw} {m : Nat} (h : onP τ ρ m) (e : ρ' (2 + m) = ρ (2 + m)) : onP τ ρ' m := by
  unfold onP at h ⊢
  rw [e]; exact h
theorem tOn_c {ρ ρ' : Rw} {p c : Nat} (h1 : ρ' (24 + p) = ρ (24 + p)) (h2 : ∀ k, k < ρ (24 + p) → ρ' (li p k c) = ρ (li p k c)) : tOn ρ' p c = tOn ρ p c := by
  unfold tOn
  rw [h1]; exact sm_eq h2
theorem gOn_c {τ ρ ρ' : Rw} {p c : Nat} (h1 : ρ' (24 + p) = ρ (24 + p)) (h2 : ∀ k, k < ρ (24 + p) → ρ' (li p k c) = ρ (li p k c) ∧ ρ' (lo p k) = ρ (lo p k)) : gOn τ ρ' p c = gOn τ ρ p c := by
  unfold gOn
  rw [h1]; exact sm_eq (fun k hk => by rw [(h2 k hk).1, (h2 k hk).2])
theorem allT_c {τ ρ ρ' : Rw} (h1 : ∀ l, l < τ 0 → ρ' (12 + l) = ρ (12 + l)) (h2 : ∀ p, p < 3 → ∀ c, c < 12 → tOn ρ' p c = tOn ρ p c) (h3 : ∀ s, s < τ 2 → ρ' (27 + s) = ρ (27 + s)) : allT τ ρ' = allT τ ρ := by
  have e1 : sm (τ 0) (fun l => ρ' (12 + l)) = sm (τ 0) (fun l => ρ (12 + l)) := sm_eq h1
  have e2 : sm 3 (fun p => sm 12 (fun c => tOn ρ' p c)) = sm 3 (fun p => sm 12 (fun c => tOn ρ p c)) := sm_eq (fun p hp => sm_eq (fun c hc => h2 p hp c hc))
  have e3 : sm (τ 2) (fun s => ρ' (27 + s)) = sm (τ 2) (fun s => ρ (27 + s)) := sm_eq h3
  unfold allT
  rw [e1, e2, e3]
theorem vO0_c {τ ρ ρ' : Rw} {i i' : Nat} (hv : vTold τ) (h : vO0 τ ρ i') (e : ∀ f, f < 7 → f ≠ 2 → ρ' (51 + 7 * i + f) = ρ (51 + 7 * i' + f)) (h1 : ∀ p, p < 3 → ρ (24 + p) ≤ ρ' (24 + p)) (h2 : ∀ p, p < 3 → ∀ k, k < ρ (24 + p) → ρ' (lo p k) = ρ (lo p k)) : vO0 τ ρ' i := by
  have e0 : ρ' (51 + 7 * i) = ρ (51 + 7 * i') := e 0 (by omega) (by omega)
  have e1 := e 1 (by omega) (by omega)
  have e3 := e 3 (by omega) (by omega)
  have e4 := e 4 (by omega) (by omega)
  have e5 := e 5 (by omega) (by omega)
  have e6 := e 6 (by omega) (by omega)
  obtain ⟨a, b, c, d, f, g⟩ := h
  have a3 : ρ (51 + 7 * i') < 3 := by have := hv.2.1; omega
  refine ⟨?_, ?_, ?_, ?_, ?_, ?_⟩
  · rw [e0]; exact a
  · rw [e1]; exact b
  · rw [e3, e0]; exact c
  · rw [e5, e0]; exact d
  · rw [e4]; exact f
  · rw [e6, e0, e1]
    by_cases z : ρ (51 + 7 * i' + 6) = 0
    · exact Or.inl z
    · rcases g with g | ⟨g1, g2⟩
      · exact Or.inl g
      · refine Or.inr ⟨Nat.le_trans g1 (h1 _ a3), ?_⟩
        rw [h2 _ a3 _ (by omega)]; exact g2
theorem vO1_c {τ ρ ρ' : Rw} {i i' : Nat} (h : vO1 τ ρ i') (e : ∀ f, f < 3 → ρ' (107 + 3 * i + f) = ρ (107 + 3 * i' + f)) : vO1 τ ρ' i := by
  have e0 : ρ' (107 + 3 * i) = ρ (107 + 3 * i') := e 0 (by omega)
  have e1 := e 1 (by omega)
  have e2 := e 2 (by omega)
  obtain ⟨a, b, c⟩ := h
  refine ⟨?_, ?_, ?_⟩
  · rw [e0]; exact a
  · rw [e1, e0]; exact b
  · rw [e2]; exact c
/-- a change ahead of place 12 -/
theorem vRow_hd {τ ρ ρ' : Rw} (hv : vTold τ) (h : vRow τ ρ) (e : ∀ j, 12 ≤ j → ρ' j = ρ j) (h0 : ρ' 0 ≤ 999) (h1 : ∀ m, m < 2 → onP τ ρ' m) (h2 : ∀ m, m < 2 → ρ' (6 + m) ≤ 10) (h3 : ρ' 10 ≤ ρ 10) (h4 : ρ' 11 ≤ ρ 11) : vRow τ ρ' := by
  refine vR_mk h0 h1 h2 (Nat.le_trans h3 (vR_c0 h)) (Nat.le_trans h4 (vR_c1 h)) (fun p hp => ?_) (fun p hp k hk => ?_) (fun p hp k hk hk2 c hc => ?_) ?_ (fun s hs => ?_) (fun s hs => ?_) (fun i hi => ?_) (fun i hi => ?_)
  · rw [e _ (by omega)]; exact vR_la h p hp
  · rw [e _ (by omega)] at hk
    rw [e _ (by unfold lo; omega)]; exact vR_lo h p hp k hk
  · rw [e _ (by omega)] at hk
    rw [e _ (by unfold li; omega)]; exact vR_z h p hp k hk hk2 c hc
  · rw [allT_c (fun l _ => e _ (by omega)) (fun p _ c _ => tOn_c (e _ (by omega)) (fun k _ => e _ (by unfold li; omega))) (fun s _ => e _ (by omega))]
    exact vR_all h
  · rw [e _ (by omega), e _ (by omega)]; exact vR_ore h s hs
  · rw [e _ (by omega)]; exact vR_sa h s hs
  · exact vO0_c hv (vR_o0 h i (by omega)) (fun f _ _ => e _ (by omega)) (fun p _ => by rw [e _ (by omega)]; exact Nat.le_refl _) (fun p _ k _ => e _ (by unfold lo; omega))
  · exact vO1_c (vR_o1 h i (by omega)) (fun f _ => e _ (by omega))
/-- a machine goes -/
theorem vRow_go {τ ρ : Rw} {m p c : Nat} (hv : vTold τ) (h : vRow τ ρ) (hm : m < 2) (hp : p < τ 1) (hc : c < τ (28 + p)) : vRow τ (sGo ρ m p c) := by
  have g : ∀ j, j ≠ 2 + m → j ≠ 4 + m → sGo ρ m p c j = ρ j := fun j h1 h2 => by
    unfold sGo; rw [rS_ne h1, rS_ne h2]
  refine vRow_hd hv h (fun j hj => g j (by omega) (by omega)) (by rw [g 0 (by omega) (by omega)]; exact vR_day h) (fun m' hm' => ?_) (fun m' hm' => by rw [g _ (by omega) (by omega)]; exact vR_way h hm') (by rw [g _ (by omega) (by omega)]; exact Nat.le_refl _) (by rw [g _ (by omega) (by omega)]; exact Nat.le_refl _)
  by_cases e : m' = m
  · subst e
    exact Or.inr ⟨p, c, hp, hc, by unfold sGo; rw [rS_eq]⟩
  · exact onP_c (vR_on h hm') (g _ (by omega) (by omega))
/-- a place that is not held to much -/
theorem vRow_s {τ ρ : Rw} {j x : Nat} (hv : vTold τ) (h : vRow τ ρ) (hj : j = 1 ∨ j = 4 ∨ j = 5 ∨ j = 8 ∨ j = 9 ∨ (j = 0 ∧ x ≤ 999) ∨ ((j = 2 ∨ j = 3) ∧ x = 0) ∨ ((j = 6 ∨ j = 7) ∧ x ≤ 10) ∨ (j = 10 ∧ x ≤ ρ 10) ∨ (j = 11 ∧ x ≤ ρ 11)) : vRow τ (rSet ρ j x) := by
  have v0 := vR_day h
  refine vRow_hd hv h (fun i hi => rS_ne (by omega)) ?_ (fun m hm => ?_) (fun m hm => ?_) ?_ ?_
  · rw [rSet_1]; split <;> omega
  · by_cases e : 2 + m = j
    · refine Or.inl ?_
      rw [rSet_1, if_pos e]; omega
    · exact onP_c (vR_on h hm) (rS_ne e)
  · have := vR_way h hm
    rw [rSet_1]; split <;> omega
  · rw [rSet_1]; split <;> omega
  · rw [rSet_1]; split <;> omega
/-- a new layer -/
theorem sAdd_1 {ρ : Rw} {p l j : Nat} : sAdd ρ p l j = if j = 24 + p then ρ (24 + p) + 1 else if j = lo p (ρ (24 + p)) then l else ρ j := rfl
theorem vRow_add {τ ρ : Rw} {p l : Nat} (hv : vTold τ) (h : vRow τ ρ) (hp : p < 3) (hl : l < τ 0) (hk : ρ (24 + p) < 60) : vRow τ (sAdd ρ p l) := by
  have g : ∀ j, (j < 24 ∨ 27 ≤ j ∧ j < 131 ∨ 311 ≤ j) → sAdd ρ p l j = ρ j := fun j hj => by
    rw [sAdd_1, if_neg (by omega), if_neg (by unfold lo; omega)]
  have g2 : ∀ q, q < 3 → sAdd ρ p l (24 + q) = if q = p then ρ (24 + p) + 1 else ρ (24 + q) := fun q hq => by
    rw [sAdd_1]
    by_cases e : q = p
    · rw [if_pos e, if_pos (by omega)]
    · rw [if_neg e, if_neg (by omega), if_neg (by unfold lo; omega)]
  have g3 : ∀ q, q < 3 → ∀ k, k < 60 → sAdd ρ p l (lo q k) = if q = p ∧ k = ρ (24 + p) then l else ρ (lo q k) := fun q hq k hk2 => by
    rw [sAdd_1, if_neg (by unfold lo; omega)]
    by_cases e : q = p ∧ k = ρ (24 + p)
    · rw [if_pos e, if_pos (by rw [e.1, e.2])]
    · rw [if_neg e, if_neg (by unfold lo; omega)]
  have ela := vR_la h
  refine vR_mk ?_ (fun m hm => ?_) (fun m hm => ?_) ?_ ?_ (fun q hq => ?_) (fun q hq k hk2 => ?_) (fun q hq k hk2 hk3 c hc => ?_) ?_ (fun s hs => ?_) (fun s hs => ?_) (fun i hi => ?_) (fun i hi => ?_)
  · rw [g _ (by omega)]; exact vR_day h
  · exact onP_c (vR_on h hm) (g _ (by omega))
  · rw [g _ (by omega)]; exact vR_way h hm
  · rw [g _ (by omega)]; exact vR_c0 h
  · rw [g _ (by omega)]; exact vR_c1 h
  · rw [g2 q hq]; have := ela q hq; split <;> omega
  · rw [g2 q hq] at hk2
    have := ela q hq
    rw [g3 q hq k (by split at hk2 <;> omega)]
    by_cases e : q = p ∧ k = ρ (24 + p)
    · rw [if_pos e]; exact hl
    · rw [if_neg e]
      refine vR_lo h q hq k ?_
      by_cases e2 : q = p
      · rw [if_pos e2] at hk2; subst e2; omega
      · rw [if_neg e2] at hk2; exact hk2
  · rw [g2 q hq] at hk2
    rw [g _ (by unfold li; omega)]
    refine vR_z h q hq k ?_ hk3 c hc
    by_cases e2 : q = p
    · rw [if_pos e2] at hk2; subst e2; omega
    · rw [if_neg e2] at hk2; exact hk2
  · rw [allT_c (fun l' hl' => g _ (by have := hv.1; omega)) (fun q hq c hc => ?_) (fun s hs => g _ (by have := hv.2.2.1; omega))]
    · exact vR_all h
    · unfold tOn
      rw [g2 q hq]
      by_cases e2 : q = p
      · subst e2
        rw [if_pos rfl, sm_s, g _ (by unfold li; omega), vR_z h q hq _ (Nat.le_refl _) hk c hc]
        exact sm_eq (fun k _ => g _ (by unfold li; omega))
      · rw [if_neg e2]
        exact sm_eq (fun k _ => g _ (by unfold li; omega))
  · have := hv.2.2.1
    rw [g _ (by omega), g _ (by omega)]; exact vR_ore h s hs
  · have := hv.2.2.1
    rw [g _ (by omega)]; exact vR_sa h s hs
  · rw [g _ (by omega)] at hi
    have c0 := vR_c0 h
    refine vO0_c hv (vR_o0 h i hi) (fun f _ _ => g _ (by omega)) (fun q hq => ?_) (fun q hq k hk2 => ?_)
    · rw [g2 q hq]; split
      · rename_i e; subst e; omega
      · exact Nat.le_refl _
    · have := ela q hq
      rw [g3 q hq k (by omega), if_neg (by rintro ⟨e, e2⟩; subst e; omega)]
  · rw [g _ (by omega)] at hi
    have c1 := vR_c1 h
    exact vO1_c (vR_o1 h i hi) (fun f _ => g _ (by omega))
/-- tonnes are laid -/
theorem sm_up {n i x : Nat} {f g : Nat → Nat} (h : i < n) (hg : ∀ j, j < n → g j = if j = i then x else f j) : sm n g + f i = sm n f + x := by
  rw [sm_eq hg]; exact sm_upd h
theorem sPour_1 {ρ : Rw} {p k c t j : Nat} : sPour ρ p k c t j = if j = 12 + ρ (lo p k) then ρ (12 + ρ (lo p k)) - t else if j = li p k c then ρ (li p k c) + t else ρ j := by
  unfold sPour
  rw [rSet_1, rSet_1]
theorem vRow_pour {τ ρ : Rw} {p k c t : Nat} (hv : vTold τ) (h : vRow τ ρ) (hp : p < 3) (hk : k < ρ (24 + p)) (hc : c < 12) (ht : t ≤ ρ (12 + ρ (lo p k))) : vRow τ (sPour ρ p k c t) := by
  have hl := vR_lo h p hp k hk
  have v0 := hv.1
  have v2 := hv.2.2.1
  have ela := vR_la h
  have g : ∀ j, (j < 12 ∨ 24 ≤ j ∧ j < 311) → sPour ρ p k c t j = ρ j := fun j hj => by
    rw [sPour_1, if_neg (by omega), if_neg (by unfold li; omega)]
  have g1 : ∀ j, j < τ 0 → sPour ρ p k c t (12 + j) = if j = ρ (lo p k) then ρ (12 + ρ (lo p k)) - t else ρ (12 + j) := fun j hj => by
    rw [sPour_1]
    by_cases e : j = ρ (lo p k)
    · rw [if_pos e, if_pos (by rw [e])]
    · rw [if_neg e, if_neg (by omega), if_neg (by unfold li; omega)]
  have g2 : ∀ q, q < 3 → ∀ k', k' < 60 → ∀ c', c' < 12 → sPour ρ p k c t (li q k' c') = if q = p ∧ k' = k ∧ c' = c then ρ (li p k c) + t else ρ (li q k' c') := fun q hq k' hk' c' hc' => by
    have := ela p hp
    rw [sPour_1, if_neg (by unfold li; omega)]
    by_cases e : q = p ∧ k' = k ∧ c' = c
    · rw [if_pos e, if_pos (by rw [e.1, e.2.1, e.2.2])]
    · rw [if_neg e, if_neg (by unfold li; omega)]
  have t1 : ∀ q, q < 3 → ∀ c', c' < 12 → ¬ (q = p ∧ c' = c) → tOn (sPour ρ p k c t) q c' = tOn ρ q c' := fun q hq c' hc' hn => by
    have := ela q hq
    refine tOn_c (g _ (by omega)) (fun k' hk' => ?_)
    rw [g2 q hq k' (by omega) c' hc', if_neg (by rintro ⟨e, -, e2⟩; exact hn ⟨e, e2⟩)]
  have t2 : tOn (sPour ρ p k c t) p c = tOn ρ p c + t := by
    have h60 := ela p hp
    have a := sm_up (n := ρ (24 + p)) (i := k) (x := ρ (li p k c) + t) (f := fun k' => ρ (li p k' c)) (g := fun k' => sPour ρ p k c t (li p k' c)) hk (fun k' hk' => by
      have := g2 p hp k' (by omega) c hc
      show sPour ρ p k c t (li p k' c) = _
      rw [this]
      by_cases e : k' = k
      · rw [if_pos ⟨rfl, e, rfl⟩, if_pos e]
      · rw [if_neg (by rintro ⟨-, e2, -⟩; exact e e2), if_neg e])
    unfold tOn
    rw [g _ (by omega)]
    omega
  refine vR_mk ?_ (fun m hm => ?_) (fun m hm => ?_) ?_ ?_ (fun q hq => ?_) (fun q hq k' hk2 => ?_) (fun q hq k' hk2 hk3 c' hc' => ?_) ?_ (fun s hs => ?_) (fun s hs => ?_) (fun i hi => ?_) (fun i hi => ?_)
  · rw [g _ (by omega)]; exact vR_day h
  · exact onP_c (vR_on h hm) (g _ (by omega))
  · rw [g _ (by omega)]; exact vR_way h hm
  · rw [g _ (by omega)]; exact vR_c0 h
  · rw [g _ (by omega)]; exact vR_c1 h
  · rw [g _ (by omega)]; exact ela q hq
  · rw [g _ (by omega)] at hk2
    have := ela q hq
    rw [g _ (by unfold lo; omega)]; exact vR_lo h q hq k' hk2
  · rw [g _ (by omega)] at hk2
    rw [g2 q hq k' hk3 c' hc', if_neg (by rintro ⟨e, e2, -⟩; subst e; omega)]
    exact vR_z h q hq k' hk2 hk3 c' hc'
  · have a1 := sm_up (n := τ 0) (i := ρ (lo p k)) (x := ρ (12 + ρ (lo p k)) - t) (f := fun l' => ρ (12 + l')) (g := fun l' => sPour ρ p k c t (12 + l')) hl g1
    have a3 := sm_up (n := 12) (i := c) (x := tOn ρ p c + t) (f := fun c' => tOn ρ p c') (g := fun c' => tOn (sPour ρ p k c t) p c') hc (fun c' hc' => by
      show tOn (sPour ρ p k c t) p c' = _
      by_cases e : c' = c
      · rw [if_pos e, e, t2]
      · rw [if_neg e, t1 p hp c' hc' (fun q => e q.2)])
    have a4 := sm_up (n := 3) (i := p) (x := sm 12 (fun c' => tOn ρ p c') + t) (f := fun q => sm 12 (fun c' => tOn ρ q c')) (g := fun q => sm 12 (fun c' => tOn (sPour ρ p k c t) q c')) hp (fun q hq => by
      show sm 12 (fun c' => tOn (sPour ρ p k c t) q c') = _
      by_cases e : q = p
      · rw [if_pos e, e]; omega
      · rw [if_neg e]; exact sm_eq (fun c' hc' => t1 q hq c' hc' (fun z => e z.1)))
    have a5 : sm (τ 2) (fun s => sPour ρ p k c t (27 + s)) = sm (τ 2) (fun s => ρ (27 + s)) := sm_eq (fun s hs => g _ (by omega))
    have a6 := vR_all h
    unfold allT at a6 ⊢
    omega
  · rw [g _ (by omega), g _ (by omega)]; exact vR_ore h s hs
  · rw [g _ (by omega)]; exact vR_sa h s hs
  · rw [g _ (by omega)] at hi
    have c0 := vR_c0 h
    refine vO0_c hv (vR_o0 h i hi) (fun f _ _ => g _ (by omega)) (fun q hq => by rw [g _ (by omega)]; exact Nat.le_refl _) (fun q hq k' hk' => ?_)
    have := ela q hq
    exact g _ (by unfold lo; omega)
  · rw [g _ (by omega)] at hi
    have c1 := vR_c1 h
    exact vO1_c (vR_o1 h i hi) (fun f _ => g _ (by omega))
/-- all of a cell into a hold -/
theorem gOn_le {τ ρ : Rw} {p c : Nat} (hv : vTold τ) (h : vRow τ ρ) (hp : p < 3) : gOn τ ρ p c ≤ 999 * tOn ρ p c := by
  unfold gOn tOn
  rw [← sm_mul]
  refine sm_le (fun k hk => ?_)
  have a := (hv.2.2.2.2.1 _ (vR_lo h p hp k hk)).2.2
  rw [Nat.mul_comm]
  exact Nat.mul_le_mul_right _ a
theorem sMove_g {τ ρ : Rw} {p c s j : Nat} (hj : j < 311) (h1 : j ≠ 35 + s) (h2 : j ≠ 27 + s) : sMove τ ρ p c s j = ρ j := by
  unfold sMove
  rw [if_neg (fun q => absurd q.1 (by omega)), if_neg h1, if_neg h2]
theorem sMove_o {τ ρ : Rw} {p c s : Nat} (hs : s < 8) : sMove τ ρ p c s (35 + s) = ρ (35 + s) + gOn τ ρ p c := by
  unfold sMove
  rw [if_neg (fun q => absurd q.1 (by omega)), if_pos rfl]
theorem sMove_t {τ ρ : Rw} {p c s : Nat} (hs : s < 8) : sMove τ ρ p c s (27 + s) = ρ (27 + s) + tOn ρ p c := by
  unfold sMove
  rw [if_neg (fun q => absurd q.1 (by omega)), if_neg (by omega), if_pos rfl]
theorem sMove_l {τ ρ : Rw} {p c s q k c' : Nat} (hs : s < 8) (hq : q < 3) (hk : k < 60) (hc : c' < 12) : sMove τ ρ p c s (li q k c') = if q = p ∧ c' = c ∧ k < ρ (24 + p) then 0 else ρ (li q k c') := by
  unfold sMove
  have e : isCol ρ p c (li q k c') ↔ (q = p ∧ c' = c ∧ k < ρ (24 + p)) := by
    unfold isCol li
    rw [show (311 + ((60 * q + k) * 12 + c') - 311) / 720 = q by omega, show (311 + ((60 * q + k) * 12 + c') - 311) % 12 = c' by omega, show (311 + ((60 * q + k) * 12 + c') - 311) / 12 % 60 = k by omega]
    constructor
    · exact fun z => z.2
    · exact fun z => ⟨by omega, z⟩
  by_cases z : q = p ∧ c' = c ∧ k < ρ (24 + p)
  · rw [if_pos (e.mpr z), if_pos z]
  · rw [if_neg (fun y => z (e.mp y)), if_neg z, if_neg (by unfold li; omega), if_neg (by unfold li; omega)]
theorem vRow_move {τ ρ : Rw} {p c s : Nat} (hv : vTold τ) (h : vRow τ ρ) (hp : p < 3) (hc : c < 12) (hs : s < τ 2) : vRow τ (sMove τ ρ p c s) := by
  have v0 := hv.1
  have v2 := hv.2.2.1
  have s8 : s < 8 := by omega
  have ela := vR_la h
  have g : ∀ j, (j < 27 ∨ 43 ≤ j ∧ j < 311) → sMove τ ρ p c s j = ρ j := fun j hj => sMove_g (by omega) (by omega) (by omega)
  have t1 : ∀ q, q < 3 → ∀ c', c' < 12 → tOn (sMove τ ρ p c s) q c' = if q = p ∧ c' = c then 0 else tOn ρ q c' := fun q hq c' hc' => by
    have := ela q hq
    by_cases e : q = p ∧ c' = c
    · rw [if_pos e]
      unfold tOn
      rw [g _ (by omega)]
      refine sm_z (fun k hk => ?_)
      rw [sMove_l s8 hq (by omega) hc', if_pos ⟨e.1, e.2, by rw [← e.1]; exact hk⟩]
    · rw [if_neg e]
      refine tOn_c (g _ (by omega)) (fun k hk => ?_)
      rw [sMove_l s8 hq (by omega) hc', if_neg (fun z => e ⟨z.1, z.2.1⟩)]
  refine vR_mk ?_ (fun m hm => ?_) (fun m hm => ?_) ?_ ?_ (fun q hq => ?_) (fun q hq k' hk2 => ?_) (fun q hq k' hk2 hk3 c' hc' => ?_) ?_ (fun s' hs' => ?_) (fun s' hs' => ?_) (fun i hi => ?_) (fun i hi => ?_)
  · rw [g _ (by omega)]; exact vR_day h
  · exact onP_c (vR_on h hm) (g _ (by omega))
  · rw [g _ (by omega)]; exact vR_way h hm
  · rw [g _ (by omega)]; exact vR_c0 h
  · rw [g _ (by omega)]; exact vR_c1 h
  · rw [g _ (by omega)]; exact ela q hq
  · rw [g _ (by omega)] at hk2
    have := ela q hq
    rw [g _ (by unfold lo; omega)]; exact vR_lo h q hq k' hk2
  · rw [g _ (by omega)] at hk2
    rw [sMove_l s8 hq hk3 hc', vR_z h q hq k' hk2 hk3 c' hc']
    split <;> rfl
  · have a1 : sm (τ 0) (fun l => sMove τ ρ p c s (12 + l)) = sm (τ 0) (fun l => ρ (12 + l)) := sm_eq (fun l hl => g _ (by omega))
    have a3 := sm_up (n := 12) (i := c) (x := 0) (f := fun c' => tOn ρ p c') (g := fun c' => tOn (sMove τ ρ p c s) p c') hc (fun c' hc' => by
      show tOn (sMove τ ρ p c s) p c' = _
      rw [t1 p hp c' hc']
      by_cases e : c' = c
      · rw [if_pos ⟨rfl, e⟩, if_pos e]
      · rw [if_neg (fun z => e z.2), if_neg e])
    have a4 := sm_up (n := 3) (i := p) (x := sm 12 (fun c' => tOn (sMove τ ρ p c s) p c')) (f := fun q => sm 12 (fun c' => tOn ρ q c')) (g := fun q => sm 12 (fun c' => tOn (sMove τ ρ p c s) q c')) hp (fun q hq => by
      show sm 12 (fun c' => tOn (sMove τ ρ p c s) q c') = _
      by_cases e : q = p
      · rw [if_pos e, e]
      · rw [if_neg e]; exact sm_eq (fun c' hc' => by rw [t1 q hq c' hc', if_neg (fun z => e z.1)]))
    have a5 := sm_up (n := τ 2) (i := s) (x := ρ (27 + s) + tOn ρ p c) (f := fun s' => ρ (27 + s')) (g := fun s' => sMove τ ρ p c s (27 + s')) hs (fun s' hs' => by
      show sMove τ ρ p c s (27 + s') = _
      by_cases e : s' = s
      · rw [if_pos e, e, sMove_t s8]
      · rw [if_neg e, sMove_g (by omega) (by omega) (by omega)])
    have a6 := vR_all h
    unfold allT at a6 ⊢
    omega
  · by_cases e : s' = s
    · subst e
      have a := gOn_le (c := c) hv h hp
      have b := vR_ore h s' hs'
      rw [sMove_o s8, sMove_t s8]; omega
    · rw [sMove_g (by omega) (by omega) (by omega), sMove_g (by omega) (by omega) (by omega)]; exact vR_ore h s' hs'
  · rw [g _ (by omega)]; exact vR_sa h s' hs'
  · rw [g _ (by omega)] at hi
    have c0 := vR_c0 h
    refine vO0_c hv (vR_o0 h i hi) (fun f _ _ => g _ (by omega)) (fun q hq => by rw [g _ (by omega)]; exact Nat.le_refl _) (fun q hq k' hk' => ?_)
    have := ela q hq
    exact g _ (by unfold lo; omega)
  · rw [g _ (by omega)] at hi
    have c1 := vR_c1 h
    exact vO1_c (vR_o1 h i hi) (fun f _ => g _ (by omega))
/-- the orders change -/
theorem vRow_od {τ ρ ρ' : Rw} (h : vRow τ ρ) (e : ∀ j, j ≠ 6 → j ≠ 7 → j ≠ 10 → j ≠ 11 → (j < 51 ∨ 131 ≤ j) → ρ' j = ρ j) (h2 : ∀ m, m < 2 → ρ' (6 + m) ≤ 10) (h3 : ρ' 10 ≤ 8) (h4 : ρ' 11 ≤ 8) (h11 : ∀ i, i < ρ' 10 → vO0 τ ρ' i) (h12 : ∀ i, i < ρ' 11 → vO1 τ ρ' i) (hv : vTold τ) : vRow τ ρ' := by
  have v0 := hv.1
  have v2 := hv.2.2.1
  have ela := vR_la h
  have c0 : ∀ p, p < 3 → ρ' (24 + p) = ρ (24 + p) := fun p hp => e _ (by omega) (by omega) (by omega) (by omega) (by omega)
  have cl : ∀ p k c, ρ' (li p k c) = ρ (li p k c) := fun p k c => by unfold li; exact e _ (by omega) (by omega) (by omega) (by omega) (by omega)
  have co : ∀ p k, ρ' (lo p k) = ρ (lo p k) := fun p k => by unfold lo; exact e _ (by omega) (by omega) (by omega) (by omega) (by omega)
  refine vR_mk ?_ (fun m hm => onP_c (vR_on h hm) (e _ (by omega) (by omega) (by omega) (by omega) (by omega))) h2 h3 h4 (fun p hp => ?_) (fun p hp k hk => ?_) (fun p hp k hk hk2 c hc => ?_) ?_ (fun s hs => ?_) (fun s hs => ?_) h11 h12
  · rw [e _ (by omega) (by omega) (by omega) (by omega) (by omega)]; exact vR_day h
  · rw [c0 p hp]; exact ela p hp
  · rw [c0 p hp] at hk
    rw [co]; exact vR_lo h p hp k hk
  · rw [c0 p hp] at hk
    rw [cl]; exact vR_z h p hp k hk hk2 c hc
  · rw [allT_c (fun l _ => e _ (by omega) (by omega) (by omega) (by omega) (by omega)) (fun p hp c _ => tOn_c (c0 p hp) (fun k _ => cl _ _ _)) (fun s _ => e _ (by omega) (by omega) (by omega) (by omega) (by omega))]
    exact vR_all h
  · rw [e _ (by omega) (by omega) (by omega) (by omega) (by omega), e _ (by omega) (by omega) (by omega) (by omega) (by omega)]; exact vR_ore h s hs
  · rw [e _ (by omega) (by omega) (by omega) (by omega) (by omega)]; exact vR_sa h s hs
theorem vRow_O0 {τ ρ : Rw} {p l a b t : Nat} (hv : vTold τ) (h : vRow τ ρ) (hp : p < τ 1) (hl : l < τ 0) (ha : a < τ (28 + p)) (hb : b < τ (28 + p)) (ht : 1 ≤ t ∧ t ≤ 99) (hn : ρ 10 < 8) : vRow τ (sO0 ρ p l a b t) := by
  have c1 := vR_c1 h
  have g : ∀ j, j ≠ 10 → (j < 51 + 7 * ρ 10 ∨ 51 + 7 * ρ 10 + 7 ≤ j) → sO0 ρ p l a b t j = ρ j := fun j h1 h2 => by
    unfold sO0; rw [if_neg h1, if_neg (by omega)]
  have g10 : sO0 ρ p l a b t 10 = ρ 10 + 1 := if_pos rfl
  have gf : ∀ f, f < 7 → sO0 ρ p l a b t (51 + 7 * ρ 10 + f) = if f = 0 then p else if f = 1 then l else if f = 2 then a else if f = 3 then b else if f = 4 then t else if f = 5 then a else 0 := fun f hf => by
    unfold sO0
    rw [if_neg (by omega), if_pos (by omega)]
    have : f = 0 ∨ f = 1 ∨ f = 2 ∨ f = 3 ∨ f = 4 ∨ f = 5 ∨ f = 6 := by omega
    rcases this with rfl | rfl | rfl | rfl | rfl | rfl | rfl <;> simp
  refine vRow_od h (fun j j6 j7 j10 j11 hj => g j j10 (by omega)) (fun m hm => by rw [g _ (by omega) (by omega)]; exact vR_way h hm) (by rw [g10]; omega) (by rw [g _ (by omega) (by omega)]; exact c1) (fun i hi => ?_) (fun i hi => ?_) hv
  · rw [g10] at hi
    by_cases e : i = ρ 10
    · subst e
      have f0 : sO0 ρ p l a b t (51 + 7 * ρ 10) = p := gf 0 (by omega)
      have f1 : sO0 ρ p l a b t (51 + 7 * ρ 10 + 1) = l := gf 1 (by omega)
      have f3 : sO0 ρ p l a b t (51 + 7 * ρ 10 + 3) = b := gf 3 (by omega)
      have f4 : sO0 ρ p l a b t (51 + 7 * ρ 10 + 4) = t := gf 4 (by omega)
      have f5 : sO0 ρ p l a b t (51 + 7 * ρ 10 + 5) = a := gf 5 (by omega)
      have f6 : sO0 ρ p l a b t (51 + 7 * ρ 10 + 6) = 0 := gf 6 (by omega)
      unfold vO0
      rw [f0, f1, f3, f4, f5, f6]
      exact ⟨hp, hl, hb, ha, ht, Or.inl rfl⟩
    · exact vO0_c hv (vR_o0 h i (by omega)) (fun f _ _ => g _ (by omega) (by omega)) (fun q _ => by rw [g _ (by omega) (by omega)]; exact Nat.le_refl _) (fun q _ k _ => g _ (by unfold lo; omega) (by unfold lo; omega))
  · rw [g _ (by omega) (by omega)] at hi
    exact vO1_c (vR_o1 h i hi) (fun f _ => g _ (by omega) (by omega))
theorem vRow_O1 {τ ρ : Rw} {p c s : Nat} (hv : vTold τ) (h : vRow τ ρ) (hp : p < τ 1) (hc : c < τ (28 + p)) (hs : s < τ 2) (hn : ρ 11 < 8) : vRow τ (sO1 ρ p c s) := by
  have c0 := vR_c0 h
  have g : ∀ j, j ≠ 11 → (j < 107 + 3 * ρ 11 ∨ 107 + 3 * ρ 11 + 3 ≤ j) → sO1 ρ p c s j = ρ j := fun j h1 h2 => by
    unfold sO1; rw [if_neg h1, if_neg (by omega)]
  have g11 : sO1 ρ p c s 11 = ρ 11 + 1 := if_pos rfl
  have gf : ∀ f, f < 3 → sO1 ρ p c s (107 + 3 * ρ 11 + f) = if f = 0 then p else if f = 1 then c else s := fun f hf => by
    unfold sO1
    rw [if_neg (by omega), if_pos (by omega)]
    have : f = 0 ∨ f = 1 ∨ f = 2 := by omega
    rcases this with rfl | rfl | rfl <;> simp
  refine vRow_od h (fun j j6 j7 j10 j11 hj => g j j11 (by omega)) (fun m hm => by rw [g _ (by omega) (by omega)]; exact vR_way h hm) (by rw [g _ (by omega) (by omega)]; exact c0) (by rw [g11]; omega) (fun i hi => ?_) (fun i hi => ?_) hv
  · rw [g _ (by omega) (by omega)] at hi
    exact vO0_c hv (vR_o0 h i hi) (fun f _ _ => g _ (by omega) (by omega)) (fun q _ => by rw [g _ (by omega) (by omega)]; exact Nat.le_refl _) (fun q _ k _ => g _ (by unfold lo; omega) (by unfold lo; omega))
  · rw [g11] at hi
    by_cases e : i = ρ 11
    · subst e
      have f0 : sO1 ρ p c s (107 + 3 * ρ 11) = p := gf 0 (by omega)
      have f1 : sO1 ρ p c s (107 + 3 * ρ 11 + 1) = c := gf 1 (by omega)
      have f2 : sO1 ρ p c s (107 + 3 * ρ 11 + 2) = s := gf 2 (by omega)
      unfold vO1
      rw [f0, f1, f2]
      exact ⟨hp, hc, hs⟩
    · exact vO1_c (vR_o1 h i (by omega)) (fun f _ => g _ (by omega) (by omega))
theorem vRow_E0 {τ ρ : Rw} (hv : vTold τ) (h : vRow τ ρ) (hn : 0 < ρ 10) : vRow τ (sE0 ρ) := by
  have c0 := vR_c0 h
  have c1 := vR_c1 h
  have g : ∀ j, j ≠ 6 → j ≠ 10 → (j < 51 ∨ 107 ≤ j) → sE0 ρ j = ρ j := fun j h1 h2 h3 => by
    unfold sE0; rw [if_neg h2, if_neg h1, if_neg (by omega)]
  have g10 : sE0 ρ 10 = ρ 10 - 1 := if_pos rfl
  refine vRow_od h (fun j j6 j7 j10 j11 hj => g j j6 j10 (by omega)) (fun m hm => ?_) (by rw [g10]; omega) (by rw [g _ (by omega) (by omega) (by omega)]; exact c1) (fun i hi => ?_) (fun i hi => ?_) hv
  · have := vR_way h hm
    unfold sE0
    rw [if_neg (by omega)]
    split
    · omega
    · rw [if_neg (by omega)]; exact this
  · rw [g10] at hi
    refine vO0_c hv (vR_o0 h (i + 1) (by omega)) (fun f hf _ => ?_) (fun q _ => by rw [g _ (by omega) (by omega) (by omega)]; exact Nat.le_refl _) (fun q _ k _ => g _ (by unfold lo; omega) (by unfold lo; omega) (by unfold lo; omega))
    unfold sE0
    rw [if_neg (by omega), if_neg (by omega), if_pos (by omega)]
    congr 1
    omega
  · rw [g _ (by omega) (by omega) (by omega)] at hi
    exact vO1_c (vR_o1 h i hi) (fun f _ => g _ (by omega) (by omega) (by omega))
theorem vRow_E1 {τ ρ : Rw} (hv : vTold τ) (h : vRow τ ρ) (hn : 0 < ρ 11) : vRow τ (sE1 ρ) := by
  have c0 := vR_c0 h
  have c1 := vR_c1 h
  have g : ∀ j, j ≠ 7 → j ≠ 11 → (j < 107 ∨ 131 ≤ j) → sE1 ρ j = ρ j := fun j h1 h2 h3 => by
    unfold sE1; rw [if_neg h2, if_neg h1, if_neg (by omega)]
  have g11 : sE1 ρ 11 = ρ 11 - 1 := if_pos rfl
  refine vRow_od h (fun j j6 j7 j10 j11 hj => g j j7 j11 (by omega)) (fun m hm => ?_) (by rw [g _ (by omega) (by omega) (by omega)]; exact c0) (by rw [g11]; omega) (fun i hi => ?_) (fun i hi => ?_) hv
  · have := vR_way h hm
    unfold sE1
    rw [if_neg (by omega)]
    split
    · omega
    · rw [if_neg (by omega)]; exact this
  · rw [g _ (by omega) (by omega) (by omega)] at hi
    exact vO0_c hv (vR_o0 h i hi) (fun f _ _ => g _ (by omega) (by omega) (by omega)) (fun q _ => by rw [g _ (by omega) (by omega) (by omega)]; exact Nat.le_refl _) (fun q _ k _ => g _ (by unfold lo; omega) (by unfold lo; omega) (by unfold lo; omega))
  · rw [g11] at hi
    refine vO1_c (vR_o1 h (i + 1) (by omega)) (fun f hf => ?_)
    unfold sE1
    rw [if_neg (by omega), if_neg (by omega), if_pos (by omega)]
    congr 1
    omega
/-- the first order's goal, its layer -/
theorem vRow_go0 {τ ρ : Rw} {x : Nat} (hv : vTold τ) (h : vRow τ ρ) (hx : x < τ (28 + ρ 51)) : vRow τ (rSet ρ 56 x) := by
  have c0 := vR_c0 h
  have c1 := vR_c1 h
  refine vRow_od h (fun j j6 j7 j10 j11 hj => rS_ne (by omega)) (fun m hm => by rw [rS_ne (by omega)]; exact vR_way h hm) (by rw [rS_ne (by omega)]; exact c0) (by rw [rS_ne (by omega)]; exact c1) (fun i hi => ?_) (fun i hi => ?_) hv
  · rw [rS_ne (by omega)] at hi
    by_cases e : i = 0
    · subst e
      obtain ⟨a, b, c, d, f, g⟩ := vR_o0 h 0 hi
      have a3 : ρ 51 < 3 := by have := hv.2.1; have : ρ 51 < τ 1 := a; omega
      refine ⟨a, b, c, hx, f, ?_⟩
      rcases g with g | ⟨g1, g2⟩
      · exact Or.inl g
      · refine Or.inr ⟨?_, ?_⟩
        · show ρ 57 ≤ rSet ρ 56 x (24 + ρ 51)
          rw [rS_ne (by omega)]; exact g1
        · show rSet ρ 56 x (lo (ρ 51) (ρ 57 - 1)) = ρ 52
          rw [rS_ne (by unfold lo; omega)]; exact g2
    · exact vO0_c hv (vR_o0 h i hi) (fun f _ _ => rS_ne (by omega)) (fun q _ => by rw [rS_ne (by omega)]; exact Nat.le_refl _) (fun q _ k _ => rS_ne (by unfold lo; omega))
  · rw [rS_ne (by omega)] at hi
    exact vO1_c (vR_o1 h i hi) (fun f _ => rS_ne (by omega))
theorem vRow_la0 {τ ρ : Rw} {k : Nat} (hv : vTold τ) (h : vRow τ ρ) (hx : k < ρ (24 + ρ 51)) (hl : ρ (lo (ρ 51) k) = ρ 52) : vRow τ (rSet ρ 57 (k + 1)) := by
  have c0 := vR_c0 h
  have c1 := vR_c1 h
  refine vRow_od h (fun j j6 j7 j10 j11 hj => rS_ne (by omega)) (fun m hm => by rw [rS_ne (by omega)]; exact vR_way h hm) (by rw [rS_ne (by omega)]; exact c0) (by rw [rS_ne (by omega)]; exact c1) (fun i hi => ?_) (fun i hi => ?_) hv
  · rw [rS_ne (by omega)] at hi
    by_cases e : i = 0
    · subst e
      obtain ⟨a, b, c, d, f, g⟩ := vR_o0 h 0 hi
      have a3 : ρ 51 < 3 := by have := hv.2.1; have : ρ 51 < τ 1 := a; omega
      refine ⟨a, b, c, d, f, Or.inr ⟨?_, ?_⟩⟩
      · show k + 1 ≤ rSet ρ 57 (k + 1) (24 + ρ 51)
        rw [rS_ne (by omega)]; omega
      · show rSet ρ 57 (k + 1) (lo (ρ 51) k) = ρ 52
        rw [rS_ne (by unfold lo; omega)]; exact hl
    · exact vO0_c hv (vR_o0 h i hi) (fun f _ _ => rS_ne (by omega)) (fun q _ => by rw [rS_ne (by omega)]; exact Nat.le_refl _) (fun q _ k _ => rS_ne (by unfold lo; omega))
  · rw [rS_ne (by omega)] at hi
    exact vO1_c (vR_o1 h i hi) (fun f _ => rS_ne (by omega))
end
section
/-! the pieces of a state -/
theorem tS_d {σ : mS} {r : Nat} {τ ρ : Rw} (h : tSt σ r τ ρ) : σ.1 r 0 = Int32.ofNat (ρ 0) := h.1
theorem tS_mi {σ : mS} {r : Nat} {τ ρ : Rw} (h : tSt σ r τ ρ) : σ.1 r 1 = Int32.ofNat (ρ 1) := h.2.1
theorem tS_lf {σ : mS} {r : Nat} {τ ρ : Rw} (h : tSt σ r τ ρ) {l : Nat} (hl : l < τ 0) : σ.1 (r + 1) l = Int32.ofNat (ρ (12 + l)) := h.2.2.1 l hl
theorem tS_la {σ : mS} {r : Nat} {τ ρ : Rw} (h : tSt σ r τ ρ) {p : Nat} (hp : p < 3) : σ.1 (r + 2) p = Int32.ofNat (ρ (24 + p)) := h.2.2.2.1 p hp
theorem tS_lo {σ : mS} {r : Nat} {τ ρ : Rw} (h : tSt σ r τ ρ) {p : Nat} (hp : p < 3) {k : Nat} (hk : k < ρ (24 + p)) : σ.1 (r + 3) (p * 60 + k) = Int32.ofNat (ρ (lo p k)) := h.2.2.2.2.1 p hp k hk
theorem tS_li {σ : mS} {r : Nat} {τ ρ : Rw} (h : tSt σ r τ ρ) {p : Nat} (hp : p < 3) {k : Nat} (hk : k < ρ (24 + p)) {c : Nat} (hc : c < 12) : σ.1 (r + 4) ((p * 60 + k) * 12 + c) = Int32.ofNat (ρ (li p k c)) := h.2.2.2.2.2.1 p hp k hk c hc
theorem tS_hT {σ : mS} {r : Nat} {τ ρ : Rw} (h : tSt σ r τ ρ) {s : Nat} (hs : s < τ 2) : σ.1 (r + 5) s = Int32.ofNat (ρ (27 + s)) := (h.2.2.2.2.2.2.1 s hs).1
theorem tS_hO {σ : mS} {r : Nat} {τ ρ : Rw} (h : tSt σ r τ ρ) {s : Nat} (hs : s < τ 2) : σ.1 (r + 6) s = Int32.ofNat (ρ (35 + s)) := (h.2.2.2.2.2.2.1 s hs).2.1
theorem tS_sa {σ : mS} {r : Nat} {τ ρ : Rw} (h : tSt σ r τ ρ) {s : Nat} (hs : s < τ 2) : σ.1 (r + 7) s = Int32.ofNat (ρ (43 + s)) - 1 := (h.2.2.2.2.2.2.1 s hs).2.2
theorem tS_st {σ : mS} {r : Nat} {τ ρ : Rw} (h : tSt σ r τ ρ) {m : Nat} (hm : m < 2) : σ.1 (r + 8) m = Int32.ofNat (ρ (2 + m)) - 1 := (h.2.2.2.2.2.2.2.1 m hm).1
theorem tS_wk {σ : mS} {r : Nat} {τ ρ : Rw} (h : tSt σ r τ ρ) {m : Nat} (hm : m < 2) : σ.1 (r + 9) m = Int32.ofNat (ρ (4 + m)) := (h.2.2.2.2.2.2.2.1 m hm).2.1
theorem tS_wy {σ : mS} {r : Nat} {τ ρ : Rw} (h : tSt σ r τ ρ) {m : Nat} (hm : m < 2) : σ.1 (r + 10) m = Int32.ofNat (ρ (6 + m)) := (h.2.2.2.2.2.2.2.1 m hm).2.2.1
theorem tS_wt {σ : mS} {r : Nat} {τ ρ : Rw} (h : tSt σ r τ ρ) {m : Nat} (hm : m < 2) : σ.1 (r + 11) m = Int32.ofNat (ρ (8 + m)) := (h.2.2.2.2.2.2.2.1 m hm).2.2.2.1
theorem tS_or {σ : mS} {r : Nat} {τ ρ : Rw} (h : tSt σ r τ ρ) {m : Nat} (hm : m < 2) : σ.1 (r + 12) m = Int32.ofNat (ρ (10 + m)) := (h.2.2.2.2.2.2.2.1 m hm).2.2.2.2
theorem abs_of {a b : Nat} (ha : a < 2147483648) (hb : b < 2147483648) : (if 0 ≤ Int32.ofNat a - Int32.ofNat b then Int32.ofNat a - Int32.ofNat b else 0 - (Int32.ofNat a - Int32.ofNat b)) = Int32.ofNat (dist a b) := by
  unfold dist
  by_cases h : b ≤ a
  · rw [of_sub h, if_pos (show (0 : Int32) ≤ Int32.ofNat (a - b) from (on_le (i := 0) (by omega) (by omega)).mpr (Nat.zero_le _))]
    congr 1; omega
  · have e : Int32.ofNat a - Int32.ofNat b = - Int32.ofNat (b - a) := by rw [← of_sub (by omega : a ≤ b), Int32.neg_sub]
    rw [e]
    have n : ¬ (0 : Int32) ≤ - Int32.ofNat (b - a) := by
      rw [i_le, Int32.toInt_neg, on_int (by omega), show (0 : Int32).toInt = 0 by decide, Int.bmod_eq_of_le (by omega) (by omega)]
      omega
    rw [if_neg n, Int32.zero_sub, Int32.neg_neg]
    congr 1; omega
theorem om_1 {m : Nat} (h : m < 2) : (1 : Int32) - Int32.ofNat m = Int32.ofNat (1 - m) := by
  rw [show (1 : Int32) = Int32.ofNat 1 from rfl]; exact of_sub (by omega)
theorem q12_of {x c : Nat} : Int32.ofNat x * 12 + Int32.ofNat c = Int32.ofNat (x * 12 + c) := by
  rw [show (12 : Int32) = Int32.ofNat 12 from rfl, of_mul, of_add]
theorem hu_of {p c : Nat} : (100 : Int32) * Int32.ofNat p + Int32.ofNat c = Int32.ofNat (100 * p + c) := by
  rw [show (100 : Int32) = Int32.ofNat 100 from rfl, of_mul, of_add]
theorem sP_on {ρ : Rw} {m p : Nat} (hs : ρ (2 + m) < 1000) (hp : p < 1000) : (sP ρ m = Int32.ofNat p) ↔ onAtD ρ m p = true := by
  unfold sP onAtD
  by_cases h : ρ (2 + m) = 0
  · rw [if_pos h]
    constructor
    · intro q; exact absurd q.symm ((on_m1 (by omega)).mp)
    · intro q; exact absurd h (of_decide_eq_true q).1
  · rw [if_neg h, of_inj (by omega) (by omega)]
    constructor
    · intro q; exact decide_eq_true ⟨h, q⟩
    · intro q; exact (of_decide_eq_true q).2
theorem sCe_on {ρ : Rw} {m p : Nat} (h : onAtD ρ m p = true) : sCe ρ m = Int32.ofNat (cellAt ρ m) := if_neg (of_decide_eq_true h).1
theorem cAt_lt {ρ : Rw} {m : Nat} : cellAt ρ m < 100 := Nat.mod_lt _ (by omega)
theorem dist_lt {a b n : Nat} (ha : a < n) (hb : b < n) : dist a b < n := by unfold dist; omega
theorem sGo_st {σ : mS} {r m p c : Nat} {τ ρ : Rw} (hρ : tSt σ r τ ρ) (hb : bRow τ ρ) (hm : m < 2) : tSt (uI (uI σ (r + 9) m (Int32.ofNat (ρ (4 + m) + if onAtD ρ m p then dist (cellAt ρ m) c else 10))) (r + 8) m (Int32.ofNat (100 * p + c))) r τ (sGo ρ m p c) := by
  have n4 : ¬ isSh (4 + m) := by unfold isSh; omega
  have n2 : isSh (2 + m) := by unfold isSh; omega
  refine tSt_w (tSt_w hρ hb (by unfold in0; omega) (lA_wk hm) (tv_0 n4).symm (by omega)) (bRow_c hb (cnt_set (by omega))) (by unfold in0; omega) (lA_st hm) ?_ (by omega)
  rw [tv_1 n2, st_m1 (by omega)]
  rfl
/-- a machine goes -/
theorem g_54 {w : mT} {σ : mS} {r m p c : Nat} {τ ρ : Rw} (hR : isS w r) (hρ : tSt σ r τ ρ) (hb : bRow τ ρ) (hm : m < 2) (hs : ρ (2 + m) < 1000) (hp : p < 1000) (hc : c < 1000) : ∃ σ', frR r (r + 14) σ σ' ∧ tSt σ' r τ (sGo ρ m p c) ∧ ∀ {D : Nat} {K : Hp → Prop}, 2 ≤ D → (wpV D 54 [.ref r, .int (Int32.ofNat m), .int (Int32.ofNat p), .int (Int32.ofNat c)] (mW w σ) K ↔ K (mW w σ')) := by
  refine ⟨_, frR_tr (frR_I (by omega)) (frR_I (by omega)), sGo_st hρ hb hm, fun hD => ?_⟩
  have hR' := hR
  simp only [isS] at hR
  refine cV_of (m := 1) (fun d hd Q hQ => ?_) rfl hD
  have hd1 : 1 ≤ d := by omega
  refine b54_0 ?_
  have e9 := tS_wk hρ hm
  have eb : inB (Int32.ofNat m) 2 = true := on_inB hm (by omega)
  have en := on_nat (i := m) (by omega)
  by_cases h : onAtD ρ m p = true
  · have e1 := (sP_on hs hp).mpr h
    have e2 := sCe_on h
    rw [if_pos h] at hQ
    simp only [↓rF_I, ↓rF_L, ↓rF_R, ↓rF_N, rO_m, rB_m, ↓rI_m, wI_m, ↓rB2_m, ↓rB3_m, wB2_m, wB3_m, ↓rL_m, wL_m, ↓rQ_m, wQ_m, ↓lI_m, pI_m, pL_m, pR_m, sI_m, sBy_m, sBo_m, sL_m, sQ_m, fst_m, true_and, and_true, tg_some, ln_some, uI_1, uI_2, uL_1, uL_2, uL_3, uQ_1, uQ_2, uQ_3, rv_i, rv_l, rv_n, rv_b0, rv_b1, RMR, ne_eq, reduceCtorEq, not_false_eq_true, Option.getD_some, if_true, if_false, and_self, false_and, and_false, Nat.add_left_cancel_iff, Nat.add_eq_left, Nat.left_eq_add, Nat.one_ne_zero, Nat.reduceAdd, Nat.reduceLT, Nat.reduceLeDiff, Nat.reduceEqDiff, true_implies, false_implies, implies_true, Option.some.injEq, forall_eq', forall_eq, reduceCtorEq, brT, brF, br_s, i_10, i_01, ib_0_2, ib_1_2, tn_0, tn_1, Int32.le_refl, eq_self, rv_bN, rv_iM, RCS r, hR, eb, en, e9, g_52 hR' hρ hm hs hd1, g_53 hR' hρ hm hs hd1, e1, e2, abs_of (Nat.lt_trans cAt_lt (by omega : 100 < 2147483648)) (show c < 2147483648 by omega), of_add, hu_of]
    exact hQ
  · have e1 : (sP ρ m = Int32.ofNat p) ↔ False := iff_false_intro (fun q => h ((sP_on hs hp).mp q))
    rw [if_neg h] at hQ
    have e10 : Int32.ofNat (ρ (4 + m)) + 10 = Int32.ofNat (ρ (4 + m) + 10) := of_add
    simp only [↓rF_I, ↓rF_L, ↓rF_R, ↓rF_N, rO_m, rB_m, ↓rI_m, wI_m, ↓rB2_m, ↓rB3_m, wB2_m, wB3_m, ↓rL_m, wL_m, ↓rQ_m, wQ_m, ↓lI_m, pI_m, pL_m, pR_m, sI_m, sBy_m, sBo_m, sL_m, sQ_m, fst_m, true_and, and_true, tg_some, ln_some, uI_1, uI_2, uL_1, uL_2, uL_3, uQ_1, uQ_2, uQ_3, rv_i, rv_l, rv_n, rv_b0, rv_b1, RMR, ne_eq, reduceCtorEq, not_false_eq_true, Option.getD_some, if_true, if_false, and_self, false_and, and_false, Nat.add_left_cancel_iff, Nat.add_eq_left, Nat.left_eq_add, Nat.one_ne_zero, Nat.reduceAdd, Nat.reduceLT, Nat.reduceLeDiff, Nat.reduceEqDiff, true_implies, false_implies, implies_true, Option.some.injEq, forall_eq', forall_eq, reduceCtorEq, brT, brF, br_s, i_10, i_01, ib_0_2, ib_1_2, tn_0, tn_1, Int32.le_refl, eq_self, rv_bN, rv_iM, RCS r, hR, eb, en, e9, g_52 hR' hρ hm hs hd1, e1, e10, hu_of]
    exact hQ
/-- is a cell free of the other machine -/
abbrev frP (τ ρ : Rw) (m p c : Nat) : Prop := ¬ (onAtD ρ (1 - m) p = true ∧ dist (cellAt ρ (1 - m)) c ≤ τ 3)
theorem g_55 {w : mT} {σ : mS} {r t m p c D : Nat} {τ ρ : Rw} {K : Int32 → Hp → Prop} (hR : isS w r) (hT : isT w t) (hρ : tSt σ r τ ρ) (hτ : tTold σ t τ) (hv : vTold τ) (hm : m < 2) (hs : ρ (2 + (1 - m)) < 1000) (hp : p < 1000) (hc : c < 1000) (hD : 2 ≤ D) : wpI D 55 [.ref r, .ref t, .int (Int32.ofNat m), .int (Int32.ofNat p), .int (Int32.ofNat c)] (mW w σ) K ↔ K (iB (frP τ ρ m p c)) (mW w σ) := by
  have hR' := hR
  simp only [isS] at hR
  simp only [isT] at hT
  refine cI_of (m := 1) (fun d hd Q hQ => ?_) rfl hD
  have hd1 : 1 ≤ d := by omega
  refine b55_0 ?_
  have hm2 : 1 - m < 2 := by omega
  have eg := hτ.1
  have v3 := hv.2.2.2.1
  by_cases h : onAtD ρ (1 - m) p = true
  · have e1 := (sP_on hs hp).mpr h
    have e2 := sCe_on h
    have dl : dist (cellAt ρ (1 - m)) c < 1000 := dist_lt (Nat.lt_trans cAt_lt (by omega)) hc
    have ea := abs_of (a := cellAt ρ (1 - m)) (b := c) (Nat.lt_trans cAt_lt (by omega)) (by omega)
    by_cases z : dist (cellAt ρ (1 - m)) c ≤ τ 3
    · rw [iB_f (p := frP τ ρ m p c) (fun q => q ⟨h, z⟩)] at hQ
      have l1 : (Int32.ofNat (dist (cellAt ρ (1 - m)) c) ≤ Int32.ofNat (τ 3)) ↔ True := iff_true_intro ((on_le (by omega) (by omega)).mpr z)
      simp only [↓rF_I, ↓rF_L, ↓rF_R, ↓rF_N, rO_m, rB_m, ↓rI_m, wI_m, ↓rB2_m, ↓rB3_m, wB2_m, wB3_m, ↓rL_m, wL_m, ↓rQ_m, wQ_m, ↓lI_m, pI_m, pL_m, pR_m, sI_m, sBy_m, sBo_m, sL_m, sQ_m, fst_m, true_and, and_true, tg_some, ln_some, uI_1, uI_2, uL_1, uL_2, uL_3, uQ_1, uQ_2, uQ_3, rv_i, rv_l, rv_n, rv_b0, rv_b1, RMR, ne_eq, reduceCtorEq, not_false_eq_true, Option.getD_some, if_true, if_false, and_self, false_and, and_false, Nat.add_left_cancel_iff, Nat.add_eq_left, Nat.left_eq_add, Nat.one_ne_zero, Nat.reduceAdd, Nat.reduceLT, Nat.reduceLeDiff, Nat.reduceEqDiff, true_implies, false_implies, implies_true, Option.some.injEq, forall_eq', forall_eq, reduceCtorEq, brT, brF, br_s, i_10, i_01, ib_0_2, ib_1_2, tn_0, tn_1, Int32.le_refl, eq_self, rv_bN, rv_iM, RCS r, RCT t, hR, hT, om_1 hm, eg, g_52 hR' hρ hm2 hs hd1, g_53 hR' hρ hm2 hs hd1, e1, e2, ea, l1]
      exact hQ
    · rw [iB_t (p := frP τ ρ m p c) (fun q => z q.2)] at hQ
      have l1 : (Int32.ofNat (dist (cellAt ρ (1 - m)) c) ≤ Int32.ofNat (τ 3)) ↔ False := iff_false_intro (fun q => z ((on_le (by omega) (by omega)).mp q))
      simp only [↓rF_I, ↓rF_L, ↓rF_R, ↓rF_N, rO_m, rB_m, ↓rI_m, wI_m, ↓rB2_m, ↓rB3_m, wB2_m, wB3_m, ↓rL_m, wL_m, ↓rQ_m, wQ_m, ↓lI_m, pI_m, pL_m, pR_m, sI_m, sBy_m, sBo_m, sL_m, sQ_m, fst_m, true_and, and_true, tg_some, ln_some, uI_1, uI_2, uL_1, uL_2, uL_3, uQ_1, uQ_2, uQ_3, rv_i, rv_l, rv_n, rv_b0, rv_b1, RMR, ne_eq, reduceCtorEq, not_false_eq_true, Option.getD_some, if_true, if_false, and_self, false_and, and_false, Nat.add_left_cancel_iff, Nat.add_eq_left, Nat.left_eq_add, Nat.one_ne_zero, Nat.reduceAdd, Nat.reduceLT, Nat.reduceLeDiff, Nat.reduceEqDiff, true_implies, false_implies, implies_true, Option.some.injEq, forall_eq', forall_eq, reduceCtorEq, brT, brF, br_s, i_10, i_01, ib_0_2, ib_1_2, tn_0, tn_1, Int32.le_refl, eq_self, rv_bN, rv_iM, RCS r, RCT t, hR, hT, om_1 hm, eg, g_52 hR' hρ hm2 hs hd1, g_53 hR' hρ hm2 hs hd1, e1, e2, ea, l1]
      exact hQ
  · have e1 : (sP ρ (1 - m) = Int32.ofNat p) ↔ False := iff_false_intro (fun q => h ((sP_on hs hp).mp q))
    rw [iB_t (p := frP τ ρ m p c) (fun q => h q.1)] at hQ
    simp only [↓rF_I, ↓rF_L, ↓rF_R, ↓rF_N, rO_m, rB_m, ↓rI_m, wI_m, ↓rB2_m, ↓rB3_m, wB2_m, wB3_m, ↓rL_m, wL_m, ↓rQ_m, wQ_m, ↓lI_m, pI_m, pL_m, pR_m, sI_m, sBy_m, sBo_m, sL_m, sQ_m, fst_m, true_and, and_true, tg_some, ln_some, uI_1, uI_2, uL_1, uL_2, uL_3, uQ_1, uQ_2, uQ_3, rv_i, rv_l, rv_n, rv_b0, rv_b1, RMR, ne_eq, reduceCtorEq, not_false_eq_true, Option.getD_some, if_true, if_false, and_self, false_and, and_false, Nat.add_left_cancel_iff, Nat.add_eq_left, Nat.left_eq_add, Nat.one_ne_zero, Nat.reduceAdd, Nat.reduceLT, Nat.reduceLeDiff, Nat.reduceEqDiff, true_implies, false_implies, implies_true, Option.some.injEq, forall_eq', forall_eq, reduceCtorEq, brT, brF, br_s, i_10, i_01, ib_0_2, ib_1_2, tn_0, tn_1, Int32.le_refl, eq_self, rv_bN, rv_iM, RCS r, hR, om_1 hm, g_52 hR' hρ hm2 hs hd1, e1]
    exact hQ
/-- tonnes times grades on a cell -/
theorem lp_57 {w : mT} {σ : mS} {r t p c d : Nat} {τ ρ : Rw} {Q : Option (Option Value) → Hp → Prop} (hR : isS w r) (hT : isT w t) (hρ : tSt σ r τ ρ) (hτ : tTold σ t τ) (hw : vTold τ) (hv : vRow τ ρ) (hp : p < 3) (hc : c < 12) (hd : 1 ≤ d) (hQ : Q (some (some (.int (Int32.ofNat (gOn τ ρ p c))))) (mW w σ)) : ∀ n i : Nat, i + n = ρ (24 + p) → Wp 57 6 [.ref r, .ref t, .int (Int32.ofNat p), .int (Int32.ofNat c), .int (Int32.ofNat (sm i (fun k => ρ (li p k c) * τ (16 + ρ (lo p k))))), .int (Int32.ofNat i)] [] (mW w σ) Q d := by
  simp only [isS] at hR
  simp only [isT] at hT
  have h60 := vR_la hv p hp
  have e1 := tS_la hρ hp
  have eb : inB (Int32.ofNat p) 3 = true := on_inB hp (by omega)
  have en := on_nat (i := p) (by omega)
  intro n
  induction n with
  | zero =>
    intro i hi
    have hi' : i = ρ (24 + p) := by omega
    subst hi'
    refine b57_6 ?_
    simp only [↓rF_I, ↓rF_L, ↓rF_R, ↓rF_N, rO_m, rB_m, ↓rI_m, wI_m, ↓rB2_m, ↓rB3_m, wB2_m, wB3_m, ↓rL_m, wL_m, ↓rQ_m, wQ_m, ↓lI_m, pI_m, pL_m, pR_m, sI_m, sBy_m, sBo_m, sL_m, sQ_m, fst_m, true_and, and_true, tg_some, ln_some, uI_1, uI_2, uL_1, uL_2, uL_3, uQ_1, uQ_2, uQ_3, rv_i, rv_l, rv_n, rv_b0, rv_b1, RMR, ne_eq, reduceCtorEq, not_false_eq_true, Option.getD_some, if_true, if_false, and_self, false_and, and_false, Nat.add_left_cancel_iff, Nat.add_eq_left, Nat.left_eq_add, Nat.one_ne_zero, Nat.reduceAdd, Nat.reduceLT, Nat.reduceLeDiff, Nat.reduceEqDiff, true_implies, false_implies, implies_true, Option.some.injEq, forall_eq', forall_eq, reduceCtorEq, brT, brF, br_s, i_10, i_01, ib_0_2, ib_1_2, tn_0, tn_1, Int32.le_refl, eq_self, rv_bN, rv_iM, RCS r, hR, eb, en, e1, Int32.le_refl]
    exact hQ
  | succ n ih =>
    intro i hi
    have l1 : ¬ Int32.ofNat (ρ (24 + p)) ≤ Int32.ofNat i := by
      intro q; exact absurd ((on_le (by omega) (by omega)).mp q) (by omega)
    have hi2 : i < ρ (24 + p) := by omega
    have e2 := tS_li hρ hp hi2 hc
    have eb2 : inB (Int32.ofNat ((p * 60 + i) * 12 + c)) 2160 = true := on_inB (by omega) (by omega)
    have en2 := on_nat (i := (p * 60 + i) * 12 + c) (by omega)
    have e3 := tS_lo hρ hp hi2
    have eb3 : inB (Int32.ofNat (p * 60 + i)) 180 = true := on_inB (by omega) (by omega)
    have en3 := on_nat (i := p * 60 + i) (by omega)
    have hl := vR_lo hv p hp i hi2
    have v0 := hw.1
    have e4 := (hτ.2.2.2.2.1 _ hl).2
    have eb4 : inB (Int32.ofNat (ρ (lo p i))) 12 = true := on_inB (by omega) (by omega)
    have en4 := on_nat (i := ρ (lo p i)) (by omega)
    refine b57_6 ?_
    simp only [↓rF_I, ↓rF_L, ↓rF_R, ↓rF_N, rO_m, rB_m, ↓rI_m, wI_m, ↓rB2_m, ↓rB3_m, wB2_m, wB3_m, ↓rL_m, wL_m, ↓rQ_m, wQ_m, ↓lI_m, pI_m, pL_m, pR_m, sI_m, sBy_m, sBo_m, sL_m, sQ_m, fst_m, true_and, and_true, tg_some, ln_some, uI_1, uI_2, uL_1, uL_2, uL_3, uQ_1, uQ_2, uQ_3, rv_i, rv_l, rv_n, rv_b0, rv_b1, RMR, ne_eq, reduceCtorEq, not_false_eq_true, Option.getD_some, if_true, if_false, and_self, false_and, and_false, Nat.add_left_cancel_iff, Nat.add_eq_left, Nat.left_eq_add, Nat.one_ne_zero, Nat.reduceAdd, Nat.reduceLT, Nat.reduceLeDiff, Nat.reduceEqDiff, true_implies, false_implies, implies_true, Option.some.injEq, forall_eq', forall_eq, reduceCtorEq, brT, brF, br_s, i_10, i_01, ib_0_2, ib_1_2, tn_0, tn_1, Int32.le_refl, eq_self, rv_bN, rv_iM, RCS r, RCT t, hR, hT, eb, en, e1, l1, g_51 hd, g_50 hd, q12_of, ro_of, eb2, en2, e2, eb3, en3, e3, eb4, en4, e4, of_mul, of_add, on_succ]
    have e5 : sm i (fun k => ρ (li p k c) * τ (16 + ρ (lo p k))) + ρ (li p i c) * τ (16 + ρ (lo p i)) = sm (i + 1) (fun k => ρ (li p k c) * τ (16 + ρ (lo p k))) := rfl
    rw [e5]
    exact ih (i + 1) (by omega)
theorem g_57 {w : mT} {σ : mS} {r t p c D : Nat} {τ ρ : Rw} {K : Int32 → Hp → Prop} (hR : isS w r) (hT : isT w t) (hρ : tSt σ r τ ρ) (hτ : tTold σ t τ) (hw : vTold τ) (hv : vRow τ ρ) (hp : p < 3) (hc : c < 12) (hD : 2 ≤ D) : wpI D 57 [.ref r, .ref t, .int (Int32.ofNat p), .int (Int32.ofNat c)] (mW w σ) K ↔ K (Int32.ofNat (gOn τ ρ p c)) (mW w σ) :=
  cI_of (m := 1) (fun d hd Q hQ => b57_0 (lp_57 hR hT hρ hτ hw hv hp hc hd hQ (ρ (24 + p)) 0 (Nat.zero_add _))) rfl hD
/-- of a pile -/
theorem lp_58 {w : mT} {σ : mS} {r t p d : Nat} {τ ρ : Rw} {Q : Option (Option Value) → Hp → Prop} (hR : isS w r) (hT : isT w t) (hρ : tSt σ r τ ρ) (hτ : tTold σ t τ) (hw : vTold τ) (hv : vRow τ ρ) (hp : p < τ 1) (hd : 2 ≤ d) (hQ : Q (some (some (.int (Int32.ofNat (tPi τ ρ p))))) (mW w σ)) : ∀ n i : Nat, i + n = τ (28 + p) → Wp 58 5 [.ref r, .ref t, .int (Int32.ofNat p), .int (Int32.ofNat (sm i (tOn ρ p))), .int (Int32.ofNat i)] [] (mW w σ) Q d := by
  have hR' := hR
  simp only [isS] at hR
  simp only [isT] at hT
  have v1 := hw.2.1
  have v2 := (hw.2.2.2.2.2.1 p hp).2
  have hp3 : p < 3 := by omega
  have e1 := hτ.2.2.2.2.2.1 p hp
  have eb : inB (Int32.ofNat p) 3 = true := on_inB hp3 (by omega)
  have en := on_nat (i := p) (by omega)
  intro n
  induction n with
  | zero =>
    intro i hi
    have hi' : i = τ (28 + p) := by omega
    subst hi'
    refine b58_5 ?_
    simp only [↓rF_I, ↓rF_L, ↓rF_R, ↓rF_N, rO_m, rB_m, ↓rI_m, wI_m, ↓rB2_m, ↓rB3_m, wB2_m, wB3_m, ↓rL_m, wL_m, ↓rQ_m, wQ_m, ↓lI_m, pI_m, pL_m, pR_m, sI_m, sBy_m, sBo_m, sL_m, sQ_m, fst_m, true_and, and_true, tg_some, ln_some, uI_1, uI_2, uL_1, uL_2, uL_3, uQ_1, uQ_2, uQ_3, rv_i, rv_l, rv_n, rv_b0, rv_b1, RMR, ne_eq, reduceCtorEq, not_false_eq_true, Option.getD_some, if_true, if_false, and_self, false_and, and_false, Nat.add_left_cancel_iff, Nat.add_eq_left, Nat.left_eq_add, Nat.one_ne_zero, Nat.reduceAdd, Nat.reduceLT, Nat.reduceLeDiff, Nat.reduceEqDiff, true_implies, false_implies, implies_true, Option.some.injEq, forall_eq', forall_eq, reduceCtorEq, brT, brF, br_s, i_10, i_01, ib_0_2, ib_1_2, tn_0, tn_1, Int32.le_refl, eq_self, rv_bN, rv_iM, RCS r, RCT t, hR, hT, eb, en, e1, Int32.le_refl]
    exact hQ
  | succ n ih =>
    intro i hi
    have l1 : ¬ Int32.ofNat (τ (28 + p)) ≤ Int32.ofNat i := by
      intro q; exact absurd ((on_le (by omega) (by omega)).mp q) (by omega)
    refine b58_5 ?_
    simp only [↓rF_I, ↓rF_L, ↓rF_R, ↓rF_N, rO_m, rB_m, ↓rI_m, wI_m, ↓rB2_m, ↓rB3_m, wB2_m, wB3_m, ↓rL_m, wL_m, ↓rQ_m, wQ_m, ↓lI_m, pI_m, pL_m, pR_m, sI_m, sBy_m, sBo_m, sL_m, sQ_m, fst_m, true_and, and_true, tg_some, ln_some, uI_1, uI_2, uL_1, uL_2, uL_3, uQ_1, uQ_2, uQ_3, rv_i, rv_l, rv_n, rv_b0, rv_b1, RMR, ne_eq, reduceCtorEq, not_false_eq_true, Option.getD_some, if_true, if_false, and_self, false_and, and_false, Nat.add_left_cancel_iff, Nat.add_eq_left, Nat.left_eq_add, Nat.one_ne_zero, Nat.reduceAdd, Nat.reduceLT, Nat.reduceLeDiff, Nat.reduceEqDiff, true_implies, false_implies, implies_true, Option.some.injEq, forall_eq', forall_eq, reduceCtorEq, brT, brF, br_s, i_10, i_01, ib_0_2, ib_1_2, tn_0, tn_1, Int32.le_refl, eq_self, rv_bN, rv_iM, RCS r, RCT t, hR, hT, eb, en, e1, l1, g_56 hR' hρ hv hp3 (show i < 12 by omega) hd, of_add, on_succ]
    have e5 : sm i (tOn ρ p) + tOn ρ p i = sm (i + 1) (tOn ρ p) := rfl
    rw [e5]
    exact ih (i + 1) (by omega)
theorem g_58 {w : mT} {σ : mS} {r t p D : Nat} {τ ρ : Rw} {K : Int32 → Hp → Prop} (hR : isS w r) (hT : isT w t) (hρ : tSt σ r τ ρ) (hτ : tTold σ t τ) (hw : vTold τ) (hv : vRow τ ρ) (hp : p < τ 1) (hD : 3 ≤ D) : wpI D 58 [.ref r, .ref t, .int (Int32.ofNat p)] (mW w σ) K ↔ K (Int32.ofNat (tPi τ ρ p)) (mW w σ) :=
  cI_of (m := 2) (fun d hd Q hQ => b58_0 (lp_58 hR hT hρ hτ hw hv hp hd hQ (τ (28 + p)) 0 (Nat.zero_add _))) rfl hD
theorem lp_59 {w : mT} {σ : mS} {r t p d : Nat} {τ ρ : Rw} {Q : Option (Option Value) → Hp → Prop} (hR : isS w r) (hT : isT w t) (hρ : tSt σ r τ ρ) (hτ : tTold σ t τ) (hw : vTold τ) (hv : vRow τ ρ) (hp : p < τ 1) (hd : 2 ≤ d) (hQ : Q (some (some (.int (Int32.ofNat (gPi τ ρ p))))) (mW w σ)) : ∀ n i : Nat, i + n = τ (28 + p) → Wp 59 5 [.ref r, .ref t, .int (Int32.ofNat p), .int (Int32.ofNat (sm i (gOn τ ρ p))), .int (Int32.ofNat i)] [] (mW w σ) Q d := by
  have hR' := hR
  have hT' := hT
  simp only [isS] at hR
  simp only [isT] at hT
  have v1 := hw.2.1
  have v2 := (hw.2.2.2.2.2.1 p hp).2
  have hp3 : p < 3 := by omega
  have e1 := hτ.2.2.2.2.2.1 p hp
  have eb : inB (Int32.ofNat p) 3 = true := on_inB hp3 (by omega)
  have en := on_nat (i := p) (by omega)
  intro n
  induction n with
  | zero =>
    intro i hi
    have hi' : i = τ (28 + p) := by omega
    subst hi'
    refine b59_5 ?_
    simp only [↓rF_I, ↓rF_L, ↓rF_R, ↓rF_N, rO_m, rB_m, ↓rI_m, wI_m, ↓rB2_m, ↓rB3_m, wB2_m, wB3_m, ↓rL_m, wL_m, ↓rQ_m, wQ_m, ↓lI_m, pI_m, pL_m, pR_m, sI_m, sBy_m, sBo_m, sL_m, sQ_m, fst_m, true_and, and_true, tg_some, ln_some, uI_1, uI_2, uL_1, uL_2, uL_3, uQ_1, uQ_2, uQ_3, rv_i, rv_l, rv_n, rv_b0, rv_b1, RMR, ne_eq, reduceCtorEq, not_false_eq_true, Option.getD_some, if_true, if_false, and_self, false_and, and_false, Nat.add_left_cancel_iff, Nat.add_eq_left, Nat.left_eq_add, Nat.one_ne_zero, Nat.reduceAdd, Nat.reduceLT, Nat.reduceLeDiff, Nat.reduceEqDiff, true_implies, false_implies, implies_true, Option.some.injEq, forall_eq', forall_eq, reduceCtorEq, brT, brF, br_s, i_10, i_01, ib_0_2, ib_1_2, tn_0, tn_1, Int32.le_refl, eq_self, rv_bN, rv_iM, RCS r, RCT t, hR, hT, eb, en, e1, Int32.le_refl]
    exact hQ
  | succ n ih =>
    intro i hi
    have l1 : ¬ Int32.ofNat (τ (28 + p)) ≤ Int32.ofNat i := by
      intro q; exact absurd ((on_le (by omega) (by omega)).mp q) (by omega)
    refine b59_5 ?_
    simp only [↓rF_I, ↓rF_L, ↓rF_R, ↓rF_N, rO_m, rB_m, ↓rI_m, wI_m, ↓rB2_m, ↓rB3_m, wB2_m, wB3_m, ↓rL_m, wL_m, ↓rQ_m, wQ_m, ↓lI_m, pI_m, pL_m, pR_m, sI_m, sBy_m, sBo_m, sL_m, sQ_m, fst_m, true_and, and_true, tg_some, ln_some, uI_1, uI_2, uL_1, uL_2, uL_3, uQ_1, uQ_2, uQ_3, rv_i, rv_l, rv_n, rv_b0, rv_b1, RMR, ne_eq, reduceCtorEq, not_false_eq_true, Option.getD_some, if_true, if_false, and_self, false_and, and_false, Nat.add_left_cancel_iff, Nat.add_eq_left, Nat.left_eq_add, Nat.one_ne_zero, Nat.reduceAdd, Nat.reduceLT, Nat.reduceLeDiff, Nat.reduceEqDiff, true_implies, false_implies, implies_true, Option.some.injEq, forall_eq', forall_eq, reduceCtorEq, brT, brF, br_s, i_10, i_01, ib_0_2, ib_1_2, tn_0, tn_1, Int32.le_refl, eq_self, rv_bN, rv_iM, RCS r, RCT t, hR, hT, eb, en, e1, l1, g_57 hR' hT' hρ hτ hw hv hp3 (show i < 12 by omega) hd, of_add, on_succ]
    have e5 : sm i (gOn τ ρ p) + gOn τ ρ p i = sm (i + 1) (gOn τ ρ p) := rfl
    rw [e5]
    exact ih (i + 1) (by omega)
theorem g_59 {w : mT} {σ : mS} {r t p D : Nat} {τ ρ : Rw} {K : Int32 → Hp → Prop} (hR : isS w r) (hT : isT w t) (hρ : tSt σ r τ ρ) (hτ : tTold σ t τ) (hw : vTold τ) (hv : vRow τ ρ) (hp : p < τ 1) (hD : 3 ≤ D) : wpI D 59 [.ref r, .ref t, .int (Int32.ofNat p)] (mW w σ) K ↔ K (Int32.ofNat (gPi τ ρ p)) (mW w σ) :=
  cI_of (m := 2) (fun d hd Q hQ => b59_0 (lp_59 hR hT hρ hτ hw hv hp hd hQ (τ (28 + p)) 0 (Nat.zero_add _))) rfl hD
/-- tonnes are laid -/
theorem cv_eq {σ : mS} {r j A J : Nat} {v : Int32} (hl : locA j = A ∧ locJ j = J) : cv (uI σ (r + A) J v) r j = v := by
  unfold cv
  rw [hl.1, hl.2, uI_1, if_pos ⟨rfl, rfl⟩]
theorem cv_ne {σ : mS} {r j j0 A J : Nat} {v : Int32} (hl : locA j0 = A ∧ locJ j0 = J) (hj : in0 j) (h0 : in0 j0) (hn : j ≠ j0) : cv (uI σ (r + A) J v) r j = cv σ r j := by
  unfold cv
  rw [uI_1]
  refine if_neg (fun q => hn (loc_inj hj h0 ?_ ?_))
  · rw [hl.1]; omega
  · rw [hl.2]; exact q.2
theorem cv_nA {σ : mS} {r j A J : Nat} {v : Int32} (h : locA j ≠ A ∨ locJ j ≠ J) : cv (uI σ (r + A) J v) r j = cv σ r j := by
  unfold cv
  rw [uI_1]
  exact if_neg (fun q => by rcases h with h | h <;> omega)
theorem cv_Ge {σ : mS} {r j A : Nat} {f : Nat → Int32} (hl : locA j = A) : cv (uG σ (r + A) f) r j = f (locJ j) := by
  unfold cv
  rw [hl, uG_1, if_pos rfl]
theorem cv_Gn {σ : mS} {r j A : Nat} {f : Nat → Int32} (hl : locA j ≠ A) : cv (uG σ (r + A) f) r j = cv σ r j := by
  unfold cv
  rw [uG_1]
  exact if_neg (by omega)
theorem lA_lip {p k c : Nat} : locA (li p k c) = 4 ∧ locJ (li p k c) = (p * 60 + k) * 12 + c := by
  obtain ⟨a, b⟩ := lA_li (j := (60 * p + k) * 12 + c)
  exact ⟨a, by rw [show li p k c = 311 + ((60 * p + k) * 12 + c) from rfl, b]; omega⟩
theorem lA_lop {p k : Nat} (hp : p < 3) (hk : k < 60) : locA (lo p k) = 3 ∧ locJ (lo p k) = p * 60 + k := by
  obtain ⟨a, b⟩ := lA_lo (j := 60 * p + k) (by omega)
  exact ⟨a, by rw [show lo p k = 131 + (60 * p + k) from rfl, b]; omega⟩
theorem in_li {p k c : Nat} (hp : p < 3) (hk : k < 60) (hc : c < 12) : in0 (li p k c) := by unfold in0 li; omega
theorem in_lo {p k : Nat} (hp : p < 3) (hk : k < 60) : in0 (lo p k) := by unfold in0 lo; omega
theorem g_61 {w : mT} {σ : mS} {r p k c t : Nat} {τ ρ : Rw} (hR : isS w r) (hρ : tSt σ r τ ρ) (hw : vTold τ) (hv : vRow τ ρ) (hp : p < 3) (hk : k < ρ (24 + p)) (hc : c < 12) (ht : t ≤ ρ (12 + ρ (lo p k))) : ∃ σ', frR r (r + 14) σ σ' ∧ tSt σ' r τ (sPour ρ p k c t) ∧ ∀ {D : Nat} {K : Hp → Prop}, 2 ≤ D → (wpV D 61 [.ref r, .int (Int32.ofNat p), .int (Int32.ofNat k), .int (Int32.ofNat c), .int (Int32.ofNat t)] (mW w σ) K ↔ K (mW w σ')) := by
  have h60 := vR_la hv p hp
  have hl := vR_lo hv p hp k hk
  have v0 := hw.1
  have hb := vRow_b hw hv
  refine ⟨uI (uI σ (r + 4) ((p * 60 + k) * 12 + c) (Int32.ofNat (ρ (li p k c) + t))) (r + 1) (ρ (lo p k)) (Int32.ofNat (ρ (12 + ρ (lo p k)) - t)), frR_tr (frR_I (by omega)) (frR_I (by omega)), ?_, fun hD => ?_⟩
  · refine tSt_w (tSt_w hρ hb (in_li hp (by omega) hc) lA_lip (tv_0 (by unfold isSh li; omega)).symm (by unfold li; omega)) (bRow_c hb (cnt_set (by unfold li; omega))) (by unfold in0; omega) (lA_lf (by omega)) (tv_0 (by unfold isSh; omega)).symm (by omega)
  · simp only [isS] at hR
    refine cV_of (m := 1) (fun d hd Q hQ => ?_) rfl hD
    have hd1 : 1 ≤ d := by omega
    refine b61_0 ?_
    have e2 := tS_li hρ hp hk hc
    have eb2 : inB (Int32.ofNat ((p * 60 + k) * 12 + c)) 2160 = true := on_inB (by omega) (by omega)
    have en2 := on_nat (i := (p * 60 + k) * 12 + c) (by omega)
    have e3 := tS_lo hρ hp hk
    have eb3 : inB (Int32.ofNat (p * 60 + k)) 180 = true := on_inB (by omega) (by omega)
    have en3 := on_nat (i := p * 60 + k) (by omega)
    have e4 := tS_lf hρ hl
    have eb4 : inB (Int32.ofNat (ρ (lo p k))) 12 = true := on_inB (by omega) (by omega)
    have en4 := on_nat (i := ρ (lo p k)) (by omega)
    simp only [↓rF_I, ↓rF_L, ↓rF_R, ↓rF_N, rO_m, rB_m, ↓rI_m, wI_m, ↓rB2_m, ↓rB3_m, wB2_m, wB3_m, ↓rL_m, wL_m, ↓rQ_m, wQ_m, ↓lI_m, pI_m, pL_m, pR_m, sI_m, sBy_m, sBo_m, sL_m, sQ_m, fst_m, true_and, and_true, tg_some, ln_some, uI_1, uI_2, uL_1, uL_2, uL_3, uQ_1, uQ_2, uQ_3, rv_i, rv_l, rv_n, rv_b0, rv_b1, RMR, ne_eq, reduceCtorEq, not_false_eq_true, Option.getD_some, if_true, if_false, and_self, false_and, and_false, Nat.add_left_cancel_iff, Nat.add_eq_left, Nat.left_eq_add, Nat.one_ne_zero, Nat.reduceAdd, Nat.reduceLT, Nat.reduceLeDiff, Nat.reduceEqDiff, true_implies, false_implies, implies_true, Option.some.injEq, forall_eq', forall_eq, reduceCtorEq, brT, brF, br_s, i_10, i_01, ib_0_2, ib_1_2, tn_0, tn_1, Int32.le_refl, eq_self, rv_bN, rv_iM, RCS r, hR, g_51 hd1, g_50 hd1, q12_of, ro_of, eb2, en2, e2, eb3, en3, e3, eb4, en4, e4, of_add, of_sub ht]
    exact hQ
/-- does a ship take more -/
abbrev tkP (τ ρ : Rw) (s : Nat) : Prop := ρ (43 + s) = 0 ∧ ρ (27 + s) < τ (31 + 6 * s)
theorem hold_lt {τ ρ : Rw} {s : Nat} (hv : vRow τ ρ) (hs : s < τ 2) : ρ (27 + s) ≤ 119988 := by
  have a := vR_all hv
  have b := sm_one (f := fun s => ρ (27 + s)) hs
  unfold allT at a
  omega
theorem left_lt {τ ρ : Rw} {l : Nat} (hv : vRow τ ρ) (hl : l < τ 0) : ρ (12 + l) ≤ 119988 := by
  have a := vR_all hv
  have b := sm_one (f := fun l => ρ (12 + l)) hl
  unfold allT at a
  omega
theorem tOn_lt {τ ρ : Rw} {p c : Nat} (hv : vRow τ ρ) (hp : p < 3) (hc : c < 12) : tOn ρ p c ≤ 119988 := by
  have a := vR_all hv
  have b := sm_one (f := fun p => sm 12 (fun c => tOn ρ p c)) hp
  have b2 := sm_one (f := fun c => tOn ρ p c) hc
  unfold allT at a
  omega
theorem g_62 {w : mT} {σ : mS} {r t s D : Nat} {τ ρ : Rw} {K : Int32 → Hp → Prop} (hR : isS w r) (hT : isT w t) (hρ : tSt σ r τ ρ) (hτ : tTold σ t τ) (hw : vTold τ) (hv : vRow τ ρ) (hs : s < τ 2) (hD : 1 ≤ D) : wpI D 62 [.ref r, .ref t, .int (Int32.ofNat s)] (mW w σ) K ↔ K (iB (tkP τ ρ s)) (mW w σ) := by
  simp only [isS] at hR
  simp only [isT] at hT
  refine cI_of (m := 0) (fun d hd Q hQ => ?_) rfl hD
  refine b62_0 ?_
  have v2 := hw.2.2.1
  have eb : inB (Int32.ofNat s) 8 = true := on_inB (by omega) (by omega)
  have en := on_nat (i := s) (by omega)
  have e1 := tS_sa hρ hs
  have e2 := tS_hT hρ hs
  have e3 := (hτ.2.2.2.2.2.2 s hs).1
  have b1 := hold_lt hv hs
  have b2 := (hw.2.2.2.2.2.2 s hs).1.2
  have b3 := vR_sa hv s hs
  by_cases h : ρ (43 + s) = 0
  · have e1' : σ.1 (r + 7) s = -1 := by rw [e1, h]; decide
    by_cases z : ρ (27 + s) < τ (31 + 6 * s)
    · rw [iB_t ⟨h, z⟩] at hQ
      have l1 : (Int32.ofNat (τ (31 + 6 * s)) ≤ Int32.ofNat (ρ (27 + s))) ↔ False := iff_false_intro (fun q => absurd ((on_le (by omega) (by omega)).mp q) (by omega))
      simp only [↓rF_I, ↓rF_L, ↓rF_R, ↓rF_N, rO_m, rB_m, ↓rI_m, wI_m, ↓rB2_m, ↓rB3_m, wB2_m, wB3_m, ↓rL_m, wL_m, ↓rQ_m, wQ_m, ↓lI_m, pI_m, pL_m, pR_m, sI_m, sBy_m, sBo_m, sL_m, sQ_m, fst_m, true_and, and_true, tg_some, ln_some, uI_1, uI_2, uL_1, uL_2, uL_3, uQ_1, uQ_2, uQ_3, rv_i, rv_l, rv_n, rv_b0, rv_b1, RMR, ne_eq, reduceCtorEq, not_false_eq_true, Option.getD_some, if_true, if_false, and_self, false_and, and_false, Nat.add_left_cancel_iff, Nat.add_eq_left, Nat.left_eq_add, Nat.one_ne_zero, Nat.reduceAdd, Nat.reduceLT, Nat.reduceLeDiff, Nat.reduceEqDiff, true_implies, false_implies, implies_true, Option.some.injEq, forall_eq', forall_eq, reduceCtorEq, brT, brF, br_s, i_10, i_01, ib_0_2, ib_1_2, tn_0, tn_1, Int32.le_refl, eq_self, rv_bN, rv_iM, RCS r, RCT t, hR, hT, eb, en, e1', e2, e3, l1]
      exact hQ
    · rw [iB_f (fun q => z q.2)] at hQ
      have l1 : (Int32.ofNat (τ (31 + 6 * s)) ≤ Int32.ofNat (ρ (27 + s))) ↔ True := iff_true_intro ((on_le (by omega) (by omega)).mpr (by omega))
      simp only [↓rF_I, ↓rF_L, ↓rF_R, ↓rF_N, rO_m, rB_m, ↓rI_m, wI_m, ↓rB2_m, ↓rB3_m, wB2_m, wB3_m, ↓rL_m, wL_m, ↓rQ_m, wQ_m, ↓lI_m, pI_m, pL_m, pR_m, sI_m, sBy_m, sBo_m, sL_m, sQ_m, fst_m, true_and, and_true, tg_some, ln_some, uI_1, uI_2, uL_1, uL_2, uL_3, uQ_1, uQ_2, uQ_3, rv_i, rv_l, rv_n, rv_b0, rv_b1, RMR, ne_eq, reduceCtorEq, not_false_eq_true, Option.getD_some, if_true, if_false, and_self, false_and, and_false, Nat.add_left_cancel_iff, Nat.add_eq_left, Nat.left_eq_add, Nat.one_ne_zero, Nat.reduceAdd, Nat.reduceLT, Nat.reduceLeDiff, Nat.reduceEqDiff, true_implies, false_implies, implies_true, Option.some.injEq, forall_eq', forall_eq, reduceCtorEq, brT, brF, br_s, i_10, i_01, ib_0_2, ib_1_2, tn_0, tn_1, Int32.le_refl, eq_self, rv_bN, rv_iM, RCS r, RCT t, hR, hT, eb, en, e1', e2, e3, l1]
      exact hQ
  · have e1' : (Int32.ofNat (ρ (43 + s)) - 1 = -1) ↔ False := iff_false_intro (fun q => h ((of_m1 (by omega)).mp q))
    rw [iB_f (fun q => h q.1)] at hQ
    simp only [↓rF_I, ↓rF_L, ↓rF_R, ↓rF_N, rO_m, rB_m, ↓rI_m, wI_m, ↓rB2_m, ↓rB3_m, wB2_m, wB3_m, ↓rL_m, wL_m, ↓rQ_m, wQ_m, ↓lI_m, pI_m, pL_m, pR_m, sI_m, sBy_m, sBo_m, sL_m, sQ_m, fst_m, true_and, and_true, tg_some, ln_some, uI_1, uI_2, uL_1, uL_2, uL_3, uQ_1, uQ_2, uQ_3, rv_i, rv_l, rv_n, rv_b0, rv_b1, RMR, ne_eq, reduceCtorEq, not_false_eq_true, Option.getD_some, if_true, if_false, and_self, false_and, and_false, Nat.add_left_cancel_iff, Nat.add_eq_left, Nat.left_eq_add, Nat.one_ne_zero, Nat.reduceAdd, Nat.reduceLT, Nat.reduceLeDiff, Nat.reduceEqDiff, true_implies, false_implies, implies_true, Option.some.injEq, forall_eq', forall_eq, reduceCtorEq, brT, brF, br_s, i_10, i_01, ib_0_2, ib_1_2, tn_0, tn_1, Int32.le_refl, eq_self, rv_bN, rv_iM, RCS r, RCT t, hR, hT, eb, en, e1, e1']
    exact hQ
theorem of_pos {a : Nat} (h : a < 2147483648) : ((0 : Int32) < Int32.ofNat a) ↔ 0 < a := on_lt (i := 0) (by omega) h
theorem of_le0 {a : Nat} (h : a < 2147483648) : (Int32.ofNat a ≤ (0 : Int32)) ↔ a = 0 := by
  rw [show (0 : Int32) = Int32.ofNat 0 from rfl, on_le h (by omega)]; omega
theorem of_eq0 {a : Nat} (h : a < 2147483648) : (Int32.ofNat a = (0 : Int32)) ↔ a = 0 := by
  rw [show (0 : Int32) = Int32.ofNat 0 from rfl]; exact of_inj h (by omega)
theorem g_64 {w : mT} {σ : mS} {r D : Nat} {τ ρ : Rw} {K : Int32 → Hp → Prop} (hR : isS w r) (hρ : tSt σ r τ ρ) (hb : bRow τ ρ) (hD : 1 ≤ D) : wpI D 64 [.ref r] (mW w σ) K ↔ K (iB (0 < ρ 10 ∨ 0 < ρ 11)) (mW w σ) := by
  simp only [isS] at hR
  refine cI_of (m := 0) (fun d hd Q hQ => ?_) rfl hD
  refine b64_0 ?_
  have e0 : σ.1 (r + 12) 0 = Int32.ofNat (ρ 10) := tS_or hρ (by omega : 0 < 2)
  have e1 : σ.1 (r + 12) 1 = Int32.ofNat (ρ 11) := tS_or hρ (by omega : 1 < 2)
  have b0 := hb.2.2.1
  have b1 := hb.2.2.2.1
  by_cases h : 0 < ρ 10
  · rw [iB_t (Or.inl h)] at hQ
    have l0 := iff_true_intro ((of_pos (by omega)).mpr h)
    simp only [↓rF_I, ↓rF_L, ↓rF_R, ↓rF_N, rO_m, rB_m, ↓rI_m, wI_m, ↓rB2_m, ↓rB3_m, wB2_m, wB3_m, ↓rL_m, wL_m, ↓rQ_m, wQ_m, ↓lI_m, pI_m, pL_m, pR_m, sI_m, sBy_m, sBo_m, sL_m, sQ_m, fst_m, true_and, and_true, tg_some, ln_some, uI_1, uI_2, uL_1, uL_2, uL_3, uQ_1, uQ_2, uQ_3, rv_i, rv_l, rv_n, rv_b0, rv_b1, RMR, ne_eq, reduceCtorEq, not_false_eq_true, Option.getD_some, if_true, if_false, and_self, false_and, and_false, Nat.add_left_cancel_iff, Nat.add_eq_left, Nat.left_eq_add, Nat.one_ne_zero, Nat.reduceAdd, Nat.reduceLT, Nat.reduceLeDiff, Nat.reduceEqDiff, true_implies, false_implies, implies_true, Option.some.injEq, forall_eq', forall_eq, reduceCtorEq, brT, brF, br_s, i_10, i_01, ib_0_2, ib_1_2, tn_0, tn_1, Int32.le_refl, eq_self, rv_bN, rv_iM, RCS r, hR, e0, l0]
    exact hQ
  · have l0 := iff_false_intro (fun q => h ((of_pos (by omega)).mp q))
    by_cases z : 0 < ρ 11
    · rw [iB_t (Or.inr z)] at hQ
      have l1 : (Int32.ofNat (ρ 11) ≤ (0 : Int32)) ↔ False := iff_false_intro (fun q => absurd ((of_le0 (by omega)).mp q) (by omega))
      simp only [↓rF_I, ↓rF_L, ↓rF_R, ↓rF_N, rO_m, rB_m, ↓rI_m, wI_m, ↓rB2_m, ↓rB3_m, wB2_m, wB3_m, ↓rL_m, wL_m, ↓rQ_m, wQ_m, ↓lI_m, pI_m, pL_m, pR_m, sI_m, sBy_m, sBo_m, sL_m, sQ_m, fst_m, true_and, and_true, tg_some, ln_some, uI_1, uI_2, uL_1, uL_2, uL_3, uQ_1, uQ_2, uQ_3, rv_i, rv_l, rv_n, rv_b0, rv_b1, RMR, ne_eq, reduceCtorEq, not_false_eq_true, Option.getD_some, if_true, if_false, and_self, false_and, and_false, Nat.add_left_cancel_iff, Nat.add_eq_left, Nat.left_eq_add, Nat.one_ne_zero, Nat.reduceAdd, Nat.reduceLT, Nat.reduceLeDiff, Nat.reduceEqDiff, true_implies, false_implies, implies_true, Option.some.injEq, forall_eq', forall_eq, reduceCtorEq, brT, brF, br_s, i_10, i_01, ib_0_2, ib_1_2, tn_0, tn_1, Int32.le_refl, eq_self, rv_bN, rv_iM, RCS r, hR, e0, e1, l0, l1]
      exact hQ
    · rw [iB_f (fun q => q.elim h z)] at hQ
      have l1 : (Int32.ofNat (ρ 11) ≤ (0 : Int32)) ↔ True := iff_true_intro ((of_le0 (by omega)).mpr (by omega))
      simp only [↓rF_I, ↓rF_L, ↓rF_R, ↓rF_N, rO_m, rB_m, ↓rI_m, wI_m, ↓rB2_m, ↓rB3_m, wB2_m, wB3_m, ↓rL_m, wL_m, ↓rQ_m, wQ_m, ↓lI_m, pI_m, pL_m, pR_m, sI_m, sBy_m, sBo_m, sL_m, sQ_m, fst_m, true_and, and_true, tg_some, ln_some, uI_1, uI_2, uL_1, uL_2, uL_3, uQ_1, uQ_2, uQ_3, rv_i, rv_l, rv_n, rv_b0, rv_b1, RMR, ne_eq, reduceCtorEq, not_false_eq_true, Option.getD_some, if_true, if_false, and_self, false_and, and_false, Nat.add_left_cancel_iff, Nat.add_eq_left, Nat.left_eq_add, Nat.one_ne_zero, Nat.reduceAdd, Nat.reduceLT, Nat.reduceLeDiff, Nat.reduceEqDiff, true_implies, false_implies, implies_true, Option.some.injEq, forall_eq', forall_eq, reduceCtorEq, brT, brF, br_s, i_10, i_01, ib_0_2, ib_1_2, tn_0, tn_1, Int32.le_refl, eq_self, rv_bN, rv_iM, RCS r, hR, e0, e1, l0, l1]
      exact hQ
theorem g_65 {w : mT} {σ : mS} {a0 : Int32} {D : Nat} {K : Int32 → Hp → Prop} (hD : 1 ≤ D) : wpI D 65 [.int a0] (mW w σ) K ↔ K ((a0 * 8) * 6) (mW w σ) :=
  cI_of (m := 0) (fun d hd Q hQ => b65_0 ⟨rfl, hQ⟩) rfl hD
/-- within a ship's bounds -/
abbrev wiP (τ : Rw) (s T O : Nat) : Prop := τ (31 + 6 * s + 1) * T ≤ O ∧ O ≤ τ (31 + 6 * s + 2) * T
theorem g_74 {w : mT} {σ : mS} {t s T O D : Nat} {τ : Rw} {K : Int32 → Hp → Prop} (hT : isT w t) (hτ : tTold σ t τ) (hw : vTold τ) (hs : s < τ 2) (hTl : T ≤ 2000000) (hO : O < 2147483648) (hD : 1 ≤ D) : wpI D 74 [.ref t, .int (Int32.ofNat s), .int (Int32.ofNat T), .int (Int32.ofNat O)] (mW w σ) K ↔ K (iB (wiP τ s T O)) (mW w σ) := by
  simp only [isT] at hT
  refine cI_of (m := 0) (fun d hd Q hQ => ?_) rfl hD
  refine b74_0 ?_
  have v2 := hw.2.2.1
  have eb : inB (Int32.ofNat s) 8 = true := on_inB (by omega) (by omega)
  have en := on_nat (i := s) (by omega)
  have e1 := (hτ.2.2.2.2.2.2 s hs).2.1
  have e2 := (hτ.2.2.2.2.2.2 s hs).2.2.1
  have b1 := (hw.2.2.2.2.2.2 s hs).2.1
  have b2 := (hw.2.2.2.2.2.2 s hs).2.2.1
  have m1 : τ (31 + 6 * s + 1) * T ≤ 999 * 2000000 := Nat.mul_le_mul b1 hTl
  have m2 : τ (31 + 6 * s + 2) * T ≤ 999 * 2000000 := Nat.mul_le_mul b2 hTl
  by_cases h : τ (31 + 6 * s + 1) * T ≤ O
  · have l1 : (Int32.ofNat O < Int32.ofNat (τ (31 + 6 * s + 1) * T)) ↔ False := iff_false_intro (fun q => absurd ((on_lt (by omega) (by omega)).mp q) (by omega))
    by_cases z : O ≤ τ (31 + 6 * s + 2) * T
    · rw [iB_t ⟨h, z⟩] at hQ
      have l2 : (Int32.ofNat (τ (31 + 6 * s + 2) * T) < Int32.ofNat O) ↔ False := iff_false_intro (fun q => absurd ((on_lt (by omega) (by omega)).mp q) (by omega))
      simp only [↓rF_I, ↓rF_L, ↓rF_R, ↓rF_N, rO_m, rB_m, ↓rI_m, wI_m, ↓rB2_m, ↓rB3_m, wB2_m, wB3_m, ↓rL_m, wL_m, ↓rQ_m, wQ_m, ↓lI_m, pI_m, pL_m, pR_m, sI_m, sBy_m, sBo_m, sL_m, sQ_m, fst_m, true_and, and_true, tg_some, ln_some, uI_1, uI_2, uL_1, uL_2, uL_3, uQ_1, uQ_2, uQ_3, rv_i, rv_l, rv_n, rv_b0, rv_b1, RMR, ne_eq, reduceCtorEq, not_false_eq_true, Option.getD_some, if_true, if_false, and_self, false_and, and_false, Nat.add_left_cancel_iff, Nat.add_eq_left, Nat.left_eq_add, Nat.one_ne_zero, Nat.reduceAdd, Nat.reduceLT, Nat.reduceLeDiff, Nat.reduceEqDiff, true_implies, false_implies, implies_true, Option.some.injEq, forall_eq', forall_eq, reduceCtorEq, brT, brF, br_s, i_10, i_01, ib_0_2, ib_1_2, tn_0, tn_1, Int32.le_refl, eq_self, rv_bN, rv_iM, RCT t, hT, eb, en, e1, e2, of_mul, l1, l2]
      exact hQ
    · rw [iB_f (fun q => z q.2)] at hQ
      have l2 : (Int32.ofNat (τ (31 + 6 * s + 2) * T) < Int32.ofNat O) ↔ True := iff_true_intro ((on_lt (by omega) (by omega)).mpr (by omega))
      simp only [↓rF_I, ↓rF_L, ↓rF_R, ↓rF_N, rO_m, rB_m, ↓rI_m, wI_m, ↓rB2_m, ↓rB3_m, wB2_m, wB3_m, ↓rL_m, wL_m, ↓rQ_m, wQ_m, ↓lI_m, pI_m, pL_m, pR_m, sI_m, sBy_m, sBo_m, sL_m, sQ_m, fst_m, true_and, and_true, tg_some, ln_some, uI_1, uI_2, uL_1, uL_2, uL_3, uQ_1, uQ_2, uQ_3, rv_i, rv_l, rv_n, rv_b0, rv_b1, RMR, ne_eq, reduceCtorEq, not_false_eq_true, Option.getD_some, if_true, if_false, and_self, false_and, and_false, Nat.add_left_cancel_iff, Nat.add_eq_left, Nat.left_eq_add, Nat.one_ne_zero, Nat.reduceAdd, Nat.reduceLT, Nat.reduceLeDiff, Nat.reduceEqDiff, true_implies, false_implies, implies_true, Option.some.injEq, forall_eq', forall_eq, reduceCtorEq, brT, brF, br_s, i_10, i_01, ib_0_2, ib_1_2, tn_0, tn_1, Int32.le_refl, eq_self, rv_bN, rv_iM, RCT t, hT, eb, en, e1, e2, of_mul, l1, l2]
      exact hQ
  · rw [iB_f (fun q => h q.1)] at hQ
    have l1 : (Int32.ofNat O < Int32.ofNat (τ (31 + 6 * s + 1) * T)) ↔ True := iff_true_intro ((on_lt (by omega) (by omega)).mpr (by omega))
    simp only [↓rF_I, ↓rF_L, ↓rF_R, ↓rF_N, rO_m, rB_m, ↓rI_m, wI_m, ↓rB2_m, ↓rB3_m, wB2_m, wB3_m, ↓rL_m, wL_m, ↓rQ_m, wQ_m, ↓lI_m, pI_m, pL_m, pR_m, sI_m, sBy_m, sBo_m, sL_m, sQ_m, fst_m, true_and, and_true, tg_some, ln_some, uI_1, uI_2, uL_1, uL_2, uL_3, uQ_1, uQ_2, uQ_3, rv_i, rv_l, rv_n, rv_b0, rv_b1, RMR, ne_eq, reduceCtorEq, not_false_eq_true, Option.getD_some, if_true, if_false, and_self, false_and, and_false, Nat.add_left_cancel_iff, Nat.add_eq_left, Nat.left_eq_add, Nat.one_ne_zero, Nat.reduceAdd, Nat.reduceLT, Nat.reduceLeDiff, Nat.reduceEqDiff, true_implies, false_implies, implies_true, Option.some.injEq, forall_eq', forall_eq, reduceCtorEq, brT, brF, br_s, i_10, i_01, ib_0_2, ib_1_2, tn_0, tn_1, Int32.le_refl, eq_self, rv_bN, rv_iM, RCT t, hT, eb, en, e1, e2, of_mul, l1]
    exact hQ
end
