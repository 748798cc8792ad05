/-! what both sides stand for: a TEXT as numbers (tau, as the model's told), a state as numbers (rho, as the model's now) -/
abbrev Rw : Type := Nat → Nat
def rSet (ρ : Rw) (j x : Nat) : Rw := fun i => if i = j then x else ρ i
theorem rSet_1 {ρ : Rw} {j x i : Nat} : rSet ρ j x i = if i = j then x else ρ i := rfl
/-- the class's TOLD at t says tau -/
def tTold (σ : mS) (t : Nat) (τ : Rw) : Prop :=
  σ.1 t 1 = Int32.ofNat (τ 3) ∧ σ.1 t 2 = Int32.ofNat (τ 0) ∧ σ.1 t 3 = Int32.ofNat (τ 1) ∧ σ.1 t 4 = Int32.ofNat (τ 2) ∧
  (∀ l, l < τ 0 → σ.1 (t + 1) l = Int32.ofNat (τ (4 + l)) ∧ σ.1 (t + 2) l = Int32.ofNat (τ (16 + l))) ∧
  (∀ p, p < τ 1 → σ.1 (t + 3) p = Int32.ofNat (τ (28 + p))) ∧
  (∀ s, s < τ 2 → σ.1 (t + 4) s = Int32.ofNat (τ (31 + 6 * s)) ∧ σ.1 (t + 5) s = Int32.ofNat (τ (31 + 6 * s + 1)) ∧ σ.1 (t + 6) s = Int32.ofNat (τ (31 + 6 * s + 2)) ∧ σ.1 (t + 7) s = Int32.ofNat (τ (31 + 6 * s + 3)) ∧ σ.1 (t + 8) s = Int32.ofNat (τ (31 + 6 * s + 4)) ∧ σ.1 (t + 9) s = Int32.ofNat (τ (31 + 6 * s + 5)))
/-- what a TEXT can say -/
def vTold (τ : Rw) : Prop := τ 0 ≤ 12 ∧ τ 1 ≤ 3 ∧ τ 2 ≤ 8 ∧ τ 3 ≤ 3 ∧ (∀ l, l < τ 0 → 1 ≤ τ (4 + l) ∧ τ (4 + l) ≤ 9999 ∧ τ (16 + l) ≤ 999) ∧ (∀ p, p < τ 1 → 2 ≤ τ (28 + p) ∧ τ (28 + p) ≤ 12) ∧
  (∀ s, s < τ 2 → (1 ≤ τ (31 + 6 * s) ∧ τ (31 + 6 * s) ≤ 999) ∧ τ (31 + 6 * s + 1) ≤ 999 ∧ τ (31 + 6 * s + 2) ≤ 999 ∧ (1 ≤ τ (31 + 6 * s + 3) ∧ τ (31 + 6 * s + 3) ≤ 99) ∧ (1 ≤ τ (31 + 6 * s + 4) ∧ τ (31 + 6 * s + 4) ≤ 20) ∧ τ (31 + 6 * s + 5) ≤ 999)
/-- the class's State at r is the row rho -/
def tSt (σ : mS) (r : Nat) (τ ρ : Rw) : Prop :=
  σ.1 r 0 = Int32.ofNat (ρ 0) ∧ σ.1 r 1 = Int32.ofNat (ρ 1) ∧
  (∀ l, l < τ 0 → σ.1 (r + 1) l = Int32.ofNat (ρ (12 + l))) ∧
  (∀ p, p < 3 → σ.1 (r + 2) p = Int32.ofNat (ρ (24 + p))) ∧
  (∀ p, p < 3 → ∀ k, k < ρ (24 + p) → σ.1 (r + 3) (p * 60 + k) = Int32.ofNat (ρ (131 + (60 * p + k)))) ∧
  (∀ p, p < 3 → ∀ k, k < ρ (24 + p) → ∀ c, c < 12 → σ.1 (r + 4) ((p * 60 + k) * 12 + c) = Int32.ofNat (ρ (311 + ((60 * p + k) * 12 + c)))) ∧
  (∀ s, s < τ 2 → σ.1 (r + 5) s = Int32.ofNat (ρ (27 + s)) ∧ σ.1 (r + 6) s = Int32.ofNat (ρ (35 + s)) ∧ σ.1 (r + 7) s = Int32.ofNat (ρ (43 + s)) - 1) ∧
  (∀ m, m < 2 → σ.1 (r + 8) m = Int32.ofNat (ρ (2 + m)) - 1 ∧ σ.1 (r + 9) m = Int32.ofNat (ρ (4 + m)) ∧ σ.1 (r + 10) m = Int32.ofNat (ρ (6 + m)) ∧ σ.1 (r + 11) m = Int32.ofNat (ρ (8 + m)) ∧ σ.1 (r + 12) m = Int32.ofNat (ρ (10 + m))) ∧
  (∀ i, i < ρ 10 → σ.1 (r + 13) (6 * i) = Int32.ofNat (ρ (51 + 7 * i)) ∧ σ.1 (r + 13) (6 * i + 1) = Int32.ofNat (ρ (51 + 7 * i + 1)) ∧ σ.1 (r + 13) (6 * i + 2) = Int32.ofNat (ρ (51 + 7 * i + 5)) ∧ σ.1 (r + 13) (6 * i + 3) = Int32.ofNat (ρ (51 + 7 * i + 3)) ∧ σ.1 (r + 13) (6 * i + 4) = Int32.ofNat (ρ (51 + 7 * i + 4)) ∧ σ.1 (r + 13) (6 * i + 5) = Int32.ofNat (ρ (51 + 7 * i + 6)) - 1) ∧
  (∀ i, i < ρ 11 → σ.1 (r + 13) (48 + 6 * i) = Int32.ofNat (ρ (107 + 3 * i)) ∧ σ.1 (r + 13) (48 + 6 * i + 1) = Int32.ofNat (ρ (107 + 3 * i + 2)) ∧ σ.1 (r + 13) (48 + 6 * i + 2) = Int32.ofNat (ρ (107 + 3 * i + 1)))
/-- sums -/
def sm (n : Nat) (f : Nat → Nat) : Nat := match n with
  | 0 => 0
  | n + 1 => sm n f + f n
theorem sm_0 {f : Nat → Nat} : sm 0 f = 0 := rfl
theorem sm_s {n : Nat} {f : Nat → Nat} : sm (n + 1) f = sm n f + f n := rfl
theorem sm_le {n : Nat} {f g : Nat → Nat} (h : ∀ i, i < n → f i ≤ g i) : sm n f ≤ sm n g := by
  induction n with
  | zero => exact Nat.le_refl _
  | succ n ih => rw [sm_s, sm_s]; exact Nat.add_le_add (ih (fun i hi => h i (by omega))) (h n (by omega))
theorem sm_eq {n : Nat} {f g : Nat → Nat} (h : ∀ i, i < n → f i = g i) : sm n f = sm n g := by
  induction n with
  | zero => rfl
  | succ n ih => rw [sm_s, sm_s, ih (fun i hi => h i (by omega)), h n (by omega)]
theorem sm_one {n i : Nat} {f : Nat → Nat} (h : i < n) : f i ≤ sm n f := by
  induction n with
  | zero => omega
  | succ n ih =>
    rw [sm_s]
    by_cases e : i = n
    · subst e; omega
    · have := ih (by omega); omega
theorem sm_add {n : Nat} {f g : Nat → Nat} : sm n (fun i => f i + g i) = sm n f + sm n g := by
  induction n with
  | zero => rfl
  | succ n ih => simp only [sm_s, ih]; omega
theorem sm_z {n : Nat} {f : Nat → Nat} (h : ∀ i, i < n → f i = 0) : sm n f = 0 := by
  induction n with
  | zero => rfl
  | succ n ih => rw [sm_s, ih (fun i hi => h i (by omega)), h n (by omega)]
theorem sm_swap {n m : Nat} {f : Nat → Nat → Nat} : sm n (fun i => sm m (f i)) = sm m (fun j => sm n (fun i => f i j)) := by
  induction n with
  | zero => exact (sm_z (fun _ _ => rfl)).symm
  | succ n ih => simp only [sm_s, ih, sm_add]
theorem sm_mul {n c : Nat} {f : Nat → Nat} : sm n (fun i => c * f i) = c * sm n f := by
  induction n with
  | zero => rfl
  | succ n ih => simp only [sm_s, ih, Nat.mul_add]
theorem sm_mono {n m : Nat} {f : Nat → Nat} (h : n ≤ m) : sm n f ≤ sm m f := by
  induction m with
  | zero => have : n = 0 := by omega
            subst this; exact Nat.le_refl _
  | succ m ih =>
    by_cases e : n = m + 1
    · subst e; exact Nat.le_refl _
    · rw [sm_s]; have := ih (by omega); omega
theorem sm_upd {n i x : Nat} {f : Nat → Nat} (h : i < n) : sm n (fun j => if j = i then x else f j) + f i = sm n f + x := by
  induction n with
  | zero => omega
  | succ n ih =>
    rw [sm_s, sm_s]
    by_cases e : i = n
    · subst e
      rw [if_pos rfl, sm_eq (g := f) (fun j hj => if_neg (by omega))]
      omega
    · rw [if_neg (by omega)]; have := ih (by omega); omega
/-- where a tonne lies -/
def li (p k c : Nat) : Nat := 311 + ((60 * p + k) * 12 + c)
def lo (p k : Nat) : Nat := 131 + (60 * p + k)
/-- tonnes on a cell, and times their grades -/
def tOn (ρ : Rw) (p c : Nat) : Nat := sm (ρ (24 + p)) (fun k => ρ (li p k c))
def gOn (τ ρ : Rw) (p c : Nat) : Nat := sm (ρ (24 + p)) (fun k => ρ (li p k c) * τ (16 + ρ (lo p k)))
def tPi (τ ρ : Rw) (p : Nat) : Nat := sm (τ (28 + p)) (tOn ρ p)
def gPi (τ ρ : Rw) (p : Nat) : Nat := sm (τ (28 + p)) (gOn τ ρ p)
/-- all tonnes -/
def allT (τ ρ : Rw) : Nat := sm (τ 0) (fun l => ρ (12 + l)) + sm 3 (fun p => sm 12 (fun c => tOn ρ p c)) + sm (τ 2) (fun s => ρ (27 + s))
def onP (τ ρ : Rw) (m : Nat) : Prop := ρ (2 + m) = 0 ∨ ∃ p c, p < τ 1 ∧ c < τ (28 + p) ∧ ρ (2 + m) = 100 * p + c + 1
/-- what a state can be -/
def vRow (τ ρ : Rw) : Prop :=
  ρ 0 ≤ 999 ∧ onP τ ρ 0 ∧ onP τ ρ 1 ∧ ρ 6 ≤ 10 ∧ ρ 7 ≤ 10 ∧ ρ 10 ≤ 8 ∧ ρ 11 ≤ 8 ∧ (∀ p, p < 3 → ρ (24 + p) ≤ 60) ∧
  (∀ p, p < 3 → ∀ k, k < ρ (24 + p) → ρ (lo p k) < τ 0) ∧
  (∀ p, p < 3 → ∀ k, ρ (24 + p) ≤ k → k < 60 → ∀ c, c < 12 → ρ (li p k c) = 0) ∧
  allT τ ρ ≤ 119988 ∧ (∀ s, s < τ 2 → ρ (35 + s) ≤ 999 * ρ (27 + s)) ∧ (∀ s, s < τ 2 → ρ (43 + s) ≤ 1000) ∧
  (∀ i, i < ρ 10 → ρ (51 + 7 * i) < τ 1 ∧ ρ (51 + 7 * i + 1) < τ 0 ∧ ρ (51 + 7 * i + 3) < τ (28 + ρ (51 + 7 * i)) ∧ ρ (51 + 7 * i + 5) < τ (28 + ρ (51 + 7 * i)) ∧ (1 ≤ ρ (51 + 7 * i + 4) ∧ ρ (51 + 7 * i + 4) ≤ 99) ∧ (ρ (51 + 7 * i + 6) = 0 ∨ (ρ (51 + 7 * i + 6) ≤ ρ (24 + ρ (51 + 7 * i)) ∧ ρ (lo (ρ (51 + 7 * i)) (ρ (51 + 7 * i + 6) - 1)) = ρ (51 + 7 * i + 1)))) ∧
  (∀ i, i < ρ 11 → ρ (107 + 3 * i) < τ 1 ∧ ρ (107 + 3 * i + 1) < τ (28 + ρ (107 + 3 * i)) ∧ ρ (107 + 3 * i + 2) < τ 2)
/-- the model's side -/
def mTold (σ : mS) (τ : Rw) : Prop := ∀ j, j < 79 → σ.1 83 j = Int32.ofNat (τ j)
def mRow (σ : mS) (a o : Nat) (ρ : Rw) : Prop := ∀ j, j < 2471 → σ.1 a (o + j) = Int32.ofNat (ρ j)
/-! numbers -/
theorem of_add {a b : Nat} : Int32.ofNat a + Int32.ofNat b = Int32.ofNat (a + b) := (Int32.ofNat_add a b).symm
theorem of_mul {a b : Nat} : Int32.ofNat a * Int32.ofNat b = Int32.ofNat (a * b) := (Int32.ofNat_mul a b).symm
theorem of_sub {a b : Nat} (h : b ≤ a) : Int32.ofNat a - Int32.ofNat b = Int32.ofNat (a - b) := by
  rw [Int32.sub_eq_iff_eq_add, of_add, Nat.sub_add_cancel h]
theorem of_inj {a b : Nat} (ha : a < 2147483648) (hb : b < 2147483648) : (Int32.ofNat a = Int32.ofNat b) ↔ a = b := by
  constructor
  · intro h
    have h2 := congrArg Int32.toInt h
    rw [on_int ha, on_int hb] at h2
    omega
  · intro h; rw [h]
theorem of_m1 {a : Nat} (ha : a < 2147483648) : (Int32.ofNat a - 1 = -1) ↔ a = 0 := by
  constructor
  · intro h
    have h2 : Int32.ofNat a = Int32.ofNat 0 := by
      have h3 := congrArg (· + (1 : Int32)) h
      simp only [Int32.sub_add_cancel] at h3
      rw [h3]; decide
    exact (of_inj ha (by omega)).mp h2
  · intro h; rw [h]; decide
/-- an argument that counts something of n -/
def bN (a : Int32) (n : Nat) : Int32 := if 0 ≤ a.toInt ∧ a.toInt < n then 1 else 0
theorem bN_t {a : Int32} {n : Nat} (h : 0 ≤ a.toInt ∧ a.toInt < n) : bN a n = 1 := if_pos h
theorem bN_f {a : Int32} {n : Nat} (h : ¬ (0 ≤ a.toInt ∧ a.toInt < n)) : bN a n = 0 := if_neg h
theorem bN_on {i n : Nat} (h : i < n) (hn : n < 2147483648) : bN (Int32.ofNat i) n = 1 := bN_t (by rw [on_int (by omega)]; omega)
theorem rv_bN {a : Int32} {n : Nat} : (rvOK (some .boolean) (some (.int (bN a n))) = true) ↔ True := by
  rw [rv_b]; refine iff_true_intro ?_
  unfold bN; split <;> simp
/-- such an argument is a number -/
theorem ex_on {a : Int32} {n : Nat} (h : 0 ≤ a.toInt ∧ a.toInt < n) : ∃ i : Nat, a = Int32.ofNat i ∧ i < n := by
  have hl : a.toInt < 2147483648 := by have := a.toInt_lt; omega
  refine ⟨a.toInt.toNat, ?_, by omega⟩
  apply Int32.toInt_inj.mp
  rw [on_int (by omega)]
  omega
theorem br_bN {a : Int32} {n : Nat} {A B : Prop} (hn : n < 2147483648) : br (a < 0) A (br (Int32.ofNat n ≤ a) A B) ↔ br (0 ≤ a.toInt ∧ a.toInt < n) B A := by
  unfold br
  rw [i_lt, i_le, on_int hn, show (0 : Int32).toInt = 0 by decide]
  constructor
  · intro h
    refine ⟨fun q => (h.2 (by omega)).2 (by omega), fun q => ?_⟩
    by_cases z : a.toInt < 0
    · exact h.1 z
    · exact (h.2 z).1 (by omega)
  · intro h
    exact ⟨fun q => h.2 (by omega), fun q => ⟨fun z => h.2 (by omega), fun z => h.1 (by omega)⟩⟩
theorem vin_N {a : Int32} {n : Nat} (hn : n < 2147483648) : vin (Int32.toInt64 a) 0 (Int32.toInt64 (Int32.ofNat n - 1)) = bN a n := by
  unfold vin bN
  have e : (Int32.ofNat n - 1).toInt = (n : Int) - 1 := by
    rw [Int32.toInt_sub, on_int hn, show (1 : Int32).toInt = 1 by decide]
    show Int.bmod ((n : Int) - 1) 4294967296 = _
    exact Int.bmod_eq_of_le (by omega) (by omega)
  rw [Int32.toInt_toInt64, Int32.toInt_toInt64, e, show (0 : Int64).toInt = 0 by decide]
  by_cases h : 0 ≤ a.toInt ∧ a.toInt < n
  · rw [if_pos h, if_pos (by omega)]
  · rw [if_neg h, if_neg (by omega)]
