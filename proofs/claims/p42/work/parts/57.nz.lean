/-! the first and the last bit of a small number -/
def ctz : Nat → Nat → Nat
  | 0, _ => 0
  | f + 1, s => if s % 2 = 1 then 0 else ctz f (s / 2) + 1
def lsh (x k : Int32) : Int32 := (x.toUInt32 >>> (k.toUInt32 &&& Int32.toUInt32 31)).toInt32
def n48 (a b : Int32) : Int32 := if a < 16 then (if a < 4 then b - lsh a 1 else (b + -2) - lsh (lsh a 2) 1) else (if lsh a 4 < 4 then (b + -4) - lsh (lsh a 4) 1 else ((b + -4) + -2) - lsh (lsh (lsh a 4) 2) 1)
def nlzF (a : Int32) : Int32 := if a < 256 then n48 a 31 else n48 (lsh a 8) ((31 : Int32) + -8)
def ckT (s : Nat) : Bool := decide ((Int32.ofNat s ^^^ (-1 : Int32)) &&& (Int32.ofNat s - (1 : Int32)) = Int32.ofNat (2 ^ ctz 12 s - 1)) && decide (ctz 12 s < 12) && decide (s % 2 ^ ctz 12 s = 0) && decide (s / 2 ^ ctz 12 s % 2 = 1) && decide (nlzF (Int32.ofNat s) = Int32.ofNat (31 - Nat.log2 s))
def ckA (p : Nat → Bool) : Nat → Bool
  | 0 => true
  | n + 1 => p (n + 1) && ckA p n
theorem ckA_t {p : Nat → Bool} : ∀ {n : Nat}, ckA p n = true → ∀ s, 1 ≤ s → s ≤ n → p s = true := by
  intro n
  induction n with
  | zero => intro _ s h1 h2; omega
  | succ n ih =>
    intro h s h1 h2
    have h' : (p (n + 1) && ckA p n) = true := h
    rw [Bool.and_eq_true] at h'
    by_cases c : s = n + 1
    · rw [c]; exact h'.1
    · exact ih h'.2 s h1 (by omega)
set_option maxRecDepth 100000 in
theorem ckT_all : ckA ckT 4095 = true := by decide +kernel
theorem nz_all {s : Nat} (h1 : 1 ≤ s) (h2 : s < 4096) : ((Int32.ofNat s ^^^ (-1 : Int32)) &&& (Int32.ofNat s - (1 : Int32)) = Int32.ofNat (2 ^ ctz 12 s - 1)) ∧ ctz 12 s < 12 ∧ s % 2 ^ ctz 12 s = 0 ∧ s / 2 ^ ctz 12 s % 2 = 1 ∧ nlzF (Int32.ofNat s) = Int32.ofNat (31 - Nat.log2 s) := by
  have h := ckA_t ckT_all s h1 (by omega)
  unfold ckT at h
  simp only [Bool.and_eq_true, decide_eq_true_eq] at h
  exact ⟨h.1.1.1.1, h.1.1.1.2, h.1.1.2, h.1.2, h.2⟩
theorem br_p {c A B : Prop} (h : c) (a : A) : br c A B := ⟨fun _ => a, fun q => absurd h q⟩
theorem br_n {c A B : Prop} (h : ¬ c) (a : B) : br c A B := ⟨fun q => absurd q h, fun _ => a⟩
theorem Qe {Q : Option (Option Value) → Hp → Prop} {hp : Hp} {x y : Int32} (h : x = y) (q : Q (some (some (.int y))) hp) : Q (some (some (.int x))) hp := by rw [h]; exact q
theorem g_238 {s D : Nat} {hp : Hp} {K : Int32 → Hp → Prop} (h1 : 1 ≤ s) (h2 : s < 4096) (hD : 1 ≤ D) : wpI D 238 [.int (Int32.ofNat s)] hp K ↔ K (Int32.ofNat (ctz 12 s)) hp := by
  refine cI_of (m := 0) (fun d hd Q hQ => ?_) rfl hD
  obtain ⟨e, k12, _, _, _⟩ := nz_all h1 h2
  refine b238_0 ?_
  rw [e]
  generalize ctz 12 s = k at *
  have hk : k = 0 ∨ k = 1 ∨ k = 2 ∨ k = 3 ∨ k = 4 ∨ k = 5 ∨ k = 6 ∨ k = 7 ∨ k = 8 ∨ k = 9 ∨ k = 10 ∨ k = 11 := by omega
  rcases hk with rfl | rfl | rfl | rfl | rfl | rfl | rfl | rfl | rfl | rfl | rfl | rfl
  all_goals
    repeat' (first | refine br_p (by decide) ?_ | refine br_n (by decide) ?_ | refine b238_62 ?_ | exact ⟨rfl, Qe (by decide) hQ⟩)
theorem g_237 {s D : Nat} {hp : Hp} {K : Int32 → Hp → Prop} (h1 : 1 ≤ s) (h2 : s < 4096) (hD : 1 ≤ D) : wpI D 237 [.int (Int32.ofNat s)] hp K ↔ K (Int32.ofNat (31 - Nat.log2 s)) hp := by
  refine cI_of (m := 0) (fun d hd Q hQ => ?_) rfl hD
  obtain ⟨_, _, _, _, e⟩ := nz_all h1 h2
  rw [← e] at hQ
  have fin : ∀ a b : Int32, Q (some (some (.int (n48 a b)))) hp → Wp 237 48 [.int a, .int b] [] hp Q d := fun a b q => by
    refine b237_48 ?_
    unfold n48 at q
    by_cases c1 : a < 16
    · rw [if_pos c1] at q
      refine br_p c1 ?_
      by_cases c2 : a < 4
      · rw [if_pos c2] at q
        exact br_p c2 ⟨rfl, q⟩
      · rw [if_neg c2] at q
        exact br_n c2 ⟨rfl, q⟩
    · rw [if_neg c1] at q
      refine br_n c1 ?_
      by_cases c2 : lsh a 4 < 4
      · rw [if_pos c2] at q
        exact br_p c2 ⟨rfl, q⟩
      · rw [if_neg c2] at q
        exact br_n c2 ⟨rfl, q⟩
  refine b237_0 ?_
  refine br_p ((on_lt (i := 0) (by omega) (by omega)).mpr (by omega)) ?_
  refine br_p ((on_lt (j := 65536) (by omega) (by omega)).mpr (by omega)) ?_
  unfold nlzF at hQ
  by_cases c : Int32.ofNat s < 256
  · rw [if_pos c] at hQ
    exact br_p c (fin _ _ hQ)
  · rw [if_neg c] at hQ
    exact br_n c (fin _ _ hQ)
theorem log2_12 {s : Nat} (h1 : 1 ≤ s) (h2 : s < 4096) : Nat.log2 s < 12 := by
  have := Nat.log2_self_le (n := s) (by omega)
  apply Decidable.byContradiction
  intro q
  have := Nat.pow_le_pow_right (n := 2) (by omega) (by omega : 12 ≤ Nat.log2 s)
  omega
