/-! where the class keeps what the row's place j says -/
def pf (f : Nat) : Nat := if f = 5 then 2 else if f = 6 then 5 else f
def pg (f : Nat) : Nat := if f = 0 then 0 else 3 - f
def qf (f : Nat) : Nat := if f = 2 then 5 else if f = 5 then 6 else f
def locA (j : Nat) : Nat := if j < 2 then 0 else if j < 4 then 8 else if j < 6 then 9 else if j < 8 then 10 else if j < 10 then 11 else if j < 12 then 12 else if j < 24 then 1 else if j < 27 then 2 else if j < 35 then 5 else if j < 43 then 6 else if j < 51 then 7 else if j < 131 then 13 else if j < 311 then 3 else 4
def locJ (j : Nat) : Nat := if j < 2 then j else if j < 4 then j - 2 else if j < 6 then j - 4 else if j < 8 then j - 6 else if j < 10 then j - 8 else if j < 12 then j - 10 else if j < 24 then j - 12 else if j < 27 then j - 24 else if j < 35 then j - 27 else if j < 43 then j - 35 else if j < 51 then j - 43 else if j < 107 then 6 * ((j - 51) / 7) + pf ((j - 51) % 7) else if j < 131 then 48 + 6 * ((j - 107) / 3) + pg ((j - 107) % 3) else if j < 311 then j - 131 else j - 311
def unloc (A J : Nat) : Nat := if A = 0 then J else if A = 8 then J + 2 else if A = 9 then J + 4 else if A = 10 then J + 6 else if A = 11 then J + 8 else if A = 12 then J + 10 else if A = 1 then J + 12 else if A = 2 then J + 24 else if A = 5 then J + 27 else if A = 6 then J + 35 else if A = 7 then J + 43 else if A = 13 then (if J < 48 then 51 + 7 * (J / 6) + qf (J % 6) else 107 + 3 * ((J - 48) / 6) + pg ((J - 48) % 6)) else if A = 3 then J + 131 else J + 311
def in0 (j : Nat) : Prop := j < 2471 ∧ (51 ≤ j → j < 107 → (j - 51) % 7 ≠ 2)
theorem unl {j : Nat} (h : in0 j) : unloc (locA j) (locJ j) = j := by
  obtain ⟨h1, h2⟩ := h
  unfold locA locJ
  by_cases a0 : j < 2
  · simp only [a0, if_true, unloc]
  by_cases a1 : j < 4
  · simp only [a0, a1, if_true, if_false, unloc]; simp; omega
  by_cases a2 : j < 6
  · simp only [a0, a1, a2, if_true, if_false, unloc]; simp; omega
  by_cases a3 : j < 8
  · simp only [a0, a1, a2, a3, if_true, if_false, unloc]; simp; omega
  by_cases a4 : j < 10
  · simp only [a0, a1, a2, a3, a4, if_true, if_false, unloc]; simp; omega
  by_cases a5 : j < 12
  · simp only [a0, a1, a2, a3, a4, a5, if_true, if_false, unloc]; simp; omega
  by_cases a6 : j < 24
  · simp only [a0, a1, a2, a3, a4, a5, a6, if_true, if_false, unloc]; simp; omega
  by_cases a7 : j < 27
  · simp only [a0, a1, a2, a3, a4, a5, a6, a7, if_true, if_false, unloc]; simp; omega
  by_cases a8 : j < 35
  · simp only [a0, a1, a2, a3, a4, a5, a6, a7, a8, if_true, if_false, unloc]; simp; omega
  by_cases a9 : j < 43
  · simp only [a0, a1, a2, a3, a4, a5, a6, a7, a8, a9, if_true, if_false, unloc]; simp; omega
  by_cases a10 : j < 51
  · simp only [a0, a1, a2, a3, a4, a5, a6, a7, a8, a9, a10, if_true, if_false, unloc]; simp; omega
  by_cases a11 : j < 131
  · simp only [a0, a1, a2, a3, a4, a5, a6, a7, a8, a9, a10, a11, if_true, if_false, unloc]
    by_cases b1 : j < 107
    · have h3 := h2 (by omega) b1
      have e1 : ∀ f, f < 7 → f ≠ 2 → qf (pf f) = f ∧ pf f < 6 := by
        intro f hf hf2; unfold qf pf
        have : f = 0 ∨ f = 1 ∨ f = 3 ∨ f = 4 ∨ f = 5 ∨ f = 6 := by omega
        rcases this with rfl | rfl | rfl | rfl | rfl | rfl <;> decide
      obtain ⟨e2, e3⟩ := e1 ((j - 51) % 7) (by omega) h3
      generalize hx : (j - 51) % 7 = f at *
      generalize hp : pf f = q at *
      have c1 : 6 * ((j - 51) / 7) + q < 48 := by omega
      have c2 : (6 * ((j - 51) / 7) + q) / 6 = (j - 51) / 7 := by omega
      have c3 : (6 * ((j - 51) / 7) + q) % 6 = q := by omega
      simp only [b1, if_true, c1, c2, c3, e2]
      simp
      omega
    · have e1 : ∀ f, f < 3 → pg (pg f) = f ∧ pg f < 3 := by
        intro f hf; unfold pg
        have : f = 0 ∨ f = 1 ∨ f = 2 := by omega
        rcases this with rfl | rfl | rfl <;> decide
      obtain ⟨e2, e3⟩ := e1 ((j - 107) % 3) (by omega)
      generalize hx : (j - 107) % 3 = f at *
      generalize hp : pg f = q at *
      have c1 : ¬ 48 + 6 * ((j - 107) / 3) + q < 48 := by omega
      have c2 : (48 + 6 * ((j - 107) / 3) + q - 48) / 6 = (j - 107) / 3 := by omega
      have c3 : (48 + 6 * ((j - 107) / 3) + q - 48) % 6 = q := by omega
      simp only [b1, if_false, c1, c2, c3, e2]
      simp
      omega
  have b1 : ¬ j < 107 := by omega
  by_cases a12 : j < 311
  · simp only [a0, a1, a2, a3, a4, a5, a6, a7, a8, a9, a10, a11, a12, b1, if_true, if_false, unloc]; simp; omega
  · simp only [a0, a1, a2, a3, a4, a5, a6, a7, a8, a9, a10, a11, a12, b1, if_false, unloc]; simp; omega
theorem loc_inj {i j : Nat} (hi : in0 i) (hj : in0 j) (h : locA i = locA j) (h2 : locJ i = locJ j) : i = j := by
  rw [← unl hi, ← unl hj, h, h2]
/-- places that are kept less by 1 -/
abbrev isSh (j : Nat) : Prop := (2 ≤ j ∧ j < 4) ∨ (43 ≤ j ∧ j < 51) ∨ (51 ≤ j ∧ j < 107 ∧ (j - 51) % 7 = 6)
def tv (j x : Nat) : Int32 := if isSh j then Int32.ofNat x - 1 else Int32.ofNat x
theorem tv_0 {j x : Nat} (h : ¬ isSh j) : tv j x = Int32.ofNat x := if_neg h
theorem tv_1 {j x : Nat} (h : isSh j) : tv j x = Int32.ofNat x - 1 := if_pos h
/-- the places that count -/
def dom (τ ρ : Rw) (j : Nat) : Prop := j < 12 ∨ (12 ≤ j ∧ j < 12 + τ 0) ∨ (24 ≤ j ∧ j < 27) ∨ (27 ≤ j ∧ j < 27 + τ 2) ∨ (35 ≤ j ∧ j < 35 + τ 2) ∨ (43 ≤ j ∧ j < 43 + τ 2) ∨
  (51 ≤ j ∧ j < 51 + 7 * ρ 10 ∧ (j - 51) % 7 ≠ 2) ∨ (107 ≤ j ∧ j < 107 + 3 * ρ 11) ∨
  (131 ≤ j ∧ j < 311 ∧ (j - 131) % 60 < ρ (24 + (j - 131) / 60)) ∨ (311 ≤ j ∧ j < 2471 ∧ (j - 311) / 12 % 60 < ρ (24 + (j - 311) / 720))
/-- bounds that the places need -/
def bRow (τ ρ : Rw) : Prop := τ 0 ≤ 12 ∧ τ 2 ≤ 8 ∧ ρ 10 ≤ 8 ∧ ρ 11 ≤ 8 ∧ ∀ p, p < 3 → ρ (24 + p) ≤ 60
theorem dom_in {τ ρ : Rw} {j : Nat} (hb : bRow τ ρ) (h : dom τ ρ j) : in0 j := by
  obtain ⟨b1, b2, b3, b4, -⟩ := hb
  unfold dom at h
  refine ⟨by omega, fun q1 q2 => by omega⟩
def cv (σ : mS) (r j : Nat) : Int32 := σ.1 (r + locA j) (locJ j)
theorem lA_st {m : Nat} (h : m < 2) : locA (2 + m) = 8 ∧ locJ (2 + m) = m := by
  have : m = 0 ∨ m = 1 := by omega
  rcases this with rfl | rfl <;> decide
theorem lA_wk {m : Nat} (h : m < 2) : locA (4 + m) = 9 ∧ locJ (4 + m) = m := by
  have : m = 0 ∨ m = 1 := by omega
  rcases this with rfl | rfl <;> decide
theorem lA_wy {m : Nat} (h : m < 2) : locA (6 + m) = 10 ∧ locJ (6 + m) = m := by
  have : m = 0 ∨ m = 1 := by omega
  rcases this with rfl | rfl <;> decide
theorem lA_wt {m : Nat} (h : m < 2) : locA (8 + m) = 11 ∧ locJ (8 + m) = m := by
  have : m = 0 ∨ m = 1 := by omega
  rcases this with rfl | rfl <;> decide
theorem lA_or {m : Nat} (h : m < 2) : locA (10 + m) = 12 ∧ locJ (10 + m) = m := by
  have : m = 0 ∨ m = 1 := by omega
  rcases this with rfl | rfl <;> decide
theorem lA_lf {l : Nat} (h : l < 12) : locA (12 + l) = 1 ∧ locJ (12 + l) = l := by
  unfold locA locJ
  rw [if_neg (by omega), if_neg (by omega), if_neg (by omega), if_neg (by omega), if_neg (by omega), if_neg (by omega), if_pos (by omega), if_neg (by omega), if_neg (by omega), if_neg (by omega), if_neg (by omega), if_neg (by omega), if_neg (by omega), if_pos (by omega)]
  omega
theorem lA_la {p : Nat} (h : p < 3) : locA (24 + p) = 2 ∧ locJ (24 + p) = p := by
  have : p = 0 ∨ p = 1 ∨ p = 2 := by omega
  rcases this with rfl | rfl | rfl <;> decide
theorem lA_hT {s : Nat} (h : s < 8) : locA (27 + s) = 5 ∧ locJ (27 + s) = s := by
  have : s = 0 ∨ s = 1 ∨ s = 2 ∨ s = 3 ∨ s = 4 ∨ s = 5 ∨ s = 6 ∨ s = 7 := by omega
  rcases this with rfl | rfl | rfl | rfl | rfl | rfl | rfl | rfl <;> decide
theorem lA_hO {s : Nat} (h : s < 8) : locA (35 + s) = 6 ∧ locJ (35 + s) = s := by
  have : s = 0 ∨ s = 1 ∨ s = 2 ∨ s = 3 ∨ s = 4 ∨ s = 5 ∨ s = 6 ∨ s = 7 := by omega
  rcases this with rfl | rfl | rfl | rfl | rfl | rfl | rfl | rfl <;> decide
theorem lA_sa {s : Nat} (h : s < 8) : locA (43 + s) = 7 ∧ locJ (43 + s) = s := by
  have : s = 0 ∨ s = 1 ∨ s = 2 ∨ s = 3 ∨ s = 4 ∨ s = 5 ∨ s = 6 ∨ s = 7 := by omega
  rcases this with rfl | rfl | rfl | rfl | rfl | rfl | rfl | rfl <;> decide
theorem lA_o0 {i f : Nat} (h : i < 8) (hf : f < 7) : locA (51 + 7 * i + f) = 13 ∧ locJ (51 + 7 * i + f) = 6 * i + pf f := by
  unfold locA locJ
  have e1 : (51 + 7 * i + f - 51) / 7 = i := by omega
  have e2 : (51 + 7 * i + f - 51) % 7 = f := by omega
  rw [if_neg (by omega), if_neg (by omega), if_neg (by omega), if_neg (by omega), if_neg (by omega), if_neg (by omega), if_neg (by omega), if_neg (by omega), if_neg (by omega), if_neg (by omega), if_neg (by omega), if_pos (by omega), if_neg (by omega), if_neg (by omega), if_neg (by omega), if_neg (by omega), if_neg (by omega), if_neg (by omega), if_neg (by omega), if_neg (by omega), if_neg (by omega), if_neg (by omega), if_neg (by omega), if_pos (by omega), e1, e2]
  exact ⟨rfl, rfl⟩
theorem lA_o1 {i f : Nat} (h : i < 8) (hf : f < 3) : locA (107 + 3 * i + f) = 13 ∧ locJ (107 + 3 * i + f) = 48 + 6 * i + pg f := by
  unfold locA locJ
  have e1 : (107 + 3 * i + f - 107) / 3 = i := by omega
  have e2 : (107 + 3 * i + f - 107) % 3 = f := by omega
  rw [if_neg (by omega), if_neg (by omega), if_neg (by omega), if_neg (by omega), if_neg (by omega), if_neg (by omega), if_neg (by omega), if_neg (by omega), if_neg (by omega), if_neg (by omega), if_neg (by omega), if_pos (by omega), if_neg (by omega), if_neg (by omega), if_neg (by omega), if_neg (by omega), if_neg (by omega), if_neg (by omega), if_neg (by omega), if_neg (by omega), if_neg (by omega), if_neg (by omega), if_neg (by omega), if_neg (by omega), if_pos (by omega), e1, e2]
  exact ⟨rfl, rfl⟩
theorem lA_lo {j : Nat} (h : j < 180) : locA (131 + j) = 3 ∧ locJ (131 + j) = j := by
  unfold locA locJ
  rw [if_neg (by omega), if_neg (by omega), if_neg (by omega), if_neg (by omega), if_neg (by omega), if_neg (by omega), if_neg (by omega), if_neg (by omega), if_neg (by omega), if_neg (by omega), if_neg (by omega), if_neg (by omega), if_pos (by omega), if_neg (by omega), if_neg (by omega), if_neg (by omega), if_neg (by omega), if_neg (by omega), if_neg (by omega), if_neg (by omega), if_neg (by omega), if_neg (by omega), if_neg (by omega), if_neg (by omega), if_neg (by omega), if_neg (by omega), if_pos (by omega)]
  omega
theorem lA_li {j : Nat} : locA (311 + j) = 4 ∧ locJ (311 + j) = j := by
  unfold locA locJ
  rw [if_neg (by omega), if_neg (by omega), if_neg (by omega), if_neg (by omega), if_neg (by omega), if_neg (by omega), if_neg (by omega), if_neg (by omega), if_neg (by omega), if_neg (by omega), if_neg (by omega), if_neg (by omega), if_neg (by omega), if_neg (by omega), if_neg (by omega), if_neg (by omega), if_neg (by omega), if_neg (by omega), if_neg (by omega), if_neg (by omega), if_neg (by omega), if_neg (by omega), if_neg (by omega), if_neg (by omega), if_neg (by omega), if_neg (by omega), if_neg (by omega)]
  omega
