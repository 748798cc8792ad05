section
/-! LAY ORDER, told in numbers: sets of lots as bits, orders, the least worst -/
/-- a common multiple -/
def pdF (f : Nat → Nat) : Nat → Nat
  | 0 => 1
  | k + 1 => pdF f k * (if f k = 0 then 1 else f k)
theorem pdF_pos {f : Nat → Nat} : ∀ k, 0 < pdF f k := by
  intro k
  induction k with
  | zero => exact Nat.one_pos
  | succ k ih =>
    show 0 < pdF f k * (if f k = 0 then 1 else f k)
    refine Nat.mul_pos ih ?_
    split
    · exact Nat.one_pos
    · omega
theorem pdF_dvd {f : Nat → Nat} : ∀ k i, i < k → 0 < f i → f i ∣ pdF f k := by
  intro k
  induction k with
  | zero => intro i hi; exact absurd hi (Nat.not_lt_zero _)
  | succ k ih =>
    intro i hi h0
    show f i ∣ pdF f k * (if f k = 0 then 1 else f k)
    by_cases e : i = k
    · subst e
      rw [if_neg (by omega)]
      exact Nat.dvd_mul_left _ _
    · exact Nat.dvd_trans (ih i (by omega) h0) (Nat.dvd_mul_right _ _)
/-- a fraction over M -/
def vlM (M : Nat) (p : Nat × Nat) : Nat := p.1 * (M / p.2)
theorem vlM_lt {M : Nat} {p q : Nat × Nat} (hM : 0 < M) (h1 : 0 < p.2) (h2 : 0 < q.2) (d1 : p.2 ∣ M) (d2 : q.2 ∣ M) : p.1 * q.2 < q.1 * p.2 ↔ vlM M p < vlM M q := by
  obtain ⟨a, ha⟩ := d1
  obtain ⟨b, hb⟩ := d2
  have ea : M / p.2 = a := by rw [ha]; exact Nat.mul_div_cancel_left a h1
  have eb : M / q.2 = b := by rw [hb]; exact Nat.mul_div_cancel_left b h2
  have pa : 0 < a := Nat.pos_of_ne_zero (fun z => by rw [z, Nat.mul_zero] at ha; omega)
  have pb : 0 < b := Nat.pos_of_ne_zero (fun z => by rw [z, Nat.mul_zero] at hb; omega)
  unfold vlM
  rw [ea, eb]
  have e1 : p.1 * q.2 * (a * b) = p.1 * a * M := by rw [hb]; simp only [Nat.mul_assoc, Nat.mul_comm, Nat.mul_left_comm]
  have e2 : q.1 * p.2 * (a * b) = q.1 * b * M := by rw [ha]; simp only [Nat.mul_assoc, Nat.mul_comm, Nat.mul_left_comm]
  constructor
  · intro h
    have h3 := Nat.mul_lt_mul_of_pos_right h (Nat.mul_pos pa pb)
    rw [e1, e2] at h3
    exact Nat.lt_of_mul_lt_mul_right h3
  · intro h
    have h3 := Nat.mul_lt_mul_of_pos_right h hM
    rw [← e1, ← e2] at h3
    exact Nat.lt_of_mul_lt_mul_right h3
theorem vlM_le {M : Nat} {p q : Nat × Nat} (hM : 0 < M) (h1 : 0 < p.2) (h2 : 0 < q.2) (d1 : p.2 ∣ M) (d2 : q.2 ∣ M) : p.1 * q.2 ≤ q.1 * p.2 ↔ vlM M p ≤ vlM M q := by
  have := vlM_lt hM h2 h1 d2 d1
  omega
/-! sets -/
theorem tb_or {S i j : Nat} : (S ||| 2 ^ i).testBit j = (S.testBit j || decide (i = j)) := by
  rw [Nat.testBit_or, Nat.testBit_two_pow]
theorem tb_all {n j : Nat} : (2 ^ n - 1).testBit j = decide (j < n) := Nat.testBit_two_pow_sub_one ..
theorem tb_ge {n S j : Nat} (h : S < 2 ^ n) (hj : n ≤ j) : S.testBit j = false := Nat.testBit_lt_two_pow (Nat.lt_of_lt_of_le h (Nat.pow_le_pow_right (by omega) hj))
theorem tb_ex {S : Nat} (h : S ≠ 0) : ∃ j, S.testBit j = true := Nat.exists_testBit_of_ne_zero h
theorem or_lt {n S i : Nat} (h : S < 2 ^ n) (hi : i < n) : S ||| 2 ^ i < 2 ^ n := Nat.or_lt_two_pow h (Nat.pow_lt_pow_right (by omega) hi)
theorem or_ne {S i : Nat} : S ||| 2 ^ i ≠ 0 := fun z => by
  have h : (S ||| 2 ^ i).testBit i = true := by rw [tb_or, decide_eq_true rfl, Bool.or_true]
  rw [z, Nat.zero_testBit] at h
  exact absurd h Bool.false_ne_true
theorem or_eq {S i : Nat} : (S ||| 2 ^ i = S) ↔ S.testBit i = true := by
  constructor
  · intro h
    rw [← h, tb_or, decide_eq_true rfl, Bool.or_true]
  · intro h
    apply Nat.eq_of_testBit_eq
    intro j
    rw [tb_or]
    by_cases e : i = j
    · subst e; rw [h]; rfl
    · rw [decide_eq_false e, Bool.or_false]
theorem or_gt {S i : Nat} (h : S.testBit i = false) : S < S ||| 2 ^ i := by
  have h1 : S ≤ S ||| 2 ^ i := Nat.left_le_or
  have h2 : S ||| 2 ^ i ≠ S := fun z => by rw [or_eq.mp z] at h; exact absurd h (by decide)
  omega
theorem not_all {n S : Nat} (h : S < 2 ^ n) (hn : S ≠ 2 ^ n - 1) : ∃ i, i < n ∧ S.testBit i = false := by
  apply Classical.byContradiction
  intro q
  refine hn (Nat.eq_of_testBit_eq (fun j => ?_))
  rw [tb_all]
  by_cases e : j < n
  · rw [decide_eq_true e]
    cases y : S.testBit j with
    | true => rfl
    | false => exact absurd ⟨j, e, y⟩ q
  · rw [decide_eq_false e, tb_ge h (by omega)]
/-! orders from a set on -/
def Wv (v : Nat → Nat) : Nat → List Nat → Nat
  | S, [] => v S
  | S, i :: l => max (v S) (Wv v (S ||| 2 ^ i) l)
def Cp (n : Nat) : Nat → List Nat → Prop
  | S, [] => S = 2 ^ n - 1
  | S, i :: l => i < n ∧ S.testBit i = false ∧ Cp n (S ||| 2 ^ i) l
def isO (v : Nat → Nat) (n S x : Nat) : Prop := (∃ l, Cp n S l ∧ Wv v S l = x) ∧ ∀ l, Cp n S l → x ≤ Wv v S l
theorem isO_all {v : Nat → Nat} {n : Nat} : isO v n (2 ^ n - 1) (v (2 ^ n - 1)) := by
  refine ⟨⟨[], rfl, rfl⟩, fun l h => ?_⟩
  cases l with
  | nil => exact Nat.le_refl _
  | cons i l =>
    have h2 := h.2.1
    rw [tb_all, decide_eq_true h.1] at h2
    exact absurd h2 (by decide)
theorem isO_st {v x : Nat → Nat} {n S b : Nat} (hS : S ≠ 2 ^ n - 1) (hx : ∀ i, i < n → S.testBit i = false → isO v n (S ||| 2 ^ i) (x i)) (hb : b < n ∧ S.testBit b = false) (hm : ∀ i, i < n → S.testBit i = false → x b ≤ x i) : isO v n S (max (v S) (x b)) := by
  constructor
  · obtain ⟨l, h1, h2⟩ := (hx b hb.1 hb.2).1
    refine ⟨b :: l, ⟨hb.1, hb.2, h1⟩, ?_⟩
    show max (v S) (Wv v (S ||| 2 ^ b) l) = _
    rw [h2]
  · intro l h
    cases l with
    | nil => exact absurd h hS
    | cons i l =>
      have h3 := (hx i h.1 h.2.1).2 l h.2.2
      have h4 := hm i h.1 h.2.1
      show _ ≤ max (v S) (Wv v (S ||| 2 ^ i) l)
      omega
theorem isO_u {v : Nat → Nat} {n S x y : Nat} (h1 : isO v n S x) (h2 : isO v n S y) : x = y := by
  obtain ⟨⟨l, a, b⟩, c⟩ := h1
  obtain ⟨⟨l', a', b'⟩, c'⟩ := h2
  have := c l' a'
  have := c' l a
  omega
theorem isO_v {v : Nat → Nat} {n S x : Nat} (h : isO v n S x) : v S ≤ x := by
  obtain ⟨⟨l, a, b⟩, c⟩ := h
  rw [← b]
  cases l with
  | nil => exact Nat.le_refl _
  | cons i l => exact Nat.le_max_left _ _
/-- of a set that isn't all: the least of those behind it, with its own -/
theorem isO_ch {v F : Nat → Nat} {n S : Nat} (hlt : S < 2 ^ n) (hS : S ≠ 2 ^ n - 1) (hF : isO v n S (F S)) (hx : ∀ i, i < n → S.testBit i = false → isO v n (S ||| 2 ^ i) (F (S ||| 2 ^ i))) : (∃ b, b < n ∧ S.testBit b = false ∧ F S = max (v S) (F (S ||| 2 ^ b))) ∧ ∀ i, i < n → S.testBit i = false → F S ≤ max (v S) (F (S ||| 2 ^ i)) := by
  constructor
  · obtain ⟨⟨l, h1, h2⟩, h3⟩ := hF
    cases l with
    | nil => exact absurd h1 hS
    | cons b l =>
      refine ⟨b, h1.1, h1.2.1, ?_⟩
      have h4 := (hx b h1.1 h1.2.1)
      obtain ⟨⟨l', a', b'⟩, c'⟩ := h4
      have h5 := h3 (b :: l') ⟨h1.1, h1.2.1, a'⟩
      have h6 := c' l h1.2.2
      have h7 : max (v S) (Wv v (S ||| 2 ^ b) l) = F S := h2
      have h8 : F S ≤ max (v S) (Wv v (S ||| 2 ^ b) l') := h5
      rw [b'] at h8
      omega
  · intro i h1 h2
    obtain ⟨⟨l', a', b'⟩, c'⟩ := hx i h1 h2
    have h5 := hF.2 (i :: l') ⟨h1, h2, a'⟩
    have h8 : F S ≤ max (v S) (Wv v (S ||| 2 ^ i) l') := h5
    rw [b'] at h8
    exact h8
/-! the first good one; the row that comes of it -/
def fgN (n : Nat) (F : Nat → Nat) (w S : Nat) : Nat → Nat → Nat
  | 0, _ => 0
  | r + 1, i => if S.testBit i = false ∧ F (S ||| 2 ^ i) ≤ w then i else fgN n F w S r (i + 1)
theorem fgN_s {n : Nat} {F : Nat → Nat} {w S r i : Nat} : fgN n F w S (r + 1) i = if S.testBit i = false ∧ F (S ||| 2 ^ i) ≤ w then i else fgN n F w S r (i + 1) := rfl
/-- if there is one: it is good, and none ahead of it -/
theorem fgN_g {n : Nat} {F : Nat → Nat} {w S : Nat} : ∀ r i, (∃ j, i ≤ j ∧ j < i + r ∧ S.testBit j = false ∧ F (S ||| 2 ^ j) ≤ w) → (i ≤ fgN n F w S r i ∧ fgN n F w S r i < i + r ∧ S.testBit (fgN n F w S r i) = false ∧ F (S ||| 2 ^ fgN n F w S r i) ≤ w) ∧ ∀ j, i ≤ j → j < fgN n F w S r i → ¬ (S.testBit j = false ∧ F (S ||| 2 ^ j) ≤ w) := by
  intro r
  induction r with
  | zero => rintro i ⟨j, h1, h2, _⟩; omega
  | succ r ih =>
    rintro i ⟨j, h1, h2, h3, h4⟩
    rw [fgN_s]
    by_cases e : S.testBit i = false ∧ F (S ||| 2 ^ i) ≤ w
    · rw [if_pos e]
      exact ⟨⟨Nat.le_refl _, by omega, e.1, e.2⟩, fun j a b => by omega⟩
    · rw [if_neg e]
      have ne : j ≠ i := fun z => e (by rw [← z]; exact ⟨h3, h4⟩)
      obtain ⟨⟨a1, a2, a3, a4⟩, a5⟩ := ih (i + 1) ⟨j, by omega, by omega, h3, h4⟩
      refine ⟨⟨by omega, by omega, a3, a4⟩, fun q b1 b2 => ?_⟩
      by_cases z : q = i
      · rw [z]; exact e
      · exact a5 q (by omega) b2
def fg (n : Nat) (F : Nat → Nat) (w S : Nat) : Nat := fgN n F w S n 0
def setR (row : Nat → Nat) (k i : Nat) : Nat → Nat := fun j => if j = k then i else row j
def grd (n : Nat) (F : Nat → Nat) (w : Nat) : Nat → Nat → Nat → (Nat → Nat) → (Nat → Nat)
  | 0, _, _, row => row
  | r + 1, S, k, row => grd n F w r (S ||| 2 ^ fg n F w S) (k + 1) (setR row k (fg n F w S))
theorem grd_s {n : Nat} {F : Nat → Nat} {w r S k : Nat} {row : Nat → Nat} : grd n F w (r + 1) S k row = grd n F w r (S ||| 2 ^ fg n F w S) (k + 1) (setR row k (fg n F w S)) := rfl
/-! all orders, one after the other -/
abbrev BSt : Type := Nat × Nat × (Nat → Nat)
def updB (p : Nat × Nat) (row : Nat → Nat) (B : BSt) : BSt := if B.2.1 = 0 ∨ p.1 * B.2.1 < B.1 * p.2 then (p.1, p.2, row) else B
def stpP (q p : Nat × Nat) : Nat × Nat := if p.1 * q.2 < q.1 * p.2 then q else p
def fld (f : Nat → BSt → BSt) (S : Nat) : Nat → BSt → BSt
  | 0, B => B
  | i + 1, B => if S.testBit i = true then fld f S i B else f i (fld f S i B)
theorem fld_s {f : Nat → BSt → BSt} {S i : Nat} {B : BSt} : fld f S (i + 1) B = if S.testBit i = true then fld f S i B else f i (fld f S i B) := rfl
def dfs (n : Nat) (P : Nat → Nat × Nat) : Nat → Nat → Nat × Nat → Nat → (Nat → Nat) → BSt → BSt
  | 0, _, p, _, row, B => updB p row B
  | r + 1, S, p, k, row, B => fld (fun i B => dfs n P r (S ||| 2 ^ i) (stpP (P (S ||| 2 ^ i)) p) (k + 1) (setR row k i) B) S n B
theorem dfs_s {n : Nat} {P : Nat → Nat × Nat} {r S k : Nat} {p : Nat × Nat} {row : Nat → Nat} {B : BSt} : dfs n P (r + 1) S p k row B = fld (fun i B => dfs n P r (S ||| 2 ^ i) (stpP (P (S ||| 2 ^ i)) p) (k + 1) (setR row k i) B) S n B := rfl
/-- how many are wanting -/
def lkN (S : Nat) : Nat → Nat
  | 0 => 0
  | i + 1 => lkN S i + if S.testBit i = true then 0 else 1
theorem lkN_s {S i : Nat} : lkN S (i + 1) = lkN S i + if S.testBit i = true then 0 else 1 := rfl
theorem lkN_or {S b : Nat} (hb : S.testBit b = false) : ∀ n, lkN (S ||| 2 ^ b) n + (if b < n then 1 else 0) = lkN S n := by
  intro n
  induction n with
  | zero => rfl
  | succ n ih =>
    rw [lkN_s, lkN_s, tb_or]
    by_cases e : b = n
    · subst e
      rw [decide_eq_true rfl, Bool.or_true, if_pos rfl, hb, if_neg Bool.false_ne_true, if_pos (Nat.lt_succ_self _)]
      rw [if_neg (Nat.lt_irrefl _)] at ih
      omega
    · rw [decide_eq_false e, Bool.or_false]
      by_cases c : b < n
      · rw [if_pos c] at ih
        rw [if_pos (show b < n + 1 by omega)]; omega
      · rw [if_neg c] at ih
        rw [if_neg (show ¬ b < n + 1 by omega)]; omega
theorem lkN_0 {S : Nat} : ∀ n, lkN S n = 0 → ∀ i, i < n → S.testBit i = true := by
  intro n
  induction n with
  | zero => intro _ i hi; exact absurd hi (Nat.not_lt_zero _)
  | succ n ih =>
    intro h i hi
    rw [lkN_s] at h
    by_cases e : i = n
    · subst e
      cases y : S.testBit i with
      | true => rfl
      | false => rw [y, if_neg Bool.false_ne_true] at h; omega
    · exact ih (by omega) i (by omega)
theorem lkN_z : ∀ n, lkN 0 n = n := by
  intro n
  induction n with
  | zero => rfl
  | succ n ih => rw [lkN_s, ih, Nat.zero_testBit, if_neg Bool.false_ne_true]
/-- what fractions there are: over M, none below is 0 -/
def okP (M : Nat) (p : Nat × Nat) : Prop := 0 < p.2 ∧ p.2 ∣ M
theorem stpP_v {M : Nat} {q p : Nat × Nat} (hM : 0 < M) (hq : okP M q) (hp : okP M p) : okP M (stpP q p) ∧ vlM M (stpP q p) = max (vlM M p) (vlM M q) := by
  have c := vlM_lt hM hp.1 hq.1 hp.2 hq.2
  unfold stpP
  by_cases z : p.1 * q.2 < q.1 * p.2
  · rw [if_pos z]
    have := c.mp z
    exact ⟨hq, by omega⟩
  · rw [if_neg z]
    have : ¬ vlM M p < vlM M q := fun h => z (c.mpr h)
    exact ⟨hp, by omega⟩
def someB (M : Nat) (B : BSt) : Prop := okP M (B.1, B.2.1)
def vB (M : Nat) (B : BSt) : Nat := vlM M (B.1, B.2.1)
/-- what is gone through: the least is kept, the first of like ones -/
theorem dfs_ok {M n : Nat} {P : Nat → Nat × Nat} {v F : Nat → Nat} (hM : 0 < M) (hP : ∀ S, S < 2 ^ n → S ≠ 0 → okP M (P S) ∧ vlM M (P S) = v S) (hF : ∀ S, S < 2 ^ n → isO v n S (F S)) : ∀ (r S : Nat) (p : Nat × Nat) (k : Nat) (row : Nat → Nat) (B : BSt), S < 2 ^ n → lkN S n = r → okP M p → v S ≤ vlM M p → (B.2.1 = 0 ∨ someB M B) →
    (someB M B → vB M B ≤ max (vlM M p) (F S) → dfs n P r S p k row B = B) ∧
    ((B.2.1 = 0 ∨ max (vlM M p) (F S) < vB M B) → someB M (dfs n P r S p k row B) ∧ vB M (dfs n P r S p k row B) = max (vlM M p) (F S) ∧ (dfs n P r S p k row B).2.2 = grd n F (max (vlM M p) (F S)) r S k row) := by
  intro r
  induction r with
  | zero =>
    intro S p k row B hS hr hp hv hB
    have e : S = 2 ^ n - 1 := by
      apply Classical.byContradiction
      intro q
      obtain ⟨i, h1, h2⟩ := not_all hS q
      rw [lkN_0 n hr i h1] at h2
      exact absurd h2 (by decide)
    have eF : F S = v S := by
      have h1 := hF S hS
      rw [e] at h1 ⊢
      exact isO_u h1 isO_all
    have em : max (vlM M p) (F S) = vlM M p := by rw [eF]; omega
    rw [em]
    show (someB M B → vB M B ≤ vlM M p → updB p row B = B) ∧ ((B.2.1 = 0 ∨ vlM M p < vB M B) → someB M (updB p row B) ∧ vB M (updB p row B) = vlM M p ∧ (updB p row B).2.2 = row)
    unfold updB
    constructor
    · intro sB hle
      have c := vlM_lt (p := p) (q := (B.1, B.2.1)) hM hp.1 sB.1 hp.2 sB.2
      rw [if_neg (fun q => by
        rcases q with q | q
        · have := sB.1; simp only at this; omega
        · have := c.mp q; unfold vB at hle; omega)]
    · intro hlt
      have cond : B.2.1 = 0 ∨ p.1 * B.2.1 < B.1 * p.2 := by
        rcases hlt with h | h
        · exact Or.inl h
        · rcases hB with h' | sB
          · exact Or.inl h'
          · exact Or.inr ((vlM_lt (p := p) (q := (B.1, B.2.1)) hM hp.1 sB.1 hp.2 sB.2).mpr h)
      rw [if_pos cond]
      exact ⟨hp, rfl, rfl⟩
  | succ r ih =>
    intro S p k row B hS hr hp hv hB
    have hne : S ≠ 2 ^ n - 1 := fun z => by
      have : ∀ m, m ≤ n → lkN S m = 0 := by
        intro m
        induction m with
        | zero => intro _; rfl
        | succ m im =>
          intro hm
          rw [lkN_s, im (by omega), z, tb_all, decide_eq_true (by omega : m < n), if_pos rfl]
      rw [this n (Nat.le_refl _)] at hr
      omega
    obtain ⟨⟨b0, b1, b2, b3⟩, hch⟩ := isO_ch (F := F) hS hne (hF S hS) (fun i h1 h2 => hF _ (or_lt hS h1))
    generalize hw : max (vlM M p) (F S) = w at *
    rw [dfs_s]
    -- a child
    have child : ∀ i, i < n → S.testBit i = false → okP M (stpP (P (S ||| 2 ^ i)) p) ∧ max (vlM M (stpP (P (S ||| 2 ^ i)) p)) (F (S ||| 2 ^ i)) = max (vlM M p) (F (S ||| 2 ^ i)) ∧ v (S ||| 2 ^ i) ≤ vlM M (stpP (P (S ||| 2 ^ i)) p) ∧ lkN (S ||| 2 ^ i) n = r := fun i h1 h2 => by
      have hl := or_lt hS h1
      obtain ⟨q1, q2⟩ := hP _ hl or_ne
      obtain ⟨s1, s2⟩ := stpP_v hM q1 hp
      have vF := isO_v (hF _ hl)
      have lk := lkN_or h2 n
      rw [if_pos h1] at lk
      exact ⟨s1, by rw [s2, q2]; omega, by rw [s2, q2]; omega, by omega⟩
    have wle : ∀ i, i < n → S.testBit i = false → w ≤ max (vlM M p) (F (S ||| 2 ^ i)) := fun i h1 h2 => by
      have := hch i h1 h2
      omega
    have pw : vlM M p ≤ w := by omega
    have good : ∀ i, i < n → S.testBit i = false → (F (S ||| 2 ^ i) ≤ w ↔ max (vlM M p) (F (S ||| 2 ^ i)) = w) := fun i h1 h2 => by
      have := wle i h1 h2
      omega
    have gex : ∃ j, 0 ≤ j ∧ j < 0 + n ∧ S.testBit j = false ∧ F (S ||| 2 ^ j) ≤ w := ⟨b0, Nat.zero_le _, by omega, b2, by omega⟩
    obtain ⟨⟨g0, g1, g2, g3⟩, g4⟩ := fgN_g (n := n) (F := F) (w := w) (S := S) n 0 gex
    have eg : fgN n F w S n 0 = fg n F w S := rfl
    rw [eg] at g0 g1 g2 g3 g4
    constructor
    · intro sB hle
      have : ∀ m, m ≤ n → fld (fun i B => dfs n P r (S ||| 2 ^ i) (stpP (P (S ||| 2 ^ i)) p) (k + 1) (setR row k i) B) S m B = B := by
        intro m
        induction m with
        | zero => intro _; rfl
        | succ m im =>
          intro hm
          rw [fld_s, im (by omega)]
          by_cases y : S.testBit m = true
          · rw [if_pos y]
          · rw [if_neg y]
            have y' : S.testBit m = false := by
              cases q : S.testBit m with
              | false => rfl
              | true => exact absurd q y
            obtain ⟨c1, c2, c3, c4⟩ := child m (by omega) y'
            refine (ih (S ||| 2 ^ m) _ (k + 1) (setR row k m) B (or_lt hS (by omega)) c4 c1 c3 hB).1 sB ?_
            rw [c2]
            have := wle m (by omega) y'
            omega
      exact this n (Nat.le_refl _)
    · intro hlt
      have key : ∀ m, m ≤ n → ((m ≤ fg n F w S → ((fld (fun i B => dfs n P r (S ||| 2 ^ i) (stpP (P (S ||| 2 ^ i)) p) (k + 1) (setR row k i) B) S m B).2.1 = 0 ∨ (someB M (fld (fun i B => dfs n P r (S ||| 2 ^ i) (stpP (P (S ||| 2 ^ i)) p) (k + 1) (setR row k i) B) S m B) ∧ w < vB M (fld (fun i B => dfs n P r (S ||| 2 ^ i) (stpP (P (S ||| 2 ^ i)) p) (k + 1) (setR row k i) B) S m B)))) ∧ (fg n F w S < m → someB M (fld (fun i B => dfs n P r (S ||| 2 ^ i) (stpP (P (S ||| 2 ^ i)) p) (k + 1) (setR row k i) B) S m B) ∧ vB M (fld (fun i B => dfs n P r (S ||| 2 ^ i) (stpP (P (S ||| 2 ^ i)) p) (k + 1) (setR row k i) B) S m B) = w ∧ (fld (fun i B => dfs n P r (S ||| 2 ^ i) (stpP (P (S ||| 2 ^ i)) p) (k + 1) (setR row k i) B) S m B).2.2 = grd n F w (r + 1) S k row)) := by
        intro m
        induction m with
        | zero =>
          intro _
          refine ⟨fun _ => ?_, fun h => absurd h (Nat.not_lt_zero _)⟩
          rcases hlt with h | h
          · exact Or.inl h
          · rcases hB with h' | sB
            · exact Or.inl h'
            · exact Or.inr ⟨sB, h⟩
        | succ m im =>
          intro hm
          obtain ⟨i1, i2⟩ := im (by omega)
          rw [fld_s]
          generalize fld (fun i B => dfs n P r (S ||| 2 ^ i) (stpP (P (S ||| 2 ^ i)) p) (k + 1) (setR row k i) B) S m B = Bm at *
          by_cases y : S.testBit m = true
          · rw [if_pos y]
            have ne : m ≠ fg n F w S := fun z => by rw [← z, y] at g2; exact absurd g2 (by decide)
            exact ⟨fun h => i1 (by omega), fun h => i2 (by omega)⟩
          · rw [if_neg y]
            have y' : S.testBit m = false := by
              cases q : S.testBit m with
              | false => rfl
              | true => exact absurd q y
            obtain ⟨c1, c2, c3, c4⟩ := child m (by omega) y'
            have hwm := wle m (by omega) y'
            by_cases z : m < fg n F w S
            · -- not good yet
              have ng := g4 m (Nat.zero_le _) z
              have gt : w < max (vlM M p) (F (S ||| 2 ^ m)) := by
                have : ¬ F (S ||| 2 ^ m) ≤ w := fun q => ng ⟨y', q⟩
                omega
              have hB' : Bm.2.1 = 0 ∨ someB M Bm := (i1 (by omega)).imp id (fun q => q.1)
              obtain ⟨d1, d2⟩ := ih (S ||| 2 ^ m) _ (k + 1) (setR row k m) Bm (or_lt hS (by omega)) c4 c1 c3 hB'
              rw [c2] at d1 d2
              refine ⟨fun _ => Or.inr ?_, fun h => by omega⟩
              by_cases q : Bm.2.1 = 0 ∨ max (vlM M p) (F (S ||| 2 ^ m)) < vB M Bm
              · obtain ⟨e1, e2, e3⟩ := d2 q
                exact ⟨e1, by rw [e2]; exact gt⟩
              · have sB := hB'.resolve_left (fun q0 => q (Or.inl q0))
                have le : vB M Bm ≤ max (vlM M p) (F (S ||| 2 ^ m)) := by
                  apply Classical.byContradiction
                  intro q0
                  exact q (Or.inr (by omega))
                rw [d1 sB le]
                rcases i1 (by omega) with h0 | h0
                · exact absurd (Or.inl h0) q
                · exact h0
            · by_cases z2 : m = fg n F w S
              · -- the first good one
                have ew : max (vlM M p) (F (S ||| 2 ^ m)) = w := (good m (by omega) y').mp (by rw [z2]; exact g3)
                have i1' := i1 (by omega)
                have hB' : Bm.2.1 = 0 ∨ someB M Bm := i1'.imp id (fun q => q.1)
                obtain ⟨d1, d2⟩ := ih (S ||| 2 ^ m) _ (k + 1) (setR row k m) Bm (or_lt hS (by omega)) c4 c1 c3 hB'
                rw [c2, ew] at d2
                obtain ⟨e1, e2, e3⟩ := d2 (i1'.imp id (fun q => q.2))
                refine ⟨fun h => by omega, fun _ => ⟨e1, e2, ?_⟩⟩
                rw [e3, grd_s, z2]
              · -- behind it nothing is better
                obtain ⟨e1, e2, e3⟩ := i2 (by omega)
                have d1 := (ih (S ||| 2 ^ m) _ (k + 1) (setR row k m) Bm (or_lt hS (by omega)) c4 c1 c3 (Or.inr e1)).1
                rw [c2] at d1
                rw [d1 e1 (by rw [e2]; exact hwm)]
                exact ⟨fun h => by omega, fun _ => ⟨e1, e2, e3⟩⟩
      obtain ⟨k1, k2'⟩ := key n (Nat.le_refl _)
      exact k2' (by omega)
end
section
/-! Blend in numbers: sums over sets, what the lots are -/
def sbS (f : Nat → Nat) (n S : Nat) : Nat := sm n (fun i => if S.testBit i = true then f i else 0)
theorem sbS_s {f : Nat → Nat} {n S : Nat} : sbS f (n + 1) S = sbS f n S + if S.testBit n = true then f n else 0 := rfl
theorem sbS_z {f : Nat → Nat} {n : Nat} : sbS f n 0 = 0 := sm_z (fun i hi => by rw [Nat.zero_testBit]; rfl)
theorem sbS_or {f : Nat → Nat} {n S i : Nat} (hi : i < n) (h : S.testBit i = false) : sbS f n (S ||| 2 ^ i) = sbS f n S + f i := by
  have a := sm_up (n := n) (i := i) (x := f i) (f := fun j => if S.testBit j = true then f j else 0) (g := fun j => if (S ||| 2 ^ i).testBit j = true then f j else 0) hi (fun j hj => by
    show (if (S ||| 2 ^ i).testBit j = true then f j else 0) = if j = i then f i else if S.testBit j = true then f j else 0
    rw [tb_or]
    by_cases e : j = i
    · subst e; rw [if_pos rfl, decide_eq_true rfl, Bool.or_true, if_pos rfl]
    · rw [if_neg e, decide_eq_false (fun q => e q.symm), Bool.or_false])
  have b : (if S.testBit i = true then f i else 0) = 0 := if_neg (by rw [h]; exact Bool.false_ne_true)
  replace a : sm n (fun j => if (S ||| 2 ^ i).testBit j = true then f j else 0) + (if S.testBit i = true then f i else 0) = sm n (fun j => if S.testBit j = true then f j else 0) + f i := a
  rw [b] at a
  exact a
def lwT (ρ : Rw) (ls : Nat → Nat) (i : Nat) : Nat := ρ (12 + ls i)
def lwG (τ ρ : Rw) (ls : Nat → Nat) (i : Nat) : Nat := ρ (12 + ls i) * τ (16 + ls i)
def lwP (τ ρ : Rw) (ls : Nat → Nat) (n aim S : Nat) : Nat × Nat := (dist (sbS (lwG τ ρ ls) n S) (aim * sbS (lwT ρ ls) n S), sbS (lwT ρ ls) n S)
def lwL (τ ρ : Rw) (ls : Nat → Nat) (n : Nat) : Prop := n ≤ 6 ∧ ∀ i, i < n → ls i < τ 0 ∧ 0 < ρ (12 + ls i)
def lwM (ρ : Rw) (ls : Nat → Nat) (n : Nat) : Nat := pdF (fun S => sbS (lwT ρ ls) n S) 64
def lwV (τ ρ : Rw) (ls : Nat → Nat) (n aim S : Nat) : Nat := vlM (lwM ρ ls n) (lwP τ ρ ls n aim S)
theorem lwM_p {ρ : Rw} {ls : Nat → Nat} {n : Nat} : 0 < lwM ρ ls n := pdF_pos 64
theorem lwV_0 {τ ρ : Rw} {ls : Nat → Nat} {n aim : Nat} : lwV τ ρ ls n aim 0 = 0 := by
  unfold lwV lwP vlM
  rw [sbS_z, sbS_z, Nat.mul_zero]
  exact Nat.zero_mul _
theorem lwT_b {τ ρ : Rw} {ls : Nat → Nat} {n S : Nat} (hr : vRow τ ρ) (hL : lwL τ ρ ls n) {m : Nat} (hm : m ≤ n) : sbS (lwT ρ ls) m S ≤ m * 119988 := sm_cn (fun i hi => by
  show (if S.testBit i = true then lwT ρ ls i else 0) ≤ 119988
  have := left_lt hr (hL.2 i (by omega)).1
  split
  · exact this
  · omega)
theorem lwG_b {τ ρ : Rw} {ls : Nat → Nat} {n S : Nat} (hv : vTold τ) (hr : vRow τ ρ) (hL : lwL τ ρ ls n) {m : Nat} (hm : m ≤ n) : sbS (lwG τ ρ ls) m S ≤ m * 119868012 := sm_cn (fun i hi => by
  show (if S.testBit i = true then lwG τ ρ ls i else 0) ≤ 119868012
  have l := hL.2 i (by omega)
  have a := left_lt hr l.1
  have b := (hv.2.2.2.2.1 _ l.1).2.2
  have c : ρ (12 + ls i) * τ (16 + ls i) ≤ 119988 * 999 := Nat.mul_le_mul a b
  split
  · unfold lwG; omega
  · omega)
theorem lwT_p {τ ρ : Rw} {ls : Nat → Nat} {n S : Nat} (hL : lwL τ ρ ls n) (h0 : S ≠ 0) (hS : S < 2 ^ n) : 0 < sbS (lwT ρ ls) n S := by
  obtain ⟨j, hj⟩ := tb_ex h0
  have jn : j < n := by
    apply Classical.byContradiction
    intro q
    rw [tb_ge hS (by omega)] at hj
    exact absurd hj (by decide)
  have a := sm_one (f := fun i => if S.testBit i = true then lwT ρ ls i else 0) jn
  have b : (if S.testBit j = true then lwT ρ ls j else 0) = ρ (12 + ls j) := if_pos hj
  have c := (hL.2 j jn).2
  replace a : (if S.testBit j = true then lwT ρ ls j else 0) ≤ sbS (lwT ρ ls) n S := a
  omega
def okB (M : Nat) (p : Nat × Nat) : Prop := okP M p ∧ p.1 ≤ 719208072 ∧ p.2 ≤ 719928
theorem p64 {n S : Nat} (hn : n ≤ 6) (hS : S < 2 ^ n) : S < 64 := Nat.lt_of_lt_of_le hS (Nat.pow_le_pow_right (n := 2) (by omega) hn)
theorem lwP_ok {τ ρ : Rw} {ls : Nat → Nat} {n aim S : Nat} (hv : vTold τ) (hr : vRow τ ρ) (hL : lwL τ ρ ls n) (ha : aim ≤ 999) (h0 : S ≠ 0) (hS : S < 2 ^ n) : okB (lwM ρ ls n) (lwP τ ρ ls n aim S) := by
  have n6 := hL.1
  have t := lwT_b (S := S) hr hL (Nat.le_refl n)
  have g := lwG_b (S := S) hv hr hL (Nat.le_refl n)
  have tp := lwT_p hL h0 hS
  have am : aim * sbS (lwT ρ ls) n S ≤ 999 * 719928 := Nat.mul_le_mul ha (by omega)
  refine ⟨⟨tp, pdF_dvd 64 S (p64 n6 hS) tp⟩, ?_, by show sbS (lwT ρ ls) n S ≤ _; omega⟩
  show dist _ _ ≤ _
  unfold dist
  omega
theorem min_ex {P : Nat → Prop} {x : Nat → Nat} : ∀ n, (∃ i, i < n ∧ P i) → ∃ b, b < n ∧ P b ∧ ∀ i, i < n → P i → x b ≤ x i := by
  intro n
  induction n with
  | zero => rintro ⟨i, h, _⟩; omega
  | succ n ih =>
    rintro ⟨i, h1, h2⟩
    by_cases e : ∃ i, i < n ∧ P i
    · obtain ⟨b, b1, b2, b3⟩ := ih e
      by_cases c : P n ∧ x n < x b
      · refine ⟨n, by omega, c.1, fun i h p => ?_⟩
        by_cases z : i = n
        · subst z; exact Nat.le_refl _
        · have := b3 i (by omega) p; omega
      · refine ⟨b, by omega, b2, fun i h p => ?_⟩
        by_cases z : i = n
        · subst z
          apply Classical.byContradiction
          intro q
          exact c ⟨p, by omega⟩
        · exact b3 i (by omega) p
    · have z : i = n := by
        apply Classical.byContradiction
        intro q
        exact e ⟨i, by omega, h2⟩
      subst z
      exact ⟨i, by omega, h2, fun j h p => by
        by_cases z : j = i
        · subst z; exact Nat.le_refl _
        · exact absurd ⟨j, by omega, p⟩ e⟩
theorem isO_ex {v : Nat → Nat} {n : Nat} : ∀ r S, S < 2 ^ n → lkN S n = r → ∃ x, isO v n S x := by
  intro r
  induction r with
  | zero =>
    intro S hS hr
    have e : S = 2 ^ n - 1 := by
      apply Classical.byContradiction
      intro q
      obtain ⟨i, h1, h2⟩ := not_all hS q
      rw [lkN_0 n hr i h1] at h2
      exact absurd h2 (by decide)
    rw [e]
    exact ⟨_, isO_all⟩
  | succ r ih =>
    intro S hS hr
    by_cases e : S = 2 ^ n - 1
    · rw [e]; exact ⟨_, isO_all⟩
    · have h1 : ∀ i, ∃ x, i < n → S.testBit i = false → isO v n (S ||| 2 ^ i) x := fun i => by
        by_cases q : i < n ∧ S.testBit i = false
        · have lk := lkN_or q.2 n
          rw [if_pos q.1] at lk
          obtain ⟨x, hx⟩ := ih (S ||| 2 ^ i) (or_lt hS q.1) (by omega)
          exact ⟨x, fun _ _ => hx⟩
        · exact ⟨0, fun a b => absurd ⟨a, b⟩ q⟩
      obtain ⟨x, hx⟩ := Classical.axiomOfChoice h1
      obtain ⟨b, b1, b2, b3⟩ := min_ex (P := fun i => S.testBit i = false) (x := x) n (not_all hS e)
      exact ⟨_, isO_st e hx ⟨b1, b2⟩ (fun i h p => b3 i h p)⟩
theorem exF {v : Nat → Nat} {n : Nat} : ∃ F : Nat → Nat, ∀ S, S < 2 ^ n → isO v n S (F S) := by
  have h : ∀ S, ∃ x, S < 2 ^ n → isO v n S x := fun S => by
    by_cases q : S < 2 ^ n
    · obtain ⟨x, hx⟩ := isO_ex (v := v) (lkN S n) S q rfl
      exact ⟨x, fun _ => hx⟩
    · exact ⟨0, fun a => absurd a q⟩
  obtain ⟨F, hF⟩ := Classical.axiomOfChoice h
  exact ⟨F, hF⟩
theorem isO_0 {v F : Nat → Nat} {n b : Nat} (hn : 0 < n) (hF : ∀ S, S < 2 ^ n → isO v n S (F S)) (h0 : v 0 = 0) (hb : b < n) (hm : ∀ j, j < n → F (0 ||| 2 ^ b) ≤ F (0 ||| 2 ^ j)) : F (0 ||| 2 ^ b) = F 0 := by
  have p : 1 < 2 ^ n := Nat.one_lt_two_pow (by omega)
  obtain ⟨⟨c, c1, c2, c3⟩, hch⟩ := isO_ch (F := F) (S := 0) (by omega) (by omega) (hF 0 (by omega)) (fun i h1 h2 => hF _ (or_lt (by omega) h1))
  have a1 := hch b hb (Nat.zero_testBit _)
  have a2 := hm c c1
  omega
/-! Blend, exactly -/
theorem lgr {a b : Nat} (ha : a < 9223372036854775808) (hb : b < 9223372036854775808) : (0 < lg_cmp (Int64.ofNat a) (Int64.ofNat b)) ↔ b < a := by
  rw [← Int32.not_le, lgq ha hb]
  omega
def ckU1 (i : Nat) (s : Nat) : Bool := decide (((Int32.ofNat s >>> (Int32.ofNat i &&& 31)) &&& (1 : Int32) = 1) ↔ s.testBit i = true)
theorem ckU1_0 : ckA (ckU1 0) 63 = true := by decide +kernel
theorem ckU1_1 : ckA (ckU1 1) 63 = true := by decide +kernel
theorem ckU1_2 : ckA (ckU1 2) 63 = true := by decide +kernel
theorem ckU1_3 : ckA (ckU1 3) 63 = true := by decide +kernel
theorem ckU1_4 : ckA (ckU1 4) 63 = true := by decide +kernel
theorem ckU1_5 : ckA (ckU1 5) 63 = true := by decide +kernel
theorem tb64o {s i : Nat} (h1 : 1 ≤ s) (hs : s < 64) (hi : i < 6) : (((Int32.ofNat s >>> (Int32.ofNat i &&& 31)) &&& (1 : Int32)) = 1) ↔ s.testBit i = true := by
  have q : i = 0 ∨ i = 1 ∨ i = 2 ∨ i = 3 ∨ i = 4 ∨ i = 5 := by omega
  rcases q with rfl | rfl | rfl | rfl | rfl | rfl
  · exact of_decide_eq_true (ckA_t ckU1_0 s (by omega) (by omega))
  · exact of_decide_eq_true (ckA_t ckU1_1 s (by omega) (by omega))
  · exact of_decide_eq_true (ckA_t ckU1_2 s (by omega) (by omega))
  · exact of_decide_eq_true (ckA_t ckU1_3 s (by omega) (by omega))
  · exact of_decide_eq_true (ckA_t ckU1_4 s (by omega) (by omega))
  · exact of_decide_eq_true (ckA_t ckU1_5 s (by omega) (by omega))
def blG (σ : mS) (ls : Nat → Nat) (n : Nat) : Prop := σ.1 72 0 = Int32.ofNat n ∧ ∀ i, i < n → σ.1 74 i = Int32.ofNat (ls i)
theorem blG_fr {σ σ' : mS} {ls : Nat → Nat} {n : Nat} (h : blG σ ls n) (h0 : σ'.1 72 = σ.1 72) (h1 : σ'.1 74 = σ.1 74) : blG σ' ls n := ⟨by rw [h0]; exact h.1, fun i hi => by rw [h1]; exact h.2 i hi⟩
def rp (M : Nat) (σ : mS) (S : Nat) (p : Nat × Nat) : Prop := σ.2.1 75 S = Int64.ofNat p.1 ∧ σ.2.1 76 S = Int64.ofNat p.2 ∧ okB M p
theorem rp_fr {M : Nat} {σ σ' : mS} {S : Nat} {p : Nat × Nat} (h : rp M σ S p) (h0 : σ'.2.1 75 S = σ.2.1 75 S) (h1 : σ'.2.1 76 S = σ.2.1 76 S) : rp M σ' S p := ⟨h0.trans h.1, h1.trans h.2.1, h.2.2⟩
theorem okB_m {M : Nat} {p q : Nat × Nat} (h : okB M p) (h' : okB M q) : p.1 * q.2 < 9223372036854775808 := by
  have := Nat.mul_le_mul h.2.1 h'.2.2
  omega
theorem s_4x {w : mT} {σ : mS} {s u M D : Nat} {p q : Nat × Nat} {K : Int32 → Hp → Prop} (hw : lit w) (hs : s < 64) (hu : u < 64) (hM : 0 < M) (h1 : rp M σ s p) (h2 : rp M σ u q) (hD : 1 ≤ D) : wpI D 4 [.ref 72, .int (Int32.ofNat s), .int (Int32.ofNat u)] (mW w σ) K ↔ K (if vlM M p < vlM M q then 1 else 0) (mW w σ) := by
  refine cI_of (m := 0) (fun d hd Q hQ => ?_) rfl hD
  have es := on_nat (i := s) (by omega)
  have eu := on_nat (i := u) (by omega)
  have o1 := okB_m h1.2.2 h2.2.2
  have o2 := okB_m h2.2.2 h1.2.2
  have c := vlM_lt hM h1.2.2.1.1 h2.2.2.1.1 h1.2.2.1.2 h2.2.2.1.2
  refine b4_0 ?_
  by_cases z : vlM M p < vlM M q
  · rw [if_pos z] at hQ
    have k : (0 ≤ lg_cmp (Int64.ofNat (p.1 * q.2)) (Int64.ofNat (q.1 * p.2))) ↔ False := iff_false_intro (fun h => by have := (lgp o1 o2).mp h; have := c.mpr z; omega)
    simp only [↓br_pos, ↓br_neg, ↓rF_I, ↓rF_L, ↓rF_R, ↓rF_N, rO_m, rB_m, ↓rI_m, wI_m, ↓rB2_m, ↓rB3_m, wB2_m, wB3_m, ↓rL_m, wL_m, ↓rQ_m, wQ_m, ↓lI_m, pI_m, pL_m, pR_m, sI_m, sBy_m, sBo_m, sL_m, sQ_m, fst_m, true_and, and_true, tg_some, ln_some, uI_1, uI_2, uL_1, uL_2, uL_3, uQ_1, uQ_2, uQ_3, rv_i, rv_l, rv_n, rv_b0, rv_b1, RMR, ne_eq, reduceCtorEq, not_false_eq_true, Option.getD_some, if_true, if_false, and_self, false_and, and_false, Nat.add_left_cancel_iff, Nat.add_eq_left, Nat.left_eq_add, Nat.one_ne_zero, Nat.reduceAdd, Nat.reduceLT, Nat.reduceLeDiff, Nat.reduceEqDiff, true_implies, false_implies, implies_true, Option.some.injEq, forall_eq', forall_eq, reduceCtorEq, brT, brF, br_s, i_10, i_01, ib_0_2, ib_1_2, tn_0, tn_1, Int32.le_refl, eq_self, rv_bN, rv_iM, RCX 0, RCG 2, RCT 4, RCT 15, RCT 25, RCS 35, RCS 49, RCH 63, RCP 67, RCB 72, RCR 77, RCM 81, RLY, lit_at hw, ib64 hs, ib64 hu, es, eu, h1.1, h1.2.1, h2.1, h2.2.1, ol_mul, k]
    exact hQ
  · rw [if_neg z] at hQ
    have k : (0 ≤ lg_cmp (Int64.ofNat (p.1 * q.2)) (Int64.ofNat (q.1 * p.2))) ↔ True := iff_true_intro ((lgp o1 o2).mpr (by
      apply Classical.byContradiction
      intro h
      exact z (c.mp (by omega))))
    simp only [↓br_pos, ↓br_neg, ↓rF_I, ↓rF_L, ↓rF_R, ↓rF_N, rO_m, rB_m, ↓rI_m, wI_m, ↓rB2_m, ↓rB3_m, wB2_m, wB3_m, ↓rL_m, wL_m, ↓rQ_m, wQ_m, ↓lI_m, pI_m, pL_m, pR_m, sI_m, sBy_m, sBo_m, sL_m, sQ_m, fst_m, true_and, and_true, tg_some, ln_some, uI_1, uI_2, uL_1, uL_2, uL_3, uQ_1, uQ_2, uQ_3, rv_i, rv_l, rv_n, rv_b0, rv_b1, RMR, ne_eq, reduceCtorEq, not_false_eq_true, Option.getD_some, if_true, if_false, and_self, false_and, and_false, Nat.add_left_cancel_iff, Nat.add_eq_left, Nat.left_eq_add, Nat.one_ne_zero, Nat.reduceAdd, Nat.reduceLT, Nat.reduceLeDiff, Nat.reduceEqDiff, true_implies, false_implies, implies_true, Option.some.injEq, forall_eq', forall_eq, reduceCtorEq, brT, brF, br_s, i_10, i_01, ib_0_2, ib_1_2, tn_0, tn_1, Int32.le_refl, eq_self, rv_bN, rv_iM, RCX 0, RCG 2, RCT 4, RCT 15, RCT 25, RCS 35, RCS 49, RCH 63, RCP 67, RCB 72, RCR 77, RCM 81, RLY, lit_at hw, ib64 hs, ib64 hu, es, eu, h1.1, h1.2.1, h2.1, h2.2.1, ol_mul, k]
    exact hQ
/-- the best behind a set -/
def bfP (F : Nat → Nat) (n s i y : Nat) : Prop := (y = 0 ∧ ∀ j, j < i → s.testBit j = true) ∨ ∃ b, b < i ∧ s.testBit b = false ∧ y = s ||| 2 ^ b ∧ ∀ j, j < i → s.testBit j = false → F (s ||| 2 ^ b) ≤ F (s ||| 2 ^ j)
theorem lp_3x {w : mT} {σ : mS} {s n M : Nat} {F : Nat → Nat} {ls : Nat → Nat} (hw : lit w) (hn : n ≤ 6) (hs : s < 2 ^ n) (hI : blG σ ls n) (hM : 0 < M) (hc : ∀ i, i < n → s.testBit i = false → ∃ p, rp M σ (s ||| 2 ^ i) p ∧ vlM M p = F (s ||| 2 ^ i)) : ∀ (r i y : Nat), i + r = n → bfP F n s i y → ∃ y', bfP F n s n y' ∧ ∀ {Q : Option (Option Value) → Hp → Prop} {d : Nat} (x : Value), 1 ≤ d → (x = jk ∨ ∃ u : Int32, x = .int u) → Q (some (some (.int (Int32.ofNat y')))) (mW w σ) → Wp 3 4 [.ref 72, .int (Int32.ofNat s), .int (Int32.ofNat y), .int (Int32.ofNat i), x] [] (mW w σ) Q d := by
  have s64 := p64 hn hs
  intro r
  induction r with
  | zero =>
    intro i y hi hy
    have hi' : i = n := by omega
    subst hi'
    refine ⟨y, hy, fun {Q d} x hd hx hQ => ?_⟩
    rcases hx with rfl | ⟨u, rfl⟩
    · refine b3_4 ?_
      simp only [↓br_pos, ↓br_neg, ↓rF_I, ↓rF_L, ↓rF_R, ↓rF_N, rO_m, rB_m, ↓rI_m, wI_m, ↓rB2_m, ↓rB3_m, wB2_m, wB3_m, ↓rL_m, wL_m, ↓rQ_m, wQ_m, ↓lI_m, pI_m, pL_m, pR_m, sI_m, sBy_m, sBo_m, sL_m, sQ_m, fst_m, true_and, and_true, tg_some, ln_some, uI_1, uI_2, uL_1, uL_2, uL_3, uQ_1, uQ_2, uQ_3, rv_i, rv_l, rv_n, rv_b0, rv_b1, RMR, ne_eq, reduceCtorEq, not_false_eq_true, Option.getD_some, if_true, if_false, and_self, false_and, and_false, Nat.add_left_cancel_iff, Nat.add_eq_left, Nat.left_eq_add, Nat.one_ne_zero, Nat.reduceAdd, Nat.reduceLT, Nat.reduceLeDiff, Nat.reduceEqDiff, true_implies, false_implies, implies_true, Option.some.injEq, forall_eq', forall_eq, reduceCtorEq, brT, brF, br_s, i_10, i_01, ib_0_2, ib_1_2, tn_0, tn_1, Int32.le_refl, eq_self, rv_bN, rv_iM, RCX 0, RCG 2, RCT 4, RCT 15, RCT 25, RCS 35, RCS 49, RCH 63, RCP 67, RCB 72, RCR 77, RCM 81, RLY, lit_at hw, hI.1, Int32.le_refl]
      exact hQ
    · refine b3_4a ?_
      simp only [↓br_pos, ↓br_neg, ↓rF_I, ↓rF_L, ↓rF_R, ↓rF_N, rO_m, rB_m, ↓rI_m, wI_m, ↓rB2_m, ↓rB3_m, wB2_m, wB3_m, ↓rL_m, wL_m, ↓rQ_m, wQ_m, ↓lI_m, pI_m, pL_m, pR_m, sI_m, sBy_m, sBo_m, sL_m, sQ_m, fst_m, true_and, and_true, tg_some, ln_some, uI_1, uI_2, uL_1, uL_2, uL_3, uQ_1, uQ_2, uQ_3, rv_i, rv_l, rv_n, rv_b0, rv_b1, RMR, ne_eq, reduceCtorEq, not_false_eq_true, Option.getD_some, if_true, if_false, and_self, false_and, and_false, Nat.add_left_cancel_iff, Nat.add_eq_left, Nat.left_eq_add, Nat.one_ne_zero, Nat.reduceAdd, Nat.reduceLT, Nat.reduceLeDiff, Nat.reduceEqDiff, true_implies, false_implies, implies_true, Option.some.injEq, forall_eq', forall_eq, reduceCtorEq, brT, brF, br_s, i_10, i_01, ib_0_2, ib_1_2, tn_0, tn_1, Int32.le_refl, eq_self, rv_bN, rv_iM, RCX 0, RCG 2, RCT 4, RCT 15, RCT 25, RCS 35, RCS 49, RCH 63, RCP 67, RCB 72, RCR 77, RCM 81, RLY, lit_at hw, hI.1, Int32.le_refl]
      exact hQ
  | succ r ih =>
    intro i y hi hy
    have hi6 : i < 6 := by omega
    have l1 : (Int32.ofNat n ≤ Int32.ofNat i) ↔ False := iff_false_intro (fun q => absurd ((on_le (by omega) (by omega)).mp q) (by omega))
    obtain ⟨o1, o2⟩ := orb s64 hi6
    by_cases tb : s.testBit i = true
    · have oe : s ||| 2 ^ i = s := or_eq.mpr tb
      have ce : (Int32.ofNat (s ||| 2 ^ i) = Int32.ofNat s) ↔ True := iff_true_intro (by rw [oe])
      obtain ⟨y', a1, a2⟩ := ih (i + 1) y (by omega) (hy.imp (fun q => ⟨q.1, fun j hj => by
          by_cases z : j = i
          · rw [z]; exact tb
          · exact q.2 j (by omega)⟩) (fun ⟨b, b1, b2, b3, b4⟩ => ⟨b, by omega, b2, b3, fun j hj ht => b4 j (by
          have : j ≠ i := fun z => by rw [z, tb] at ht; exact absurd ht (by decide)
          omega) ht⟩))
      refine ⟨y', a1, fun {Q d} x hd hx hQ => ?_⟩
      rcases hx with rfl | ⟨u, rfl⟩
      · refine b3_4 ?_
        simp only [↓br_pos, ↓br_neg, ↓rF_I, ↓rF_L, ↓rF_R, ↓rF_N, rO_m, rB_m, ↓rI_m, wI_m, ↓rB2_m, ↓rB3_m, wB2_m, wB3_m, ↓rL_m, wL_m, ↓rQ_m, wQ_m, ↓lI_m, pI_m, pL_m, pR_m, sI_m, sBy_m, sBo_m, sL_m, sQ_m, fst_m, true_and, and_true, tg_some, ln_some, uI_1, uI_2, uL_1, uL_2, uL_3, uQ_1, uQ_2, uQ_3, rv_i, rv_l, rv_n, rv_b0, rv_b1, RMR, ne_eq, reduceCtorEq, not_false_eq_true, Option.getD_some, if_true, if_false, and_self, false_and, and_false, Nat.add_left_cancel_iff, Nat.add_eq_left, Nat.left_eq_add, Nat.one_ne_zero, Nat.reduceAdd, Nat.reduceLT, Nat.reduceLeDiff, Nat.reduceEqDiff, true_implies, false_implies, implies_true, Option.some.injEq, forall_eq', forall_eq, reduceCtorEq, brT, brF, br_s, i_10, i_01, ib_0_2, ib_1_2, tn_0, tn_1, Int32.le_refl, eq_self, rv_bN, rv_iM, RCX 0, RCG 2, RCT 4, RCT 15, RCT 25, RCS 35, RCS 49, RCH 63, RCP 67, RCB 72, RCR 77, RCM 81, RLY, lit_at hw, hI.1, l1, o1, ce, on_succ]
        exact a2 _ hd (Or.inr ⟨_, rfl⟩) hQ
      · refine b3_4a ?_
        simp only [↓br_pos, ↓br_neg, ↓rF_I, ↓rF_L, ↓rF_R, ↓rF_N, rO_m, rB_m, ↓rI_m, wI_m, ↓rB2_m, ↓rB3_m, wB2_m, wB3_m, ↓rL_m, wL_m, ↓rQ_m, wQ_m, ↓lI_m, pI_m, pL_m, pR_m, sI_m, sBy_m, sBo_m, sL_m, sQ_m, fst_m, true_and, and_true, tg_some, ln_some, uI_1, uI_2, uL_1, uL_2, uL_3, uQ_1, uQ_2, uQ_3, rv_i, rv_l, rv_n, rv_b0, rv_b1, RMR, ne_eq, reduceCtorEq, not_false_eq_true, Option.getD_some, if_true, if_false, and_self, false_and, and_false, Nat.add_left_cancel_iff, Nat.add_eq_left, Nat.left_eq_add, Nat.one_ne_zero, Nat.reduceAdd, Nat.reduceLT, Nat.reduceLeDiff, Nat.reduceEqDiff, true_implies, false_implies, implies_true, Option.some.injEq, forall_eq', forall_eq, reduceCtorEq, brT, brF, br_s, i_10, i_01, ib_0_2, ib_1_2, tn_0, tn_1, Int32.le_refl, eq_self, rv_bN, rv_iM, RCX 0, RCG 2, RCT 4, RCT 15, RCT 25, RCS 35, RCS 49, RCH 63, RCP 67, RCB 72, RCR 77, RCM 81, RLY, lit_at hw, hI.1, l1, o1, ce, on_succ]
        exact a2 _ hd (Or.inr ⟨_, rfl⟩) hQ
    · have tf : s.testBit i = false := Bool.eq_false_iff.mpr tb
      have on : s ||| 2 ^ i ≠ s := fun q => tb (or_eq.mp q)
      have ce : (Int32.ofNat (s ||| 2 ^ i) = Int32.ofNat s) ↔ False := iff_false_intro (fun q => on ((of_inj (by omega) (by omega)).mp q))
      obtain ⟨p, hp, vp⟩ := hc i (by omega) tf
      by_cases y0 : y = 0
      · have c0 : (Int32.ofNat y = (0 : Int32)) ↔ True := iff_true_intro (by rw [y0]; rfl)
        obtain ⟨y', a1, a2⟩ := ih (i + 1) (s ||| 2 ^ i) (by omega) (Or.inr ⟨i, by omega, tf, rfl, fun j hj ht => by
          rcases hy with q | ⟨b, b1, b2, b3, b4⟩
          · by_cases z : j = i
            · rw [z]; exact Nat.le_refl _
            · rw [q.2 j (by omega)] at ht; exact absurd ht (by decide)
          · exact absurd (b3.symm.trans y0) or_ne⟩)
        refine ⟨y', a1, fun {Q d} x hd hx hQ => ?_⟩
        rcases hx with rfl | ⟨u, rfl⟩
        · refine b3_4 ?_
          simp only [↓br_pos, ↓br_neg, ↓rF_I, ↓rF_L, ↓rF_R, ↓rF_N, rO_m, rB_m, ↓rI_m, wI_m, ↓rB2_m, ↓rB3_m, wB2_m, wB3_m, ↓rL_m, wL_m, ↓rQ_m, wQ_m, ↓lI_m, pI_m, pL_m, pR_m, sI_m, sBy_m, sBo_m, sL_m, sQ_m, fst_m, true_and, and_true, tg_some, ln_some, uI_1, uI_2, uL_1, uL_2, uL_3, uQ_1, uQ_2, uQ_3, rv_i, rv_l, rv_n, rv_b0, rv_b1, RMR, ne_eq, reduceCtorEq, not_false_eq_true, Option.getD_some, if_true, if_false, and_self, false_and, and_false, Nat.add_left_cancel_iff, Nat.add_eq_left, Nat.left_eq_add, Nat.one_ne_zero, Nat.reduceAdd, Nat.reduceLT, Nat.reduceLeDiff, Nat.reduceEqDiff, true_implies, false_implies, implies_true, Option.some.injEq, forall_eq', forall_eq, reduceCtorEq, brT, brF, br_s, i_10, i_01, ib_0_2, ib_1_2, tn_0, tn_1, Int32.le_refl, eq_self, rv_bN, rv_iM, RCX 0, RCG 2, RCT 4, RCT 15, RCT 25, RCS 35, RCS 49, RCH 63, RCP 67, RCB 72, RCR 77, RCM 81, RLY, lit_at hw, hI.1, l1, o1, ce, on_succ, c0]
          exact a2 _ hd (Or.inr ⟨_, rfl⟩) hQ
        · refine b3_4a ?_
          simp only [↓br_pos, ↓br_neg, ↓rF_I, ↓rF_L, ↓rF_R, ↓rF_N, rO_m, rB_m, ↓rI_m, wI_m, ↓rB2_m, ↓rB3_m, wB2_m, wB3_m, ↓rL_m, wL_m, ↓rQ_m, wQ_m, ↓lI_m, pI_m, pL_m, pR_m, sI_m, sBy_m, sBo_m, sL_m, sQ_m, fst_m, true_and, and_true, tg_some, ln_some, uI_1, uI_2, uL_1, uL_2, uL_3, uQ_1, uQ_2, uQ_3, rv_i, rv_l, rv_n, rv_b0, rv_b1, RMR, ne_eq, reduceCtorEq, not_false_eq_true, Option.getD_some, if_true, if_false, and_self, false_and, and_false, Nat.add_left_cancel_iff, Nat.add_eq_left, Nat.left_eq_add, Nat.one_ne_zero, Nat.reduceAdd, Nat.reduceLT, Nat.reduceLeDiff, Nat.reduceEqDiff, true_implies, false_implies, implies_true, Option.some.injEq, forall_eq', forall_eq, reduceCtorEq, brT, brF, br_s, i_10, i_01, ib_0_2, ib_1_2, tn_0, tn_1, Int32.le_refl, eq_self, rv_bN, rv_iM, RCX 0, RCG 2, RCT 4, RCT 15, RCT 25, RCS 35, RCS 49, RCH 63, RCP 67, RCB 72, RCR 77, RCM 81, RLY, lit_at hw, hI.1, l1, o1, ce, on_succ, c0]
          exact a2 _ hd (Or.inr ⟨_, rfl⟩) hQ
      · obtain ⟨b, b1, b2, b3, b4⟩ := hy.resolve_left (fun q => y0 q.1)
        have y64 : y < 64 := by rw [b3]; exact (orb s64 (by omega)).2
        have c0 : (Int32.ofNat y = (0 : Int32)) ↔ False := iff_false_intro (fun q => y0 ((of_eq0 (by omega)).mp q))
        obtain ⟨q, hq, vq⟩ := hc b (by omega) b2
        rw [← b3] at hq vq
        have g4 := fun {d : Nat} {K : Int32 → Hp → Prop} (hd : 1 ≤ d) => s_4x (K := K) hw o2 y64 hM hp hq hd
        by_cases z : vlM M p < vlM M q
        · obtain ⟨y', a1, a2⟩ := ih (i + 1) (s ||| 2 ^ i) (by omega) (Or.inr ⟨i, by omega, tf, rfl, fun j hj ht => by
            by_cases z' : j = i
            · rw [z']; exact Nat.le_refl _
            · have := b4 j (by omega) ht; rw [← b3] at this; omega⟩)
          simp only [if_pos z] at g4
          refine ⟨y', a1, fun {Q d} x hd hx hQ => ?_⟩
          rcases hx with rfl | ⟨u, rfl⟩
          · refine b3_4 ?_
            simp only [↓br_pos, ↓br_neg, ↓rF_I, ↓rF_L, ↓rF_R, ↓rF_N, rO_m, rB_m, ↓rI_m, wI_m, ↓rB2_m, ↓rB3_m, wB2_m, wB3_m, ↓rL_m, wL_m, ↓rQ_m, wQ_m, ↓lI_m, pI_m, pL_m, pR_m, sI_m, sBy_m, sBo_m, sL_m, sQ_m, fst_m, true_and, and_true, tg_some, ln_some, uI_1, uI_2, uL_1, uL_2, uL_3, uQ_1, uQ_2, uQ_3, rv_i, rv_l, rv_n, rv_b0, rv_b1, RMR, ne_eq, reduceCtorEq, not_false_eq_true, Option.getD_some, if_true, if_false, and_self, false_and, and_false, Nat.add_left_cancel_iff, Nat.add_eq_left, Nat.left_eq_add, Nat.one_ne_zero, Nat.reduceAdd, Nat.reduceLT, Nat.reduceLeDiff, Nat.reduceEqDiff, true_implies, false_implies, implies_true, Option.some.injEq, forall_eq', forall_eq, reduceCtorEq, brT, brF, br_s, i_10, i_01, ib_0_2, ib_1_2, tn_0, tn_1, Int32.le_refl, eq_self, rv_bN, rv_iM, RCX 0, RCG 2, RCT 4, RCT 15, RCT 25, RCS 35, RCS 49, RCH 63, RCP 67, RCB 72, RCR 77, RCM 81, RLY, lit_at hw, hI.1, l1, o1, ce, on_succ, c0, g4 hd, z10]
            exact a2 _ hd (Or.inr ⟨_, rfl⟩) hQ
          · refine b3_4a ?_
            simp only [↓br_pos, ↓br_neg, ↓rF_I, ↓rF_L, ↓rF_R, ↓rF_N, rO_m, rB_m, ↓rI_m, wI_m, ↓rB2_m, ↓rB3_m, wB2_m, wB3_m, ↓rL_m, wL_m, ↓rQ_m, wQ_m, ↓lI_m, pI_m, pL_m, pR_m, sI_m, sBy_m, sBo_m, sL_m, sQ_m, fst_m, true_and, and_true, tg_some, ln_some, uI_1, uI_2, uL_1, uL_2, uL_3, uQ_1, uQ_2, uQ_3, rv_i, rv_l, rv_n, rv_b0, rv_b1, RMR, ne_eq, reduceCtorEq, not_false_eq_true, Option.getD_some, if_true, if_false, and_self, false_and, and_false, Nat.add_left_cancel_iff, Nat.add_eq_left, Nat.left_eq_add, Nat.one_ne_zero, Nat.reduceAdd, Nat.reduceLT, Nat.reduceLeDiff, Nat.reduceEqDiff, true_implies, false_implies, implies_true, Option.some.injEq, forall_eq', forall_eq, reduceCtorEq, brT, brF, br_s, i_10, i_01, ib_0_2, ib_1_2, tn_0, tn_1, Int32.le_refl, eq_self, rv_bN, rv_iM, RCX 0, RCG 2, RCT 4, RCT 15, RCT 25, RCS 35, RCS 49, RCH 63, RCP 67, RCB 72, RCR 77, RCM 81, RLY, lit_at hw, hI.1, l1, o1, ce, on_succ, c0, g4 hd, z10]
            exact a2 _ hd (Or.inr ⟨_, rfl⟩) hQ
        · obtain ⟨y', a1, a2⟩ := ih (i + 1) y (by omega) (Or.inr ⟨b, by omega, b2, b3, fun j hj ht => by
            by_cases z' : j = i
            · rw [z', ← b3]; omega
            · exact b4 j (by omega) ht⟩)
          simp only [if_neg z] at g4
          refine ⟨y', a1, fun {Q d} x hd hx hQ => ?_⟩
          rcases hx with rfl | ⟨u, rfl⟩
          · refine b3_4 ?_
            simp only [↓br_pos, ↓br_neg, ↓rF_I, ↓rF_L, ↓rF_R, ↓rF_N, rO_m, rB_m, ↓rI_m, wI_m, ↓rB2_m, ↓rB3_m, wB2_m, wB3_m, ↓rL_m, wL_m, ↓rQ_m, wQ_m, ↓lI_m, pI_m, pL_m, pR_m, sI_m, sBy_m, sBo_m, sL_m, sQ_m, fst_m, true_and, and_true, tg_some, ln_some, uI_1, uI_2, uL_1, uL_2, uL_3, uQ_1, uQ_2, uQ_3, rv_i, rv_l, rv_n, rv_b0, rv_b1, RMR, ne_eq, reduceCtorEq, not_false_eq_true, Option.getD_some, if_true, if_false, and_self, false_and, and_false, Nat.add_left_cancel_iff, Nat.add_eq_left, Nat.left_eq_add, Nat.one_ne_zero, Nat.reduceAdd, Nat.reduceLT, Nat.reduceLeDiff, Nat.reduceEqDiff, true_implies, false_implies, implies_true, Option.some.injEq, forall_eq', forall_eq, reduceCtorEq, brT, brF, br_s, i_10, i_01, ib_0_2, ib_1_2, tn_0, tn_1, Int32.le_refl, eq_self, rv_bN, rv_iM, RCX 0, RCG 2, RCT 4, RCT 15, RCT 25, RCS 35, RCS 49, RCH 63, RCP 67, RCB 72, RCR 77, RCM 81, RLY, lit_at hw, hI.1, l1, o1, ce, on_succ, c0, g4 hd]
            exact a2 _ hd (Or.inr ⟨_, rfl⟩) hQ
          · refine b3_4a ?_
            simp only [↓br_pos, ↓br_neg, ↓rF_I, ↓rF_L, ↓rF_R, ↓rF_N, rO_m, rB_m, ↓rI_m, wI_m, ↓rB2_m, ↓rB3_m, wB2_m, wB3_m, ↓rL_m, wL_m, ↓rQ_m, wQ_m, ↓lI_m, pI_m, pL_m, pR_m, sI_m, sBy_m, sBo_m, sL_m, sQ_m, fst_m, true_and, and_true, tg_some, ln_some, uI_1, uI_2, uL_1, uL_2, uL_3, uQ_1, uQ_2, uQ_3, rv_i, rv_l, rv_n, rv_b0, rv_b1, RMR, ne_eq, reduceCtorEq, not_false_eq_true, Option.getD_some, if_true, if_false, and_self, false_and, and_false, Nat.add_left_cancel_iff, Nat.add_eq_left, Nat.left_eq_add, Nat.one_ne_zero, Nat.reduceAdd, Nat.reduceLT, Nat.reduceLeDiff, Nat.reduceEqDiff, true_implies, false_implies, implies_true, Option.some.injEq, forall_eq', forall_eq, reduceCtorEq, brT, brF, br_s, i_10, i_01, ib_0_2, ib_1_2, tn_0, tn_1, Int32.le_refl, eq_self, rv_bN, rv_iM, RCX 0, RCG 2, RCT 4, RCT 15, RCT 25, RCS 35, RCS 49, RCH 63, RCP 67, RCB 72, RCR 77, RCM 81, RLY, lit_at hw, hI.1, l1, o1, ce, on_succ, c0, g4 hd]
            exact a2 _ hd (Or.inr ⟨_, rfl⟩) hQ
theorem s_3x {w : mT} {σ : mS} {s n M : Nat} {F : Nat → Nat} {ls : Nat → Nat} (hw : lit w) (hn : n ≤ 6) (hs : s < 2 ^ n) (hI : blG σ ls n) (hM : 0 < M) (hc : ∀ i, i < n → s.testBit i = false → ∃ p, rp M σ (s ||| 2 ^ i) p ∧ vlM M p = F (s ||| 2 ^ i)) (ha : s ≠ 2 ^ n - 1) : ∃ b, b < n ∧ s.testBit b = false ∧ (∀ j, j < n → s.testBit j = false → F (s ||| 2 ^ b) ≤ F (s ||| 2 ^ j)) ∧ ∀ {D : Nat} {K : Int32 → Hp → Prop}, 2 ≤ D → (wpI D 3 [.ref 72, .int (Int32.ofNat s)] (mW w σ) K ↔ K (Int32.ofNat (s ||| 2 ^ b)) (mW w σ)) := by
  obtain ⟨y', a1, a2⟩ := lp_3x hw hn hs hI hM hc n 0 0 (by omega) (Or.inl ⟨rfl, fun j hj => absurd hj (Nat.not_lt_zero _)⟩)
  obtain ⟨b, b1, b2, b3, b4⟩ := a1.resolve_left (fun q => by
    obtain ⟨i, h1, h2⟩ := not_all hs ha
    rw [q.2 i h1] at h2
    exact absurd h2 (by decide))
  rw [b3] at a2
  refine ⟨b, b1, b2, b4, fun hD => cI_of (m := 1) (fun d hd Q hQ => ?_) rfl hD⟩
  exact b3_0 (a2 jk hd (Or.inl rfl) hQ)
theorem s_5x {w : mT} {σ : mS} {s u M : Nat} {p q : Nat × Nat} (hw : lit w) (hs : s < 64) (hu : u < 64) (hM : 0 < M) (h1 : rp M σ s p) (h2 : rp M σ u q) : ∃ σ', frW 72 77 σ σ' ∧ σ'.1 = σ.1 ∧ (∃ p', rp M σ' s p' ∧ vlM M p' = max (vlM M p) (vlM M q)) ∧ (∀ S, S ≠ s → σ'.2.1 75 S = σ.2.1 75 S ∧ σ'.2.1 76 S = σ.2.1 76 S) ∧ ∀ {D : Nat} {K : Hp → Prop}, 2 ≤ D → (wpV D 5 [.ref 72, .int (Int32.ofNat s), .int (Int32.ofNat u)] (mW w σ) K ↔ K (mW w σ')) := by
  have es := on_nat (i := s) (by omega)
  have eu := on_nat (i := u) (by omega)
  have g4 := fun {d : Nat} {K : Int32 → Hp → Prop} (hd : 1 ≤ d) => s_4x (K := K) hw hs hu hM h1 h2 hd
  by_cases z : vlM M p < vlM M q
  · simp only [if_pos z] at g4
    refine ⟨uL (uL σ 75 s (Int64.ofNat q.1)) 76 s (Int64.ofNat q.2), frW_tr (frW_L (by omega)) (frW_L (by omega)), rfl, ⟨q, ⟨by simp only [uL_2, Nat.reduceEqDiff, false_and, if_false, and_self, if_true], by simp only [uL_2, and_self, if_true], h2.2.2⟩, by omega⟩, fun S hS => ⟨by simp only [uL_2, Nat.reduceEqDiff, false_and, if_false, hS, and_false], by simp only [uL_2, Nat.reduceEqDiff, false_and, if_false, hS, and_false]⟩, fun hD => cV_of (m := 1) (fun d hd Q hQ => ?_) rfl hD⟩
    refine b5_0 ?_
    simp only [↓br_pos, ↓br_neg, ↓rF_I, ↓rF_L, ↓rF_R, ↓rF_N, rO_m, rB_m, ↓rI_m, wI_m, ↓rB2_m, ↓rB3_m, wB2_m, wB3_m, ↓rL_m, wL_m, ↓rQ_m, wQ_m, ↓lI_m, pI_m, pL_m, pR_m, sI_m, sBy_m, sBo_m, sL_m, sQ_m, fst_m, true_and, and_true, tg_some, ln_some, uI_1, uI_2, uL_1, uL_2, uL_3, uQ_1, uQ_2, uQ_3, rv_i, rv_l, rv_n, rv_b0, rv_b1, RMR, ne_eq, reduceCtorEq, not_false_eq_true, Option.getD_some, if_true, if_false, and_self, false_and, and_false, Nat.add_left_cancel_iff, Nat.add_eq_left, Nat.left_eq_add, Nat.one_ne_zero, Nat.reduceAdd, Nat.reduceLT, Nat.reduceLeDiff, Nat.reduceEqDiff, true_implies, false_implies, implies_true, Option.some.injEq, forall_eq', forall_eq, reduceCtorEq, brT, brF, br_s, i_10, i_01, ib_0_2, ib_1_2, tn_0, tn_1, Int32.le_refl, eq_self, rv_bN, rv_iM, RCX 0, RCG 2, RCT 4, RCT 15, RCT 25, RCS 35, RCS 49, RCH 63, RCP 67, RCB 72, RCR 77, RCM 81, RLY, lit_at hw, ib64 hs, ib64 hu, es, eu, g4 hd, z10, h2.1, h2.2.1]
    exact hQ
  · simp only [if_neg z] at g4
    refine ⟨σ, frW_rf, rfl, ⟨p, h1, by omega⟩, fun S hS => ⟨rfl, rfl⟩, fun hD => cV_of (m := 1) (fun d hd Q hQ => ?_) rfl hD⟩
    refine b5_0 ?_
    simp only [↓br_pos, ↓br_neg, ↓rF_I, ↓rF_L, ↓rF_R, ↓rF_N, rO_m, rB_m, ↓rI_m, wI_m, ↓rB2_m, ↓rB3_m, wB2_m, wB3_m, ↓rL_m, wL_m, ↓rQ_m, wQ_m, ↓lI_m, pI_m, pL_m, pR_m, sI_m, sBy_m, sBo_m, sL_m, sQ_m, fst_m, true_and, and_true, tg_some, ln_some, uI_1, uI_2, uL_1, uL_2, uL_3, uQ_1, uQ_2, uQ_3, rv_i, rv_l, rv_n, rv_b0, rv_b1, RMR, ne_eq, reduceCtorEq, not_false_eq_true, Option.getD_some, if_true, if_false, and_self, false_and, and_false, Nat.add_left_cancel_iff, Nat.add_eq_left, Nat.left_eq_add, Nat.one_ne_zero, Nat.reduceAdd, Nat.reduceLT, Nat.reduceLeDiff, Nat.reduceEqDiff, true_implies, false_implies, implies_true, Option.some.injEq, forall_eq', forall_eq, reduceCtorEq, brT, brF, br_s, i_10, i_01, ib_0_2, ib_1_2, tn_0, tn_1, Int32.le_refl, eq_self, rv_bN, rv_iM, RCX 0, RCG 2, RCT 4, RCT 15, RCT 25, RCS 35, RCS 49, RCH 63, RCP 67, RCB 72, RCR 77, RCM 81, RLY, lit_at hw, ib64 hs, ib64 hu, es, eu, g4 hd]
    exact hQ
theorem lp_2x {w : mT} {σ : mS} {P s n aim : Nat} {τ ρ : Rw} {ls : Nat → Nat} {Q : Option (Option Value) → Hp → Prop} (hE : loE w σ P τ ρ) (hL : lwL τ ρ ls n) (h0 : 1 ≤ s) (hs : s < 64) (ha : aim ≤ 999) (hI : blG σ ls n) : ∀ (r i : Nat), i + r = n → ∀ {d : Nat} {x : Value}, 1 ≤ d → (x = jk ∨ ∃ u : Int64, x = .long u) → Q (some none) (mW w (uL (uL σ 75 s (Int64.ofNat (lwP τ ρ ls n aim s).1)) 76 s (Int64.ofNat (lwP τ ρ ls n aim s).2))) → Wp 2 9 [.ref 72, .ref P, .ref 35, .int (Int32.ofNat s), .int (Int32.ofNat aim), .long (Int64.ofNat (sbS (lwG τ ρ ls) i s)), jk, .long (Int64.ofNat (sbS (lwT ρ ls) i s)), jk, .int (Int32.ofNat i), x, jk] [] (mW w σ) Q d := by
  obtain ⟨hw, hP, hτ, hv, hρ, hr⟩ := hE
  have hT' := isTP hw hP
  simp only [isT] at hT'
  have hP1 : P = 15 ∨ P = 25 := hP
  have n6 := hL.1
  have v0 := hv.1
  have ens := on_nat (i := s) (by omega)
  intro r
  induction r with
  | zero =>
    intro i hi d x hd hx hQ
    have hi' : i = n := by omega
    subst hi'
    have t := lwT_b (S := s) hr hL (Nat.le_refl i)
    have g := lwG_b (S := s) hv hr hL (Nat.le_refl i)
    have am : aim * sbS (lwT ρ ls) i s ≤ 999 * 719928 := Nat.mul_le_mul ha (by omega)
    have ia := i64_of (a := aim) (by omega)
    have lab := labs (a := sbS (lwG τ ρ ls) i s) (b := aim * sbS (lwT ρ ls) i s) (by omega) (by omega)
    replace hQ : Q (some none) (mW w (uL (uL σ 75 s (Int64.ofNat (dist (sbS (lwG τ ρ ls) i s) (aim * sbS (lwT ρ ls) i s)))) 76 s (Int64.ofNat (sbS (lwT ρ ls) i s)))) := hQ
    rcases hx with rfl | ⟨u, rfl⟩
    · refine b2_9 ?_
      simp only [↓br_pos, ↓br_neg, ↓rF_I, ↓rF_L, ↓rF_R, ↓rF_N, rO_m, rB_m, ↓rI_m, wI_m, ↓rB2_m, ↓rB3_m, wB2_m, wB3_m, ↓rL_m, wL_m, ↓rQ_m, wQ_m, ↓lI_m, pI_m, pL_m, pR_m, sI_m, sBy_m, sBo_m, sL_m, sQ_m, fst_m, true_and, and_true, tg_some, ln_some, uI_1, uI_2, uL_1, uL_2, uL_3, uQ_1, uQ_2, uQ_3, rv_i, rv_l, rv_n, rv_b0, rv_b1, RMR, ne_eq, reduceCtorEq, not_false_eq_true, Option.getD_some, if_true, if_false, and_self, false_and, and_false, Nat.add_left_cancel_iff, Nat.add_eq_left, Nat.left_eq_add, Nat.one_ne_zero, Nat.reduceAdd, Nat.reduceLT, Nat.reduceLeDiff, Nat.reduceEqDiff, true_implies, false_implies, implies_true, Option.some.injEq, forall_eq', forall_eq, reduceCtorEq, brT, brF, br_s, i_10, i_01, ib_0_2, ib_1_2, tn_0, tn_1, Int32.le_refl, eq_self, rv_bN, rv_iM, RCX 0, RCG 2, RCT 4, RCT 15, RCT 25, RCS 35, RCS 49, RCH 63, RCP 67, RCB 72, RCR 77, RCM 81, RLY, lit_at hw, hI.1, Int32.le_refl, ib64 hs, ens, ia, ol_mul, lab]
      exact hQ
    · refine b2_9a ?_
      simp only [↓br_pos, ↓br_neg, ↓rF_I, ↓rF_L, ↓rF_R, ↓rF_N, rO_m, rB_m, ↓rI_m, wI_m, ↓rB2_m, ↓rB3_m, wB2_m, wB3_m, ↓rL_m, wL_m, ↓rQ_m, wQ_m, ↓lI_m, pI_m, pL_m, pR_m, sI_m, sBy_m, sBo_m, sL_m, sQ_m, fst_m, true_and, and_true, tg_some, ln_some, uI_1, uI_2, uL_1, uL_2, uL_3, uQ_1, uQ_2, uQ_3, rv_i, rv_l, rv_n, rv_b0, rv_b1, RMR, ne_eq, reduceCtorEq, not_false_eq_true, Option.getD_some, if_true, if_false, and_self, false_and, and_false, Nat.add_left_cancel_iff, Nat.add_eq_left, Nat.left_eq_add, Nat.one_ne_zero, Nat.reduceAdd, Nat.reduceLT, Nat.reduceLeDiff, Nat.reduceEqDiff, true_implies, false_implies, implies_true, Option.some.injEq, forall_eq', forall_eq, reduceCtorEq, brT, brF, br_s, i_10, i_01, ib_0_2, ib_1_2, tn_0, tn_1, Int32.le_refl, eq_self, rv_bN, rv_iM, RCX 0, RCG 2, RCT 4, RCT 15, RCT 25, RCS 35, RCS 49, RCH 63, RCP 67, RCB 72, RCR 77, RCM 81, RLY, lit_at hw, hI.1, Int32.le_refl, ib64 hs, ens, ia, ol_mul, lab]
      exact hQ
  | succ r ih =>
    intro i hi d x hd hx hQ
    have l1 : (Int32.ofNat n ≤ Int32.ofNat i) ↔ False := iff_false_intro (fun q => absurd ((on_le (by omega) (by omega)).mp q) (by omega))
    have eb : inB (Int32.ofNat i) 6 = true := on_inB (by omega) (by omega)
    have en := on_nat (i := i) (by omega)
    have el := hI.2 i (by omega)
    obtain ⟨hl, hp0⟩ := hL.2 i (by omega)
    have ebl : inB (Int32.ofNat (ls i)) 12 = true := on_inB (by omega) (by omega)
    have enl := on_nat (i := ls i) (by omega)
    have e1 : σ.1 36 (ls i) = Int32.ofNat (ρ (12 + ls i)) := tS_lf hρ hl
    have e2 : σ.1 (P + 2) (ls i) = Int32.ofNat (τ (16 + ls i)) := (hτ.2.2.2.2.1 _ hl).2
    have lf := left_lt hr hl
    have gr := (hv.2.2.2.2.1 _ hl).2.2
    have i12 := i64_of (a := ρ (12 + ls i)) (by omega)
    have i16 := i64_of (a := τ (16 + ls i)) (by omega)
    have a2 := fun {d : Nat} {x : Value} => ih (i + 1) (by omega) (d := d) (x := x)
    rw [sbS_s, sbS_s] at a2
    by_cases tb : s.testBit i = true
    · have cb := iff_true_intro ((tb64o h0 hs (by omega : i < 6)).mpr tb)
      rw [if_pos tb, if_pos tb] at a2
      simp only [lwT, lwG] at a2 hQ ⊢
      rcases hx with rfl | ⟨u, rfl⟩
      · skip
        refine b2_9 ?_
        simp only [↓br_pos, ↓br_neg, ↓rF_I, ↓rF_L, ↓rF_R, ↓rF_N, rO_m, rB_m, ↓rI_m, wI_m, ↓rB2_m, ↓rB3_m, wB2_m, wB3_m, ↓rL_m, wL_m, ↓rQ_m, wQ_m, ↓lI_m, pI_m, pL_m, pR_m, sI_m, sBy_m, sBo_m, sL_m, sQ_m, fst_m, true_and, and_true, tg_some, ln_some, uI_1, uI_2, uL_1, uL_2, uL_3, uQ_1, uQ_2, uQ_3, rv_i, rv_l, rv_n, rv_b0, rv_b1, RMR, ne_eq, reduceCtorEq, not_false_eq_true, Option.getD_some, if_true, if_false, and_self, false_and, and_false, Nat.add_left_cancel_iff, Nat.add_eq_left, Nat.left_eq_add, Nat.one_ne_zero, Nat.reduceAdd, Nat.reduceLT, Nat.reduceLeDiff, Nat.reduceEqDiff, true_implies, false_implies, implies_true, Option.some.injEq, forall_eq', forall_eq, reduceCtorEq, brT, brF, br_s, i_10, i_01, ib_0_2, ib_1_2, tn_0, tn_1, Int32.le_refl, eq_self, rv_bN, rv_iM, RCX 0, RCG 2, RCT 4, RCT 15, RCT 25, RCS 35, RCS 49, RCH 63, RCP 67, RCB 72, RCR 77, RCM 81, RLY, lit_at hw, RCT P, hT', hI.1, l1, eb, en, el, ebl, enl, cb, e1, e2, i12, i16, ol_mul, ol_add]
        refine b2_71a ?_
        rw [on_succ]
        exact a2 hd (Or.inr ⟨_, rfl⟩) hQ
      · skip
        refine b2_9a ?_
        simp only [↓br_pos, ↓br_neg, ↓rF_I, ↓rF_L, ↓rF_R, ↓rF_N, rO_m, rB_m, ↓rI_m, wI_m, ↓rB2_m, ↓rB3_m, wB2_m, wB3_m, ↓rL_m, wL_m, ↓rQ_m, wQ_m, ↓lI_m, pI_m, pL_m, pR_m, sI_m, sBy_m, sBo_m, sL_m, sQ_m, fst_m, true_and, and_true, tg_some, ln_some, uI_1, uI_2, uL_1, uL_2, uL_3, uQ_1, uQ_2, uQ_3, rv_i, rv_l, rv_n, rv_b0, rv_b1, RMR, ne_eq, reduceCtorEq, not_false_eq_true, Option.getD_some, if_true, if_false, and_self, false_and, and_false, Nat.add_left_cancel_iff, Nat.add_eq_left, Nat.left_eq_add, Nat.one_ne_zero, Nat.reduceAdd, Nat.reduceLT, Nat.reduceLeDiff, Nat.reduceEqDiff, true_implies, false_implies, implies_true, Option.some.injEq, forall_eq', forall_eq, reduceCtorEq, brT, brF, br_s, i_10, i_01, ib_0_2, ib_1_2, tn_0, tn_1, Int32.le_refl, eq_self, rv_bN, rv_iM, RCX 0, RCG 2, RCT 4, RCT 15, RCT 25, RCS 35, RCS 49, RCH 63, RCP 67, RCB 72, RCR 77, RCM 81, RLY, lit_at hw, RCT P, hT', hI.1, l1, eb, en, el, ebl, enl, cb, e1, e2, i12, i16, ol_mul, ol_add]
        refine b2_71a ?_
        rw [on_succ]
        exact a2 hd (Or.inr ⟨_, rfl⟩) hQ
    · have cb := iff_false_intro (fun q => tb ((tb64o h0 hs (by omega : i < 6)).mp q))
      rw [if_neg tb, if_neg tb, Nat.add_zero, Nat.add_zero] at a2
      rcases hx with rfl | ⟨u, rfl⟩
      · skip
        refine b2_9 ?_
        simp only [↓br_pos, ↓br_neg, ↓rF_I, ↓rF_L, ↓rF_R, ↓rF_N, rO_m, rB_m, ↓rI_m, wI_m, ↓rB2_m, ↓rB3_m, wB2_m, wB3_m, ↓rL_m, wL_m, ↓rQ_m, wQ_m, ↓lI_m, pI_m, pL_m, pR_m, sI_m, sBy_m, sBo_m, sL_m, sQ_m, fst_m, true_and, and_true, tg_some, ln_some, uI_1, uI_2, uL_1, uL_2, uL_3, uQ_1, uQ_2, uQ_3, rv_i, rv_l, rv_n, rv_b0, rv_b1, RMR, ne_eq, reduceCtorEq, not_false_eq_true, Option.getD_some, if_true, if_false, and_self, false_and, and_false, Nat.add_left_cancel_iff, Nat.add_eq_left, Nat.left_eq_add, Nat.one_ne_zero, Nat.reduceAdd, Nat.reduceLT, Nat.reduceLeDiff, Nat.reduceEqDiff, true_implies, false_implies, implies_true, Option.some.injEq, forall_eq', forall_eq, reduceCtorEq, brT, brF, br_s, i_10, i_01, ib_0_2, ib_1_2, tn_0, tn_1, Int32.le_refl, eq_self, rv_bN, rv_iM, RCX 0, RCG 2, RCT 4, RCT 15, RCT 25, RCS 35, RCS 49, RCH 63, RCP 67, RCB 72, RCR 77, RCM 81, RLY, lit_at hw, RCT P, hT', hI.1, l1, eb, en, el, ebl, enl, cb]
        refine b2_71 ?_
        rw [on_succ]
        exact a2 hd (Or.inl rfl) hQ
      · skip
        refine b2_9a ?_
        simp only [↓br_pos, ↓br_neg, ↓rF_I, ↓rF_L, ↓rF_R, ↓rF_N, rO_m, rB_m, ↓rI_m, wI_m, ↓rB2_m, ↓rB3_m, wB2_m, wB3_m, ↓rL_m, wL_m, ↓rQ_m, wQ_m, ↓lI_m, pI_m, pL_m, pR_m, sI_m, sBy_m, sBo_m, sL_m, sQ_m, fst_m, true_and, and_true, tg_some, ln_some, uI_1, uI_2, uL_1, uL_2, uL_3, uQ_1, uQ_2, uQ_3, rv_i, rv_l, rv_n, rv_b0, rv_b1, RMR, ne_eq, reduceCtorEq, not_false_eq_true, Option.getD_some, if_true, if_false, and_self, false_and, and_false, Nat.add_left_cancel_iff, Nat.add_eq_left, Nat.left_eq_add, Nat.one_ne_zero, Nat.reduceAdd, Nat.reduceLT, Nat.reduceLeDiff, Nat.reduceEqDiff, true_implies, false_implies, implies_true, Option.some.injEq, forall_eq', forall_eq, reduceCtorEq, brT, brF, br_s, i_10, i_01, ib_0_2, ib_1_2, tn_0, tn_1, Int32.le_refl, eq_self, rv_bN, rv_iM, RCX 0, RCG 2, RCT 4, RCT 15, RCT 25, RCS 35, RCS 49, RCH 63, RCP 67, RCB 72, RCR 77, RCM 81, RLY, lit_at hw, RCT P, hT', hI.1, l1, eb, en, el, ebl, enl, cb]
        refine b2_71a ?_
        rw [on_succ]
        exact a2 hd (Or.inr ⟨_, rfl⟩) hQ
theorem s_2x {w : mT} {σ : mS} {P s n aim D : Nat} {τ ρ : Rw} {ls : Nat → Nat} {K : Hp → Prop} (hE : loE w σ P τ ρ) (hL : lwL τ ρ ls n) (h0 : 1 ≤ s) (hs : s < 64) (ha : aim ≤ 999) (hI : blG σ ls n) (hD : 2 ≤ D) : wpV D 2 [.ref 72, .ref P, .ref 35, .int (Int32.ofNat s), .int (Int32.ofNat aim)] (mW w σ) K ↔ K (mW w (uL (uL σ 75 s (Int64.ofNat (lwP τ ρ ls n aim s).1)) 76 s (Int64.ofNat (lwP τ ρ ls n aim s).2))) := by
  refine cV_of (m := 1) (fun d hd Q hQ => ?_) rfl hD
  exact b2_0 (lp_2x hE hL h0 hs ha hI n 0 (by omega) hd (Or.inl rfl) hQ)
end
section
/-! Blend, exactly: the order -/
def wU (M : Nat) (σ : mS) (p : Nat × Nat) : Prop := σ.2.1 72 2 = Int64.ofNat p.1 ∧ σ.2.1 72 3 = Int64.ofNat p.2 ∧ okB M p
theorem lp_7x {w : mT} {σ : mS} {s n M d : Nat} {F : Nat → Nat} {ls : Nat → Nat} {p : Nat × Nat} {Q : Option (Option Value) → Hp → Prop} (hw : lit w) (hn : n ≤ 6) (hs : s < 2 ^ n) (hI : blG σ ls n) (hM : 0 < M) (hW : wU M σ p) (hc : ∀ i, i < n → s.testBit i = false → ∃ q, rp M σ (s ||| 2 ^ i) q ∧ vlM M q = F (s ||| 2 ^ i)) : ∀ (r i : Nat), i + r = n → ∀ {x : Value}, (x = jk ∨ ∃ u : Int32, x = .int u) → Q (some (some (.int (Int32.ofNat (fgN n F (vlM M p) s r i))))) (mW w σ) → Wp 7 2 [.ref 72, .int (Int32.ofNat s), .int (Int32.ofNat i), x] [] (mW w σ) Q d := by
  have s64 := p64 hn hs
  intro r
  induction r with
  | zero =>
    intro i hi x hx hQ
    have hi' : i = n := by omega
    subst hi'
    rcases hx with rfl | ⟨u, rfl⟩
    · refine b7_2 ?_
      simp only [↓br_pos, ↓br_neg, ↓rF_I, ↓rF_L, ↓rF_R, ↓rF_N, rO_m, rB_m, ↓rI_m, wI_m, ↓rB2_m, ↓rB3_m, wB2_m, wB3_m, ↓rL_m, wL_m, ↓rQ_m, wQ_m, ↓lI_m, pI_m, pL_m, pR_m, sI_m, sBy_m, sBo_m, sL_m, sQ_m, fst_m, true_and, and_true, tg_some, ln_some, uI_1, uI_2, uL_1, uL_2, uL_3, uQ_1, uQ_2, uQ_3, rv_i, rv_l, rv_n, rv_b0, rv_b1, RMR, ne_eq, reduceCtorEq, not_false_eq_true, Option.getD_some, if_true, if_false, and_self, false_and, and_false, Nat.add_left_cancel_iff, Nat.add_eq_left, Nat.left_eq_add, Nat.one_ne_zero, Nat.reduceAdd, Nat.reduceLT, Nat.reduceLeDiff, Nat.reduceEqDiff, true_implies, false_implies, implies_true, Option.some.injEq, forall_eq', forall_eq, reduceCtorEq, brT, brF, br_s, i_10, i_01, ib_0_2, ib_1_2, tn_0, tn_1, Int32.le_refl, eq_self, rv_bN, rv_iM, RCX 0, RCG 2, RCT 4, RCT 15, RCT 25, RCS 35, RCS 49, RCH 63, RCP 67, RCB 72, RCR 77, RCM 81, RLY, lit_at hw, hI.1, Int32.le_refl]
      exact hQ
    · refine b7_2a ?_
      simp only [↓br_pos, ↓br_neg, ↓rF_I, ↓rF_L, ↓rF_R, ↓rF_N, rO_m, rB_m, ↓rI_m, wI_m, ↓rB2_m, ↓rB3_m, wB2_m, wB3_m, ↓rL_m, wL_m, ↓rQ_m, wQ_m, ↓lI_m, pI_m, pL_m, pR_m, sI_m, sBy_m, sBo_m, sL_m, sQ_m, fst_m, true_and, and_true, tg_some, ln_some, uI_1, uI_2, uL_1, uL_2, uL_3, uQ_1, uQ_2, uQ_3, rv_i, rv_l, rv_n, rv_b0, rv_b1, RMR, ne_eq, reduceCtorEq, not_false_eq_true, Option.getD_some, if_true, if_false, and_self, false_and, and_false, Nat.add_left_cancel_iff, Nat.add_eq_left, Nat.left_eq_add, Nat.one_ne_zero, Nat.reduceAdd, Nat.reduceLT, Nat.reduceLeDiff, Nat.reduceEqDiff, true_implies, false_implies, implies_true, Option.some.injEq, forall_eq', forall_eq, reduceCtorEq, brT, brF, br_s, i_10, i_01, ib_0_2, ib_1_2, tn_0, tn_1, Int32.le_refl, eq_self, rv_bN, rv_iM, RCX 0, RCG 2, RCT 4, RCT 15, RCT 25, RCS 35, RCS 49, RCH 63, RCP 67, RCB 72, RCR 77, RCM 81, RLY, lit_at hw, hI.1, Int32.le_refl]
      exact hQ
  | succ r ih =>
    intro i hi x hx hQ
    have hi6 : i < 6 := by omega
    have l1 : (Int32.ofNat n ≤ Int32.ofNat i) ↔ False := iff_false_intro (fun q => absurd ((on_le (by omega) (by omega)).mp q) (by omega))
    obtain ⟨o1, o2⟩ := orb s64 hi6
    have ew := on_nat (i := s ||| 2 ^ i) (by omega)
    rw [fgN_s] at hQ
    by_cases tb : s.testBit i = true
    · have oe : s ||| 2 ^ i = s := or_eq.mpr tb
      have ce : (Int32.ofNat (s ||| 2 ^ i) = Int32.ofNat s) ↔ True := iff_true_intro (by rw [oe])
      rw [if_neg (fun q => by rw [tb] at q; exact absurd q.1 (by decide))] at hQ
      rcases hx with rfl | ⟨u, rfl⟩
      · refine b7_2 ?_
        simp only [↓br_pos, ↓br_neg, ↓rF_I, ↓rF_L, ↓rF_R, ↓rF_N, rO_m, rB_m, ↓rI_m, wI_m, ↓rB2_m, ↓rB3_m, wB2_m, wB3_m, ↓rL_m, wL_m, ↓rQ_m, wQ_m, ↓lI_m, pI_m, pL_m, pR_m, sI_m, sBy_m, sBo_m, sL_m, sQ_m, fst_m, true_and, and_true, tg_some, ln_some, uI_1, uI_2, uL_1, uL_2, uL_3, uQ_1, uQ_2, uQ_3, rv_i, rv_l, rv_n, rv_b0, rv_b1, RMR, ne_eq, reduceCtorEq, not_false_eq_true, Option.getD_some, if_true, if_false, and_self, false_and, and_false, Nat.add_left_cancel_iff, Nat.add_eq_left, Nat.left_eq_add, Nat.one_ne_zero, Nat.reduceAdd, Nat.reduceLT, Nat.reduceLeDiff, Nat.reduceEqDiff, true_implies, false_implies, implies_true, Option.some.injEq, forall_eq', forall_eq, reduceCtorEq, brT, brF, br_s, i_10, i_01, ib_0_2, ib_1_2, tn_0, tn_1, Int32.le_refl, eq_self, rv_bN, rv_iM, RCX 0, RCG 2, RCT 4, RCT 15, RCT 25, RCS 35, RCS 49, RCH 63, RCP 67, RCB 72, RCR 77, RCM 81, RLY, lit_at hw, hI.1, l1, o1, ce, on_succ]
        exact ih (i + 1) (by omega) (Or.inr ⟨_, rfl⟩) hQ
      · refine b7_2a ?_
        simp only [↓br_pos, ↓br_neg, ↓rF_I, ↓rF_L, ↓rF_R, ↓rF_N, rO_m, rB_m, ↓rI_m, wI_m, ↓rB2_m, ↓rB3_m, wB2_m, wB3_m, ↓rL_m, wL_m, ↓rQ_m, wQ_m, ↓lI_m, pI_m, pL_m, pR_m, sI_m, sBy_m, sBo_m, sL_m, sQ_m, fst_m, true_and, and_true, tg_some, ln_some, uI_1, uI_2, uL_1, uL_2, uL_3, uQ_1, uQ_2, uQ_3, rv_i, rv_l, rv_n, rv_b0, rv_b1, RMR, ne_eq, reduceCtorEq, not_false_eq_true, Option.getD_some, if_true, if_false, and_self, false_and, and_false, Nat.add_left_cancel_iff, Nat.add_eq_left, Nat.left_eq_add, Nat.one_ne_zero, Nat.reduceAdd, Nat.reduceLT, Nat.reduceLeDiff, Nat.reduceEqDiff, true_implies, false_implies, implies_true, Option.some.injEq, forall_eq', forall_eq, reduceCtorEq, brT, brF, br_s, i_10, i_01, ib_0_2, ib_1_2, tn_0, tn_1, Int32.le_refl, eq_self, rv_bN, rv_iM, RCX 0, RCG 2, RCT 4, RCT 15, RCT 25, RCS 35, RCS 49, RCH 63, RCP 67, RCB 72, RCR 77, RCM 81, RLY, lit_at hw, hI.1, l1, o1, ce, on_succ]
        exact ih (i + 1) (by omega) (Or.inr ⟨_, rfl⟩) hQ
    · have tf : s.testBit i = false := Bool.eq_false_iff.mpr tb
      have on : s ||| 2 ^ i ≠ s := fun q => tb (or_eq.mp q)
      have ce : (Int32.ofNat (s ||| 2 ^ i) = Int32.ofNat s) ↔ False := iff_false_intro (fun q => on ((of_inj (by omega) (by omega)).mp q))
      obtain ⟨q, hq, vq⟩ := hc i (by omega) tf
      have m1 := okB_m hq.2.2 hW.2.2
      have m2 := okB_m hW.2.2 hq.2.2
      have c := vlM_lt hM hW.2.2.1.1 hq.2.2.1.1 hW.2.2.1.2 hq.2.2.1.2
      by_cases z : F (s ||| 2 ^ i) ≤ vlM M p
      · rw [if_pos ⟨tf, z⟩] at hQ
        have k : (0 < lg_cmp (Int64.ofNat (q.1 * p.2)) (Int64.ofNat (p.1 * q.2))) ↔ False := iff_false_intro (fun h => by
          have := c.mp ((lgr m1 m2).mp h)
          omega)
        rcases hx with rfl | ⟨u, rfl⟩
        · skip
          refine b7_2 ?_
          simp only [↓br_pos, ↓br_neg, ↓rF_I, ↓rF_L, ↓rF_R, ↓rF_N, rO_m, rB_m, ↓rI_m, wI_m, ↓rB2_m, ↓rB3_m, wB2_m, wB3_m, ↓rL_m, wL_m, ↓rQ_m, wQ_m, ↓lI_m, pI_m, pL_m, pR_m, sI_m, sBy_m, sBo_m, sL_m, sQ_m, fst_m, true_and, and_true, tg_some, ln_some, uI_1, uI_2, uL_1, uL_2, uL_3, uQ_1, uQ_2, uQ_3, rv_i, rv_l, rv_n, rv_b0, rv_b1, RMR, ne_eq, reduceCtorEq, not_false_eq_true, Option.getD_some, if_true, if_false, and_self, false_and, and_false, Nat.add_left_cancel_iff, Nat.add_eq_left, Nat.left_eq_add, Nat.one_ne_zero, Nat.reduceAdd, Nat.reduceLT, Nat.reduceLeDiff, Nat.reduceEqDiff, true_implies, false_implies, implies_true, Option.some.injEq, forall_eq', forall_eq, reduceCtorEq, brT, brF, br_s, i_10, i_01, ib_0_2, ib_1_2, tn_0, tn_1, Int32.le_refl, eq_self, rv_bN, rv_iM, RCX 0, RCG 2, RCT 4, RCT 15, RCT 25, RCS 35, RCS 49, RCH 63, RCP 67, RCB 72, RCR 77, RCM 81, RLY, lit_at hw, hI.1, l1, o1, ce, on_succ, ib64 o2, ew, hW.1, hW.2.1, hq.1, hq.2.1, ol_mul, k]
          exact hQ
        · skip
          refine b7_2a ?_
          simp only [↓br_pos, ↓br_neg, ↓rF_I, ↓rF_L, ↓rF_R, ↓rF_N, rO_m, rB_m, ↓rI_m, wI_m, ↓rB2_m, ↓rB3_m, wB2_m, wB3_m, ↓rL_m, wL_m, ↓rQ_m, wQ_m, ↓lI_m, pI_m, pL_m, pR_m, sI_m, sBy_m, sBo_m, sL_m, sQ_m, fst_m, true_and, and_true, tg_some, ln_some, uI_1, uI_2, uL_1, uL_2, uL_3, uQ_1, uQ_2, uQ_3, rv_i, rv_l, rv_n, rv_b0, rv_b1, RMR, ne_eq, reduceCtorEq, not_false_eq_true, Option.getD_some, if_true, if_false, and_self, false_and, and_false, Nat.add_left_cancel_iff, Nat.add_eq_left, Nat.left_eq_add, Nat.one_ne_zero, Nat.reduceAdd, Nat.reduceLT, Nat.reduceLeDiff, Nat.reduceEqDiff, true_implies, false_implies, implies_true, Option.some.injEq, forall_eq', forall_eq, reduceCtorEq, brT, brF, br_s, i_10, i_01, ib_0_2, ib_1_2, tn_0, tn_1, Int32.le_refl, eq_self, rv_bN, rv_iM, RCX 0, RCG 2, RCT 4, RCT 15, RCT 25, RCS 35, RCS 49, RCH 63, RCP 67, RCB 72, RCR 77, RCM 81, RLY, lit_at hw, hI.1, l1, o1, ce, on_succ, ib64 o2, ew, hW.1, hW.2.1, hq.1, hq.2.1, ol_mul, k]
          exact hQ
      · rw [if_neg (fun q => z q.2)] at hQ
        have k : (0 < lg_cmp (Int64.ofNat (q.1 * p.2)) (Int64.ofNat (p.1 * q.2))) ↔ True := iff_true_intro ((lgr m1 m2).mpr (c.mpr (by omega)))
        rcases hx with rfl | ⟨u, rfl⟩
        · skip
          refine b7_2 ?_
          simp only [↓br_pos, ↓br_neg, ↓rF_I, ↓rF_L, ↓rF_R, ↓rF_N, rO_m, rB_m, ↓rI_m, wI_m, ↓rB2_m, ↓rB3_m, wB2_m, wB3_m, ↓rL_m, wL_m, ↓rQ_m, wQ_m, ↓lI_m, pI_m, pL_m, pR_m, sI_m, sBy_m, sBo_m, sL_m, sQ_m, fst_m, true_and, and_true, tg_some, ln_some, uI_1, uI_2, uL_1, uL_2, uL_3, uQ_1, uQ_2, uQ_3, rv_i, rv_l, rv_n, rv_b0, rv_b1, RMR, ne_eq, reduceCtorEq, not_false_eq_true, Option.getD_some, if_true, if_false, and_self, false_and, and_false, Nat.add_left_cancel_iff, Nat.add_eq_left, Nat.left_eq_add, Nat.one_ne_zero, Nat.reduceAdd, Nat.reduceLT, Nat.reduceLeDiff, Nat.reduceEqDiff, true_implies, false_implies, implies_true, Option.some.injEq, forall_eq', forall_eq, reduceCtorEq, brT, brF, br_s, i_10, i_01, ib_0_2, ib_1_2, tn_0, tn_1, Int32.le_refl, eq_self, rv_bN, rv_iM, RCX 0, RCG 2, RCT 4, RCT 15, RCT 25, RCS 35, RCS 49, RCH 63, RCP 67, RCB 72, RCR 77, RCM 81, RLY, lit_at hw, hI.1, l1, o1, ce, on_succ, ib64 o2, ew, hW.1, hW.2.1, hq.1, hq.2.1, ol_mul, k]
          exact ih (i + 1) (by omega) (Or.inr ⟨_, rfl⟩) hQ
        · skip
          refine b7_2a ?_
          simp only [↓br_pos, ↓br_neg, ↓rF_I, ↓rF_L, ↓rF_R, ↓rF_N, rO_m, rB_m, ↓rI_m, wI_m, ↓rB2_m, ↓rB3_m, wB2_m, wB3_m, ↓rL_m, wL_m, ↓rQ_m, wQ_m, ↓lI_m, pI_m, pL_m, pR_m, sI_m, sBy_m, sBo_m, sL_m, sQ_m, fst_m, true_and, and_true, tg_some, ln_some, uI_1, uI_2, uL_1, uL_2, uL_3, uQ_1, uQ_2, uQ_3, rv_i, rv_l, rv_n, rv_b0, rv_b1, RMR, ne_eq, reduceCtorEq, not_false_eq_true, Option.getD_some, if_true, if_false, and_self, false_and, and_false, Nat.add_left_cancel_iff, Nat.add_eq_left, Nat.left_eq_add, Nat.one_ne_zero, Nat.reduceAdd, Nat.reduceLT, Nat.reduceLeDiff, Nat.reduceEqDiff, true_implies, false_implies, implies_true, Option.some.injEq, forall_eq', forall_eq, reduceCtorEq, brT, brF, br_s, i_10, i_01, ib_0_2, ib_1_2, tn_0, tn_1, Int32.le_refl, eq_self, rv_bN, rv_iM, RCX 0, RCG 2, RCT 4, RCT 15, RCT 25, RCS 35, RCS 49, RCH 63, RCP 67, RCB 72, RCR 77, RCM 81, RLY, lit_at hw, hI.1, l1, o1, ce, on_succ, ib64 o2, ew, hW.1, hW.2.1, hq.1, hq.2.1, ol_mul, k]
          exact ih (i + 1) (by omega) (Or.inr ⟨_, rfl⟩) hQ
theorem s_7x {w : mT} {σ : mS} {s n M D : Nat} {F : Nat → Nat} {ls : Nat → Nat} {p : Nat × Nat} {K : Int32 → Hp → Prop} (hw : lit w) (hn : n ≤ 6) (hs : s < 2 ^ n) (hI : blG σ ls n) (hM : 0 < M) (hW : wU M σ p) (hc : ∀ i, i < n → s.testBit i = false → ∃ q, rp M σ (s ||| 2 ^ i) q ∧ vlM M q = F (s ||| 2 ^ i)) (hD : 1 ≤ D) : wpI D 7 [.ref 72, .int (Int32.ofNat s)] (mW w σ) K ↔ K (Int32.ofNat (fg n F (vlM M p) s)) (mW w σ) := by
  refine cI_of (m := 0) (fun d hd Q hQ => ?_) rfl hD
  exact b7_0 (lp_7x hw hn hs hI hM hW hc n 0 (by omega) (Or.inl rfl) hQ)
theorem fgN_lt {n : Nat} {F : Nat → Nat} {W S : Nat} (hn : 0 < n) : ∀ r i, i + r = n → fgN n F W S r i < n := by
  intro r
  induction r with
  | zero => intro i _; exact hn
  | succ r ih =>
    intro i hi
    rw [fgN_s]
    split
    · omega
    · exact ih (i + 1) (by omega)
theorem fg_lt {n : Nat} {F : Nat → Nat} {W S : Nat} (hn : 0 < n) : fg n F W S < n := fgN_lt hn n 0 (by omega)
/-- all sets behind s are measured -/
def inv6 (M n : Nat) (F : Nat → Nat) (σ : mS) (s : Nat) : Prop := ∀ S, s < S → S < 2 ^ n → ∃ p, rp M σ S p ∧ vlM M p = F S
theorem lp_6x {w : mT} {v : Int32} {n M : Nat} {F : Nat → Nat} {ls : Nat → Nat} {p : Nat × Nat} (hw : lit w) (hn : n ≤ 6) (hM : 0 < M) : ∀ (r k s : Nat) (σ : mS) (row : Nat → Nat), k + r = n → s < 2 ^ n → blG σ ls n → wU M σ p → inv6 M n F σ 0 → (∀ j, j < k → σ.1 73 j = Int32.ofNat (ls (row j))) → ∃ σ', frW 72 77 σ σ' ∧ blG σ' ls n ∧ wU M σ' p ∧ (∀ j, j < n → σ'.1 73 j = Int32.ofNat (ls (grd n F (vlM M p) r s k row j))) ∧ ∀ {Q : Option (Option Value) → Hp → Prop} {d : Nat} {x : Value}, 1 ≤ d → (x = jk ∨ ∃ u : Int32, x = .int u) → Q (some none) (mW w σ') → Wp 6 30 [.ref 72, .int v, .int (Int32.ofNat s), .int (Int32.ofNat k), x] [] (mW w σ) Q d := by
  intro r
  induction r with
  | zero =>
    intro k s σ row hk hs hI hW hv hR
    have hk' : k = n := by omega
    subst hk'
    refine ⟨σ, frW_rf, hI, hW, hR, fun {Q d x} hd hx hQ => ?_⟩
    rcases hx with rfl | ⟨u, rfl⟩
    · refine b6_30 ?_
      simp only [↓br_pos, ↓br_neg, ↓rF_I, ↓rF_L, ↓rF_R, ↓rF_N, rO_m, rB_m, ↓rI_m, wI_m, ↓rB2_m, ↓rB3_m, wB2_m, wB3_m, ↓rL_m, wL_m, ↓rQ_m, wQ_m, ↓lI_m, pI_m, pL_m, pR_m, sI_m, sBy_m, sBo_m, sL_m, sQ_m, fst_m, true_and, and_true, tg_some, ln_some, uI_1, uI_2, uL_1, uL_2, uL_3, uQ_1, uQ_2, uQ_3, rv_i, rv_l, rv_n, rv_b0, rv_b1, RMR, ne_eq, reduceCtorEq, not_false_eq_true, Option.getD_some, if_true, if_false, and_self, false_and, and_false, Nat.add_left_cancel_iff, Nat.add_eq_left, Nat.left_eq_add, Nat.one_ne_zero, Nat.reduceAdd, Nat.reduceLT, Nat.reduceLeDiff, Nat.reduceEqDiff, true_implies, false_implies, implies_true, Option.some.injEq, forall_eq', forall_eq, reduceCtorEq, brT, brF, br_s, i_10, i_01, ib_0_2, ib_1_2, tn_0, tn_1, Int32.le_refl, eq_self, rv_bN, rv_iM, RCX 0, RCG 2, RCT 4, RCT 15, RCT 25, RCS 35, RCS 49, RCH 63, RCP 67, RCB 72, RCR 77, RCM 81, RLY, lit_at hw, hI.1, Int32.le_refl]
      exact hQ
    · refine b6_30a ?_
      simp only [↓br_pos, ↓br_neg, ↓rF_I, ↓rF_L, ↓rF_R, ↓rF_N, rO_m, rB_m, ↓rI_m, wI_m, ↓rB2_m, ↓rB3_m, wB2_m, wB3_m, ↓rL_m, wL_m, ↓rQ_m, wQ_m, ↓lI_m, pI_m, pL_m, pR_m, sI_m, sBy_m, sBo_m, sL_m, sQ_m, fst_m, true_and, and_true, tg_some, ln_some, uI_1, uI_2, uL_1, uL_2, uL_3, uQ_1, uQ_2, uQ_3, rv_i, rv_l, rv_n, rv_b0, rv_b1, RMR, ne_eq, reduceCtorEq, not_false_eq_true, Option.getD_some, if_true, if_false, and_self, false_and, and_false, Nat.add_left_cancel_iff, Nat.add_eq_left, Nat.left_eq_add, Nat.one_ne_zero, Nat.reduceAdd, Nat.reduceLT, Nat.reduceLeDiff, Nat.reduceEqDiff, true_implies, false_implies, implies_true, Option.some.injEq, forall_eq', forall_eq, reduceCtorEq, brT, brF, br_s, i_10, i_01, ib_0_2, ib_1_2, tn_0, tn_1, Int32.le_refl, eq_self, rv_bN, rv_iM, RCX 0, RCG 2, RCT 4, RCT 15, RCT 25, RCS 35, RCS 49, RCH 63, RCP 67, RCB 72, RCR 77, RCM 81, RLY, lit_at hw, hI.1, Int32.le_refl]
      exact hQ
  | succ r ih =>
    intro k s σ row hk hs hI hW hv hR
    have s64 := p64 hn hs
    have l1 : (Int32.ofNat n ≤ Int32.ofNat k) ↔ False := iff_false_intro (fun q => absurd ((on_le (by omega) (by omega)).mp q) (by omega))
    have eb : inB (Int32.ofNat k) 6 = true := on_inB (by omega) (by omega)
    have en := on_nat (i := k) (by omega)
    have fl : fg n F (vlM M p) s < n := fg_lt (by omega)
    have eby : inB (Int32.ofNat (fg n F (vlM M p) s)) 6 = true := on_inB (by omega) (by omega)
    have eny := on_nat (i := fg n F (vlM M p) s) (by omega)
    have g7 := fun {d : Nat} {K : Int32 → Hp → Prop} (hd : 1 ≤ d) => s_7x (K := K) (F := F) hw hn hs hI hM hW (fun i h1 h2 => hv (s ||| 2 ^ i) (by have := or_ne (S := s) (i := i); omega) (or_lt hs h1)) hd
    obtain ⟨σ', f, I', W', R', a3⟩ := ih (k + 1) (s ||| 2 ^ fg n F (vlM M p) s) (uI σ 73 k (Int32.ofNat (ls (fg n F (vlM M p) s)))) (setR row k (fg n F (vlM M p) s)) (by omega) (or_lt hs fl) (blG_fr hI (uI_o (by omega)) (uI_o (by omega))) hW hv (fun j hj => by
      rw [uI_1]
      show _ = Int32.ofNat (ls (if j = k then _ else row j))
      by_cases z : j = k
      · rw [if_pos ⟨rfl, z⟩, if_pos z]
      · rw [if_neg (fun q => z q.2), if_neg z]; exact hR j (by omega))
    refine ⟨σ', frW_tr (frW_I (by omega)) f, I', W', R', fun {Q d x} hd hx hQ => ?_⟩
    rcases hx with rfl | ⟨u, rfl⟩
    · refine b6_30 ?_
      simp only [↓br_pos, ↓br_neg, ↓rF_I, ↓rF_L, ↓rF_R, ↓rF_N, rO_m, rB_m, ↓rI_m, wI_m, ↓rB2_m, ↓rB3_m, wB2_m, wB3_m, ↓rL_m, wL_m, ↓rQ_m, wQ_m, ↓lI_m, pI_m, pL_m, pR_m, sI_m, sBy_m, sBo_m, sL_m, sQ_m, fst_m, true_and, and_true, tg_some, ln_some, uI_1, uI_2, uL_1, uL_2, uL_3, uQ_1, uQ_2, uQ_3, rv_i, rv_l, rv_n, rv_b0, rv_b1, RMR, ne_eq, reduceCtorEq, not_false_eq_true, Option.getD_some, if_true, if_false, and_self, false_and, and_false, Nat.add_left_cancel_iff, Nat.add_eq_left, Nat.left_eq_add, Nat.one_ne_zero, Nat.reduceAdd, Nat.reduceLT, Nat.reduceLeDiff, Nat.reduceEqDiff, true_implies, false_implies, implies_true, Option.some.injEq, forall_eq', forall_eq, reduceCtorEq, brT, brF, br_s, i_10, i_01, ib_0_2, ib_1_2, tn_0, tn_1, Int32.le_refl, eq_self, rv_bN, rv_iM, RCX 0, RCG 2, RCT 4, RCT 15, RCT 25, RCS 35, RCS 49, RCH 63, RCP 67, RCB 72, RCR 77, RCM 81, RLY, lit_at hw, hI.1, l1, g7 hd, eby, eny, eb, en, hI.2 _ fl, (orb s64 (by omega : fg n F (vlM M p) s < 6)).1, on_succ]
      exact a3 hd (Or.inr ⟨_, rfl⟩) hQ
    · refine b6_30a ?_
      simp only [↓br_pos, ↓br_neg, ↓rF_I, ↓rF_L, ↓rF_R, ↓rF_N, rO_m, rB_m, ↓rI_m, wI_m, ↓rB2_m, ↓rB3_m, wB2_m, wB3_m, ↓rL_m, wL_m, ↓rQ_m, wQ_m, ↓lI_m, pI_m, pL_m, pR_m, sI_m, sBy_m, sBo_m, sL_m, sQ_m, fst_m, true_and, and_true, tg_some, ln_some, uI_1, uI_2, uL_1, uL_2, uL_3, uQ_1, uQ_2, uQ_3, rv_i, rv_l, rv_n, rv_b0, rv_b1, RMR, ne_eq, reduceCtorEq, not_false_eq_true, Option.getD_some, if_true, if_false, and_self, false_and, and_false, Nat.add_left_cancel_iff, Nat.add_eq_left, Nat.left_eq_add, Nat.one_ne_zero, Nat.reduceAdd, Nat.reduceLT, Nat.reduceLeDiff, Nat.reduceEqDiff, true_implies, false_implies, implies_true, Option.some.injEq, forall_eq', forall_eq, reduceCtorEq, brT, brF, br_s, i_10, i_01, ib_0_2, ib_1_2, tn_0, tn_1, Int32.le_refl, eq_self, rv_bN, rv_iM, RCX 0, RCG 2, RCT 4, RCT 15, RCT 25, RCS 35, RCS 49, RCH 63, RCP 67, RCB 72, RCR 77, RCM 81, RLY, lit_at hw, hI.1, l1, g7 hd, eby, eny, eb, en, hI.2 _ fl, (orb s64 (by omega : fg n F (vlM M p) s < 6)).1, on_succ]
      exact a3 hd (Or.inr ⟨_, rfl⟩) hQ
/-- what find leaves -/
def blF (M n : Nat) (F : Nat → Nat) (ls : Nat → Nat) (σ : mS) : Prop := blG σ ls n ∧ (∀ j, j < n → σ.1 73 j = Int32.ofNat (ls (grd n F (F 0) n 0 0 (fun _ => 0) j))) ∧ ∃ p, wU M σ p ∧ vlM M p = F 0
theorem s_6x {w : mT} {σ : mS} {n M : Nat} {v F : Nat → Nat} {ls : Nat → Nat} (hw : lit w) (hn : n ≤ 6) (h0 : 0 < n) (hM : 0 < M) (hI : blG σ ls n) (hv : inv6 M n F σ 0) (hF : ∀ S, S < 2 ^ n → isO v n S (F S)) (hv0 : v 0 = 0) : ∃ σ', frW 72 77 σ σ' ∧ blF M n F ls σ' ∧ ∀ {D : Nat} {K : Hp → Prop}, 3 ≤ D → (wpV D 6 [.ref 72] (mW w σ) K ↔ K (mW w σ')) := by
  have pn : 1 < 2 ^ n := Nat.one_lt_two_pow (by omega)
  obtain ⟨b, b1, b2, b3, g3⟩ := s_3x (s := 0) (F := F) hw hn (by omega) hI hM (fun i h1 h2 => hv (0 ||| 2 ^ i) (by have := or_ne (S := 0) (i := i); omega) (or_lt (by omega) h1)) (by omega)
  have eF := isO_0 h0 hF hv0 b1 (fun j hj => b3 j hj (Nat.zero_testBit _))
  obtain ⟨p, hp, vp⟩ := hv (0 ||| 2 ^ b) (by have := or_ne (S := 0) (i := b); omega) (or_lt (by omega) b1)
  have y64 : 0 ||| 2 ^ b < 64 := p64 hn (or_lt (by omega) b1)
  have eny := on_nat (i := 0 ||| 2 ^ b) (by omega)
  generalize 0 ||| 2 ^ b = y at *
  obtain ⟨σ', f, I', W', R', a3⟩ := lp_6x (v := Int32.ofNat y) (F := F) (ls := ls) (p := p) hw hn hM n 0 0 (uL (uL σ 72 2 (Int64.ofNat p.1)) 72 3 (Int64.ofNat p.2)) (fun _ => 0) (by omega) (by omega) (blG_fr hI rfl rfl) ⟨by simp only [uL_2, Nat.reduceEqDiff, and_false, if_false, and_self, if_true], by simp only [uL_2, and_self, if_true], hp.2.2⟩ (fun S h1 h2 => by
    obtain ⟨q, hq, vq⟩ := hv S h1 h2
    exact ⟨q, rp_fr hq (by simp only [uL_2, Nat.reduceEqDiff, false_and, if_false]) (by simp only [uL_2, Nat.reduceEqDiff, false_and, if_false]), vq⟩) (fun j hj => absurd hj (Nat.not_lt_zero _))
  rw [vp, eF] at R'
  refine ⟨σ', frW_tr (frW_tr (frW_L (by omega)) (frW_L (by omega))) f, ⟨I', R', p, W', by rw [vp, eF]⟩, fun hD => cV_of (m := 2) (fun d hd Q hQ => ?_) rfl hD⟩
  have g3' := fun {K : Int32 → Hp → Prop} => g3 (K := K) hd
  refine b6_0 ?_
  have z0 : (Int32.ofNat 0) = (0 : Int32) := rfl
  rw [z0] at g3'
  simp only [↓br_pos, ↓br_neg, ↓rF_I, ↓rF_L, ↓rF_R, ↓rF_N, rO_m, rB_m, ↓rI_m, wI_m, ↓rB2_m, ↓rB3_m, wB2_m, wB3_m, ↓rL_m, wL_m, ↓rQ_m, wQ_m, ↓lI_m, pI_m, pL_m, pR_m, sI_m, sBy_m, sBo_m, sL_m, sQ_m, fst_m, true_and, and_true, tg_some, ln_some, uI_1, uI_2, uL_1, uL_2, uL_3, uQ_1, uQ_2, uQ_3, rv_i, rv_l, rv_n, rv_b0, rv_b1, RMR, ne_eq, reduceCtorEq, not_false_eq_true, Option.getD_some, if_true, if_false, and_self, false_and, and_false, Nat.add_left_cancel_iff, Nat.add_eq_left, Nat.left_eq_add, Nat.one_ne_zero, Nat.reduceAdd, Nat.reduceLT, Nat.reduceLeDiff, Nat.reduceEqDiff, true_implies, false_implies, implies_true, Option.some.injEq, forall_eq', forall_eq, reduceCtorEq, brT, brF, br_s, i_10, i_01, ib_0_2, ib_1_2, tn_0, tn_1, Int32.le_refl, eq_self, rv_bN, rv_iM, RCX 0, RCG 2, RCT 4, RCT 15, RCT 25, RCS 35, RCS 49, RCH 63, RCP 67, RCB 72, RCR 77, RCM 81, RLY, lit_at hw, g3', ib64 y64, eny, hp.1, hp.2.1]
  exact a3 (by omega) (Or.inl rfl) hQ
theorem all6n {n : Nat} (h1 : 1 ≤ n) (h2 : n ≤ 6) : ((1 : Int32) <<< (Int32.ofNat n &&& 31)) - (1 : Int32) = Int32.ofNat (2 ^ n - 1) := by
  have : n = 1 ∨ n = 2 ∨ n = 3 ∨ n = 4 ∨ n = 5 ∨ n = 6 := by omega
  rcases this with rfl | rfl | rfl | rfl | rfl | rfl <;> decide
theorem lpB_1x {w : mT} {P n aim : Nat} {τ ρ : Rw} {bits a5 : Int32} {F : Nat → Nat} {ls : Nat → Nat} (hL : lwL τ ρ ls n) (h0 : 0 < n) (ha : aim ≤ 999) (hF : ∀ S, S < 2 ^ n → isO (lwV τ ρ ls n aim) n S (F S)) : ∀ (s : Nat) (σ : mS), s < 2 ^ n → loE w σ P τ ρ → blG σ ls n → inv6 (lwM ρ ls n) n F σ s → ∃ σ', frW 72 77 σ σ' ∧ blF (lwM ρ ls n) n F ls σ' ∧ ∀ {Q : Option (Option Value) → Hp → Prop} {d : Nat}, 3 ≤ d → Q (some (some (.int 1))) (mW w σ') → Wp 1 126 [.ref 72, .ref P, .ref 35, .int bits, .int (Int32.ofNat aim), .int a5, .int (Int32.ofNat (2 ^ n - 1)), .int (Int32.ofNat s)] [] (mW w σ) Q d := by
  have n6 := hL.1
  have pn : 2 ^ n ≤ 2 ^ 6 := Nat.pow_le_pow_right (by omega) n6
  have hM := lwM_p (ρ := ρ) (ls := ls) (n := n)
  intro s
  induction s with
  | zero =>
    intro σ hs hE hI hv
    have hw := hE.1
    obtain ⟨σ', f, F', g6⟩ := s_6x hw n6 h0 hM hI hv hF lwV_0
    refine ⟨σ', f, F', fun {Q d} hd hQ => ?_⟩
    have c0 : (Int32.ofNat 0 ≤ (0 : Int32)) ↔ True := by decide
    refine b1_126 ?_
    simp only [↓br_pos, ↓br_neg, ↓rF_I, ↓rF_L, ↓rF_R, ↓rF_N, rO_m, rB_m, ↓rI_m, wI_m, ↓rB2_m, ↓rB3_m, wB2_m, wB3_m, ↓rL_m, wL_m, ↓rQ_m, wQ_m, ↓lI_m, pI_m, pL_m, pR_m, sI_m, sBy_m, sBo_m, sL_m, sQ_m, fst_m, true_and, and_true, tg_some, ln_some, uI_1, uI_2, uL_1, uL_2, uL_3, uQ_1, uQ_2, uQ_3, rv_i, rv_l, rv_n, rv_b0, rv_b1, RMR, ne_eq, reduceCtorEq, not_false_eq_true, Option.getD_some, if_true, if_false, and_self, false_and, and_false, Nat.add_left_cancel_iff, Nat.add_eq_left, Nat.left_eq_add, Nat.one_ne_zero, Nat.reduceAdd, Nat.reduceLT, Nat.reduceLeDiff, Nat.reduceEqDiff, true_implies, false_implies, implies_true, Option.some.injEq, forall_eq', forall_eq, reduceCtorEq, brT, brF, br_s, i_10, i_01, ib_0_2, ib_1_2, tn_0, tn_1, Int32.le_refl, eq_self, rv_bN, rv_iM, RCX 0, RCG 2, RCT 4, RCT 15, RCT 25, RCS 35, RCS 49, RCH 63, RCP 67, RCB 72, RCR 77, RCM 81, RLY, lit_at hw, c0, g6 hd]
    exact hQ
  | succ s ih =>
    intro σ hs hE hI hv
    have hE' := hE
    have hw := hE.1
    have s64 := p64 n6 hs
    have c0 : (Int32.ofNat (s + 1) ≤ (0 : Int32)) ↔ False := iff_false_intro (fun q => absurd ((of_le0 (by omega)).mp q) (by omega))
    have e2 : Int32.ofNat (s + 1) + -1 = Int32.ofNat s := by rw [← on_succ, Int32.add_assoc]; exact Int32.add_zero _
    have g2 := fun {d : Nat} {K : Hp → Prop} (hd : 2 ≤ d) => s_2x (K := K) hE hL (by omega : 1 ≤ s + 1) s64 ha hI hd
    have ok := lwP_ok (S := s + 1) (aim := aim) hE.2.2.2.1 hE.2.2.2.2.2 hL ha (by omega) hs
    have ev : vlM (lwM ρ ls n) (lwP τ ρ ls n aim (s + 1)) = lwV τ ρ ls n aim (s + 1) := rfl
    generalize lwP τ ρ ls n aim (s + 1) = p at *
    have f1 : frW 72 77 σ (uL (uL σ 75 (s + 1) (Int64.ofNat p.1)) 76 (s + 1) (Int64.ofNat p.2)) := frW_tr (frW_L (by omega)) (frW_L (by omega))
    have E1 := loE_W hE f1 (by omega)
    have I1 : blG (uL (uL σ 75 (s + 1) (Int64.ofNat p.1)) 76 (s + 1) (Int64.ofNat p.2)) ls n := blG_fr hI rfl rfl
    have r1 : rp (lwM ρ ls n) (uL (uL σ 75 (s + 1) (Int64.ofNat p.1)) 76 (s + 1) (Int64.ofNat p.2)) (s + 1) p := ⟨by simp only [uL_2, Nat.reduceEqDiff, false_and, if_false, and_self, if_true], by simp only [uL_2, and_self, if_true], ok⟩
    have v1 : inv6 (lwM ρ ls n) n F (uL (uL σ 75 (s + 1) (Int64.ofNat p.1)) 76 (s + 1) (Int64.ofNat p.2)) (s + 1) := fun S h1 h2 => by
      obtain ⟨q, hq, vq⟩ := hv S h1 h2
      have ne : S ≠ s + 1 := by omega
      exact ⟨q, rp_fr hq (by simp only [uL_2, Nat.reduceEqDiff, false_and, if_false, ne, and_false]) (by simp only [uL_2, Nat.reduceEqDiff, false_and, if_false, ne, and_false]), vq⟩
    generalize uL (uL σ 75 (s + 1) (Int64.ofNat p.1)) 76 (s + 1) (Int64.ofNat p.2) = σ1 at *
    by_cases ea : s + 1 = 2 ^ n - 1
    · have ca : (Int32.ofNat (s + 1) = Int32.ofNat (2 ^ n - 1)) ↔ True := iff_true_intro (by rw [ea])
      obtain ⟨σ', f, F', a3⟩ := ih σ1 (by omega) E1 I1 (fun S h1 h2 => by
        have e : S = s + 1 := by omega
        subst e
        refine ⟨p, r1, ?_⟩
        rw [ev, ea]
        have u := hF (2 ^ n - 1) (by omega)
        exact isO_u isO_all u)
      refine ⟨σ', frW_tr f1 f, F', fun {Q d} hd hQ => ?_⟩
      refine b1_126 ?_
      simp only [↓br_pos, ↓br_neg, ↓rF_I, ↓rF_L, ↓rF_R, ↓rF_N, rO_m, rB_m, ↓rI_m, wI_m, ↓rB2_m, ↓rB3_m, wB2_m, wB3_m, ↓rL_m, wL_m, ↓rQ_m, wQ_m, ↓lI_m, pI_m, pL_m, pR_m, sI_m, sBy_m, sBo_m, sL_m, sQ_m, fst_m, true_and, and_true, tg_some, ln_some, uI_1, uI_2, uL_1, uL_2, uL_3, uQ_1, uQ_2, uQ_3, rv_i, rv_l, rv_n, rv_b0, rv_b1, RMR, ne_eq, reduceCtorEq, not_false_eq_true, Option.getD_some, if_true, if_false, and_self, false_and, and_false, Nat.add_left_cancel_iff, Nat.add_eq_left, Nat.left_eq_add, Nat.one_ne_zero, Nat.reduceAdd, Nat.reduceLT, Nat.reduceLeDiff, Nat.reduceEqDiff, true_implies, false_implies, implies_true, Option.some.injEq, forall_eq', forall_eq, reduceCtorEq, brT, brF, br_s, i_10, i_01, ib_0_2, ib_1_2, tn_0, tn_1, Int32.le_refl, eq_self, rv_bN, rv_iM, RCX 0, RCG 2, RCT 4, RCT 15, RCT 25, RCS 35, RCS 49, RCH 63, RCP 67, RCB 72, RCR 77, RCM 81, RLY, lit_at hw, c0, g2 (by omega : 2 ≤ d), ca, e2]
      exact a3 hd hQ
    · have ca : (Int32.ofNat (s + 1) = Int32.ofNat (2 ^ n - 1)) ↔ False := iff_false_intro (fun q => ea ((of_inj (by omega) (by omega)).mp q))
      obtain ⟨b, b1, b2, b3, g3⟩ := s_3x (s := s + 1) (F := F) hw n6 hs I1 hM (fun i h1 h2 => v1 ((s + 1) ||| 2 ^ i) (or_gt h2) (or_lt hs h1)) ea
      obtain ⟨q, hq, vq⟩ := v1 ((s + 1) ||| 2 ^ b) (or_gt b2) (or_lt hs b1)
      obtain ⟨σ2, f2, e1, ⟨p', hp', vp'⟩, ot, g5⟩ := s_5x hw s64 (p64 n6 (or_lt hs b1)) hM r1 hq
      have ech := isO_ch (F := F) hs ea (hF _ hs) (fun i h1 h2 => hF _ (or_lt hs h1))
      obtain ⟨σ', f, F', a3⟩ := ih σ2 (by omega) (loE_W E1 f2 (by omega)) (blG_fr I1 (by rw [e1]) (by rw [e1])) (fun S h1 h2 => by
        by_cases e : S = s + 1
        · subst e
          refine ⟨p', hp', ?_⟩
          obtain ⟨⟨c, c1, c2, c3⟩, c4⟩ := ech
          have a1 := b3 c c1 c2
          have a2 := c4 b b1 b2
          rw [vp', ev, vq]
          omega
        · obtain ⟨q', hq', vq'⟩ := v1 S (by omega) h2
          exact ⟨q', rp_fr hq' (ot S e).1 (ot S e).2, vq'⟩)
      refine ⟨σ', frW_tr f1 (frW_tr f2 f), F', fun {Q d} hd hQ => ?_⟩
      refine b1_126 ?_
      simp only [↓br_pos, ↓br_neg, ↓rF_I, ↓rF_L, ↓rF_R, ↓rF_N, rO_m, rB_m, ↓rI_m, wI_m, ↓rB2_m, ↓rB3_m, wB2_m, wB3_m, ↓rL_m, wL_m, ↓rQ_m, wQ_m, ↓lI_m, pI_m, pL_m, pR_m, sI_m, sBy_m, sBo_m, sL_m, sQ_m, fst_m, true_and, and_true, tg_some, ln_some, uI_1, uI_2, uL_1, uL_2, uL_3, uQ_1, uQ_2, uQ_3, rv_i, rv_l, rv_n, rv_b0, rv_b1, RMR, ne_eq, reduceCtorEq, not_false_eq_true, Option.getD_some, if_true, if_false, and_self, false_and, and_false, Nat.add_left_cancel_iff, Nat.add_eq_left, Nat.left_eq_add, Nat.one_ne_zero, Nat.reduceAdd, Nat.reduceLT, Nat.reduceLeDiff, Nat.reduceEqDiff, true_implies, false_implies, implies_true, Option.some.injEq, forall_eq', forall_eq, reduceCtorEq, brT, brF, br_s, i_10, i_01, ib_0_2, ib_1_2, tn_0, tn_1, Int32.le_refl, eq_self, rv_bN, rv_iM, RCX 0, RCG 2, RCT 4, RCT 15, RCT 25, RCS 35, RCS 49, RCH 63, RCP 67, RCB 72, RCR 77, RCM 81, RLY, lit_at hw, c0, g2 (by omega : 2 ≤ d), ca, g3 (by omega : 2 ≤ d), g5 (by omega : 2 ≤ d), e2]
      exact a3 hd hQ
end
section
/-! bits of a set of lots -/
def pc239 (a0 : Int32) : Int32 := ((((((((a0 - (((a0 : Int32).toUInt32 >>> (((1 : Int32) : Int32).toUInt32 &&& Int32.toUInt32 31)).toInt32 &&& (1431655765 : Int32))) &&& (858993459 : Int32)) + ((((a0 - (((a0 : Int32).toUInt32 >>> (((1 : Int32) : Int32).toUInt32 &&& Int32.toUInt32 31)).toInt32 &&& (1431655765 : Int32))) : Int32).toUInt32 >>> (((2 : Int32) : Int32).toUInt32 &&& Int32.toUInt32 31)).toInt32 &&& (858993459 : Int32))) + (((((a0 - (((a0 : Int32).toUInt32 >>> (((1 : Int32) : Int32).toUInt32 &&& Int32.toUInt32 31)).toInt32 &&& (1431655765 : Int32))) &&& (858993459 : Int32)) + ((((a0 - (((a0 : Int32).toUInt32 >>> (((1 : Int32) : Int32).toUInt32 &&& Int32.toUInt32 31)).toInt32 &&& (1431655765 : Int32))) : Int32).toUInt32 >>> (((2 : Int32) : Int32).toUInt32 &&& Int32.toUInt32 31)).toInt32 &&& (858993459 : Int32))) : Int32).toUInt32 >>> (((4 : Int32) : Int32).toUInt32 &&& Int32.toUInt32 31)).toInt32) &&& (252645135 : Int32)) + (((((((a0 - (((a0 : Int32).toUInt32 >>> (((1 : Int32) : Int32).toUInt32 &&& Int32.toUInt32 31)).toInt32 &&& (1431655765 : Int32))) &&& (858993459 : Int32)) + ((((a0 - (((a0 : Int32).toUInt32 >>> (((1 : Int32) : Int32).toUInt32 &&& Int32.toUInt32 31)).toInt32 &&& (1431655765 : Int32))) : Int32).toUInt32 >>> (((2 : Int32) : Int32).toUInt32 &&& Int32.toUInt32 31)).toInt32 &&& (858993459 : Int32))) + (((((a0 - (((a0 : Int32).toUInt32 >>> (((1 : Int32) : Int32).toUInt32 &&& Int32.toUInt32 31)).toInt32 &&& (1431655765 : Int32))) &&& (858993459 : Int32)) + ((((a0 - (((a0 : Int32).toUInt32 >>> (((1 : Int32) : Int32).toUInt32 &&& Int32.toUInt32 31)).toInt32 &&& (1431655765 : Int32))) : Int32).toUInt32 >>> (((2 : Int32) : Int32).toUInt32 &&& Int32.toUInt32 31)).toInt32 &&& (858993459 : Int32))) : Int32).toUInt32 >>> (((4 : Int32) : Int32).toUInt32 &&& Int32.toUInt32 31)).toInt32) &&& (252645135 : Int32)) : Int32).toUInt32 >>> (((8 : Int32) : Int32).toUInt32 &&& Int32.toUInt32 31)).toInt32) + ((((((((a0 - (((a0 : Int32).toUInt32 >>> (((1 : Int32) : Int32).toUInt32 &&& Int32.toUInt32 31)).toInt32 &&& (1431655765 : Int32))) &&& (858993459 : Int32)) + ((((a0 - (((a0 : Int32).toUInt32 >>> (((1 : Int32) : Int32).toUInt32 &&& Int32.toUInt32 31)).toInt32 &&& (1431655765 : Int32))) : Int32).toUInt32 >>> (((2 : Int32) : Int32).toUInt32 &&& Int32.toUInt32 31)).toInt32 &&& (858993459 : Int32))) + (((((a0 - (((a0 : Int32).toUInt32 >>> (((1 : Int32) : Int32).toUInt32 &&& Int32.toUInt32 31)).toInt32 &&& (1431655765 : Int32))) &&& (858993459 : Int32)) + ((((a0 - (((a0 : Int32).toUInt32 >>> (((1 : Int32) : Int32).toUInt32 &&& Int32.toUInt32 31)).toInt32 &&& (1431655765 : Int32))) : Int32).toUInt32 >>> (((2 : Int32) : Int32).toUInt32 &&& Int32.toUInt32 31)).toInt32 &&& (858993459 : Int32))) : Int32).toUInt32 >>> (((4 : Int32) : Int32).toUInt32 &&& Int32.toUInt32 31)).toInt32) &&& (252645135 : Int32)) + (((((((a0 - (((a0 : Int32).toUInt32 >>> (((1 : Int32) : Int32).toUInt32 &&& Int32.toUInt32 31)).toInt32 &&& (1431655765 : Int32))) &&& (858993459 : Int32)) + ((((a0 - (((a0 : Int32).toUInt32 >>> (((1 : Int32) : Int32).toUInt32 &&& Int32.toUInt32 31)).toInt32 &&& (1431655765 : Int32))) : Int32).toUInt32 >>> (((2 : Int32) : Int32).toUInt32 &&& Int32.toUInt32 31)).toInt32 &&& (858993459 : Int32))) + (((((a0 - (((a0 : Int32).toUInt32 >>> (((1 : Int32) : Int32).toUInt32 &&& Int32.toUInt32 31)).toInt32 &&& (1431655765 : Int32))) &&& (858993459 : Int32)) + ((((a0 - (((a0 : Int32).toUInt32 >>> (((1 : Int32) : Int32).toUInt32 &&& Int32.toUInt32 31)).toInt32 &&& (1431655765 : Int32))) : Int32).toUInt32 >>> (((2 : Int32) : Int32).toUInt32 &&& Int32.toUInt32 31)).toInt32 &&& (858993459 : Int32))) : Int32).toUInt32 >>> (((4 : Int32) : Int32).toUInt32 &&& Int32.toUInt32 31)).toInt32) &&& (252645135 : Int32)) : Int32).toUInt32 >>> (((8 : Int32) : Int32).toUInt32 &&& Int32.toUInt32 31)).toInt32) : Int32).toUInt32 >>> (((16 : Int32) : Int32).toUInt32 &&& Int32.toUInt32 31)).toInt32) &&& (63 : Int32))
def ckP (s : Nat) : Bool := decide (pc239 (Int32.ofNat s) = Int32.ofNat (sbS (fun _ => 1) 12 s))
set_option maxRecDepth 100000 in
theorem ckP_all : ckA ckP 4095 = true := by decide +kernel
theorem pc_b {s : Nat} (h : s < 4096) : pc239 (Int32.ofNat s) = Int32.ofNat (sbS (fun _ => 1) 12 s) := by
  by_cases z : s = 0
  · subst z; decide
  · exact of_decide_eq_true (ckA_t ckP_all s (by omega) (by omega))
theorem g_239 {hp : Hp} {s D : Nat} {K : Int32 → Hp → Prop} (hs : s < 4096) (hD : 1 ≤ D) : wpI D 239 [.int (Int32.ofNat s)] hp K ↔ K (Int32.ofNat (sbS (fun _ => 1) 12 s)) hp := by
  refine cI_of (m := 0) (fun d hd Q hQ => ?_) rfl hD
  rw [← pc_b hs] at hQ
  refine b239_0 ?_
  exact ⟨rfl, hQ⟩
def ckC (s : Nat) : Bool := ckA (fun l => decide (((Int32.ofNat s >>> (Int32.ofNat (l - 1) &&& 31)) &&& (1 : Int32)) = if s.testBit (l - 1) = true then 1 else 0)) 12
set_option maxRecDepth 100000 in
theorem ckC_all : ckA ckC 4095 = true := by decide +kernel
theorem tb12 {s l : Nat} (hs : s < 4096) (hl : l < 12) : ((Int32.ofNat s >>> (Int32.ofNat l &&& 31)) &&& (1 : Int32)) = if s.testBit l = true then 1 else 0 := by
  have c : ckC s = true := by
    by_cases z : s = 0
    · subst z; decide
    · exact ckA_t ckC_all s (by omega) (by omega)
  exact of_decide_eq_true (ckA_t c (l + 1) (by omega) (by omega))
theorem tb12o {s l : Nat} (hs : s < 4096) (hl : l < 12) : (((Int32.ofNat s >>> (Int32.ofNat l &&& 31)) &&& (1 : Int32)) = 1) ↔ s.testBit l = true := by
  rw [tb12 hs hl]
  split
  · rename_i h; exact ⟨fun _ => h, fun _ => rfl⟩
  · rename_i h; exact ⟨fun q => absurd q (by decide), fun q => absurd q h⟩
theorem tb12z {s l : Nat} (hs : s < 4096) (hl : l < 12) : (((Int32.ofNat s >>> (Int32.ofNat l &&& 31)) &&& (1 : Int32)) = 0) ↔ s.testBit l = false := by
  rw [tb12 hs hl]
  split
  · rename_i h; rw [h]; exact ⟨fun q => absurd q (by decide), fun q => absurd q (by decide)⟩
  · rename_i h; exact ⟨fun _ => Bool.eq_false_iff.mpr h, fun _ => rfl⟩
theorem u31 {N : Nat} (h : N ≤ 12) : ((Int32.ofNat N).toUInt32 &&& Int32.toUInt32 31) = UInt32.ofNat N := by
  have : N = 0 ∨ N = 1 ∨ N = 2 ∨ N = 3 ∨ N = 4 ∨ N = 5 ∨ N = 6 ∨ N = 7 ∨ N = 8 ∨ N = 9 ∨ N = 10 ∨ N = 11 ∨ N = 12 := by omega
  rcases this with rfl | rfl | rfl | rfl | rfl | rfl | rfl | rfl | rfl | rfl | rfl | rfl | rfl <;> decide
theorem s31 {N : Nat} (h : N ≤ 12) : ((Int32.ofNat N &&& 31).toBitVec.smod 32).toNat = N := by
  have : N = 0 ∨ N = 1 ∨ N = 2 ∨ N = 3 ∨ N = 4 ∨ N = 5 ∨ N = 6 ∨ N = 7 ∨ N = 8 ∨ N = 9 ∨ N = 10 ∨ N = 11 ∨ N = 12 := by omega
  rcases this with rfl | rfl | rfl | rfl | rfl | rfl | rfl | rfl | rfl | rfl | rfl | rfl | rfl <;> decide
theorem u_0 {u : UInt32} : (u.toInt32 = 0) ↔ u.toNat = 0 := by
  constructor
  · intro h
    have := congrArg (fun x : Int32 => x.toUInt32.toNat) h
    exact this
  · intro h
    have e : u = 0 := UInt32.toNat_inj.mp h
    rw [e]; rfl
theorem shU {x : Int32} {N : Nat} (hN : N ≤ 12) : ((x.toUInt32 >>> ((Int32.ofNat N).toUInt32 &&& Int32.toUInt32 31)).toInt32 = 0) ↔ ∃ S, S < 2 ^ N ∧ x = Int32.ofNat S := by
  have pn : 0 < 2 ^ N := Nat.pow_pos (by omega)
  have p12 : 2 ^ N ≤ 2 ^ 12 := Nat.pow_le_pow_right (by omega) hN
  rw [u31 hN, u_0, UInt32.toNat_shiftRight, UInt32.toNat_ofNat_of_lt' (by show N < 4294967296; omega), Nat.mod_eq_of_lt (by omega), Nat.shiftRight_eq_div_pow, Nat.div_eq_zero_iff]
  constructor
  · intro h
    have h1 : x.toUInt32.toNat < 2 ^ N := h.resolve_left (by omega)
    refine ⟨x.toUInt32.toNat, h1, ?_⟩
    apply Int32.toBitVec_inj.mp
    apply BitVec.eq_of_toNat_eq
    rw [Int32.toBitVec_ofNat', BitVec.toNat_ofNat, Nat.mod_eq_of_lt (by omega)]
    rfl
  · rintro ⟨S, h1, rfl⟩
    right
    have e : (Int32.ofNat S).toUInt32.toNat = S := by
      show (Int32.ofNat S).toBitVec.toNat = S
      rw [Int32.toBitVec_ofNat', BitVec.toNat_ofNat, Nat.mod_eq_of_lt (by omega)]
    rw [e]; exact h1
theorem shS {x : Int32} {N : Nat} (hN : N ≤ 12) (hx : ¬ x < 0) : ((x >>> (Int32.ofNat N &&& 31)) = 0) ↔ ∃ S, S < 2 ^ N ∧ x = Int32.ofNat S := by
  have pn : 0 < 2 ^ N := Nat.pow_pos (by omega)
  have p12 : 2 ^ N ≤ 2 ^ 12 := Nat.pow_le_pow_right (by omega) hN
  have x0 : 0 ≤ x.toInt := by rw [i_lt, show (0 : Int32).toInt = 0 by decide] at hx; omega
  have x1 : x.toInt < 2147483648 := Int32.toInt_lt x
  obtain ⟨m, rfl, hm⟩ := ex_on (a := x) (n := 2147483648) ⟨x0, x1⟩
  have eb : (Int32.ofNat m).toBitVec.toNat = m := by rw [Int32.toBitVec_ofNat', BitVec.toNat_ofNat, Nat.mod_eq_of_lt (by omega)]
  have ms : (Int32.ofNat m).toBitVec.msb = false := by
    rw [BitVec.msb_eq_false_iff_two_mul_lt, eb]
    omega
  have ev : (Int32.ofNat m >>> (Int32.ofNat N &&& 31)).toBitVec.toNat = m / 2 ^ N := by
    rw [Int32.toBitVec_shiftRight]
    show ((Int32.ofNat m).toBitVec.sshiftRight ((Int32.ofNat N &&& 31).toBitVec.smod 32).toNat).toNat = _
    rw [s31 hN, BitVec.sshiftRight_eq_of_msb_false ms, BitVec.toNat_ushiftRight, eb, Nat.shiftRight_eq_div_pow]
  have e0 : (Int32.ofNat m >>> (Int32.ofNat N &&& 31) = 0) ↔ m / 2 ^ N = 0 := by
    rw [← ev]
    constructor
    · intro h; rw [h]; rfl
    · intro h
      apply Int32.toBitVec_inj.mp
      apply BitVec.eq_of_toNat_eq
      rw [h]; rfl
  rw [e0, Nat.div_eq_zero_iff]
  constructor
  · intro h
    exact ⟨m, h.resolve_left (by omega), rfl⟩
  · rintro ⟨S, h1, h2⟩
    have := (of_inj (by omega) (by omega)).mp h2
    right; omega
theorem sb_hi {f : Nat → Nat} {N S : Nat} (h : S < 2 ^ N) : ∀ m, N ≤ m → sbS f m S = sbS f N S := by
  intro m
  induction m with
  | zero => intro h; have : N = 0 := by omega
            rw [this]
  | succ m ih =>
    intro hm
    by_cases z : N = m + 1
    · rw [z]
    · rw [sbS_s, tb_ge h (by omega), if_neg Bool.false_ne_true, Nat.add_zero]
      exact ih (by omega)
theorem sb_le {S : Nat} : ∀ m, sbS (fun _ => 1) m S ≤ m := by
  intro m
  induction m with
  | zero => exact Nat.le_refl _
  | succ m ih => rw [sbS_s]; split <;> omega
/-- the lots of a set that have something left -/
def lkS (ρ : Rw) (S l : Nat) (q : Nat × (Nat → Nat)) : Nat × (Nat → Nat) := if S.testBit l = true ∧ 0 < ρ (12 + l) ∧ q.1 < 6 then (q.1 + 1, setR q.2 q.1 l) else q
def lkL (ρ : Rw) (S : Nat) : Nat → Nat × (Nat → Nat)
  | 0 => (0, fun _ => 0)
  | l + 1 => lkS ρ S l (lkL ρ S l)
theorem lkL_ok {τ ρ : Rw} {S : Nat} : ∀ l, l ≤ τ 0 → lwL τ ρ (lkL ρ S l).2 (lkL ρ S l).1 := by
  intro l
  induction l with
  | zero => intro _; exact ⟨Nat.zero_le _, fun i hi => absurd hi (Nat.not_lt_zero _)⟩
  | succ l ih =>
    intro hl
    have h := ih (by omega)
    show lwL τ ρ (lkS ρ S l (lkL ρ S l)).2 (lkS ρ S l (lkL ρ S l)).1
    unfold lkS
    split
    · rename_i c
      refine ⟨by show _ + 1 ≤ 6; omega, fun i hi => ?_⟩
      show setR _ _ _ i < _ ∧ 0 < ρ (12 + setR _ _ _ i)
      unfold setR
      by_cases z : i = (lkL ρ S l).1
      · rw [if_pos z]; exact ⟨by omega, c.2.1⟩
      · rw [if_neg z]; exact h.2 i (by have : i < (lkL ρ S l).1 + 1 := hi; omega)
    · exact h
end
section
/-! the class: LAY ORDER, exactly -/
def loOK (τ ρ : Rw) (S : Nat) : Prop := S < 2 ^ τ 0 ∧ 2 ≤ sbS (fun _ => 1) (τ 0) S ∧ sbS (fun _ => 1) (τ 0) S ≤ 6 ∧ (lkL ρ S (τ 0)).1 ≠ 0
def loM (τ ρ : Rw) (S : Nat) : Nat := lwM ρ (lkL ρ S (τ 0)).2 (lkL ρ S (τ 0)).1
def loV (τ ρ : Rw) (S aim : Nat) : Nat → Nat := lwV τ ρ (lkL ρ S (τ 0)).2 (lkL ρ S (τ 0)).1 aim
def loFO (τ ρ : Rw) (S aim : Nat) (F : Nat → Nat) : Prop := ∀ X, X < 2 ^ (lkL ρ S (τ 0)).1 → isO (loV τ ρ S aim) (lkL ρ S (τ 0)).1 X (F X)
theorem lpA_1x {w : mT} {P S aim : Nat} {τ ρ : Rw} {a5 : Int32} {F : Nat → Nat} (hS : S < 2 ^ τ 0) (ha : aim ≤ 999) (hF : loFO τ ρ S aim F) : ∀ (r l : Nat) (σ : mS), l + r = τ 0 → loE w σ P τ ρ → blG σ (lkL ρ S l).2 (lkL ρ S l).1 → ∃ σ', frW 72 77 σ σ' ∧ ((lkL ρ S (τ 0)).1 ≠ 0 → blF (loM τ ρ S) (lkL ρ S (τ 0)).1 F (lkL ρ S (τ 0)).2 σ') ∧ ∀ {Q : Option (Option Value) → Hp → Prop} {d : Nat}, 3 ≤ d → Q (some (some (.int (if (lkL ρ S (τ 0)).1 = 0 then 0 else 1)))) (mW w σ') → Wp 1 38 [.ref 72, .ref P, .ref 35, .int (Int32.ofNat S), .int (Int32.ofNat aim), .int a5, .int (Int32.ofNat l), jk] [] (mW w σ) Q d := by
  intro r
  induction r with
  | zero =>
    intro l σ hl hE hI
    have hE' := hE
    obtain ⟨hw, hP, hτ, hv, hρ, hr⟩ := hE
    have hT' := isTP hw hP
    simp only [isT] at hT'
    have hl' : l = τ 0 := by omega
    subst hl'
    have e2 : σ.1 P 2 = Int32.ofNat (τ 0) := hτ.2.1
    have hL := lkL_ok (τ := τ) (ρ := ρ) (S := S) (τ 0) (Nat.le_refl _)
    have n6 := hL.1
    unfold loFO loV at hF
    unfold loM
    generalize (lkL ρ S (τ 0)).2 = ls at *
    generalize (lkL ρ S (τ 0)).1 = n at *
    by_cases z : n = 0
    · have c0 : (Int32.ofNat n = (0 : Int32)) ↔ True := iff_true_intro (by rw [z]; rfl)
      refine ⟨σ, frW_rf, fun q => absurd z q, fun {Q d} hd hQ => ?_⟩
      rw [if_pos z] at hQ
      refine b1_38 ?_
      simp only [↓br_pos, ↓br_neg, ↓rF_I, ↓rF_L, ↓rF_R, ↓rF_N, rO_m, rB_m, ↓rI_m, wI_m, ↓rB2_m, ↓rB3_m, wB2_m, wB3_m, ↓rL_m, wL_m, ↓rQ_m, wQ_m, ↓lI_m, pI_m, pL_m, pR_m, sI_m, sBy_m, sBo_m, sL_m, sQ_m, fst_m, true_and, and_true, tg_some, ln_some, uI_1, uI_2, uL_1, uL_2, uL_3, uQ_1, uQ_2, uQ_3, rv_i, rv_l, rv_n, rv_b0, rv_b1, RMR, ne_eq, reduceCtorEq, not_false_eq_true, Option.getD_some, if_true, if_false, and_self, false_and, and_false, Nat.add_left_cancel_iff, Nat.add_eq_left, Nat.left_eq_add, Nat.one_ne_zero, Nat.reduceAdd, Nat.reduceLT, Nat.reduceLeDiff, Nat.reduceEqDiff, true_implies, false_implies, implies_true, Option.some.injEq, forall_eq', forall_eq, reduceCtorEq, brT, brF, br_s, i_10, i_01, ib_0_2, ib_1_2, tn_0, tn_1, Int32.le_refl, eq_self, rv_bN, rv_iM, RCX 0, RCG 2, RCT 4, RCT 15, RCT 25, RCS 35, RCS 49, RCH 63, RCP 67, RCB 72, RCR 77, RCM 81, RLY, lit_at hw, RCT P, hT', e2, Int32.le_refl, hI.1, c0]
      exact hQ
    · have c0 : (Int32.ofNat n = (0 : Int32)) ↔ False := iff_false_intro (fun q => z ((of_eq0 (by omega)).mp q))
      have pn : 1 < 2 ^ n := Nat.one_lt_two_pow z
      obtain ⟨σ', f, F', a3⟩ := lpB_1x (bits := Int32.ofNat S) (a5 := a5) hL (by omega) ha hF (2 ^ n - 1) σ (by omega) hE' hI (fun X h1 h2 => by omega)
      refine ⟨σ', f, fun _ => F', fun {Q d} hd hQ => ?_⟩
      rw [if_neg z] at hQ
      have es := all6n (n := n) (by omega) n6
      refine b1_38 ?_
      simp only [↓br_pos, ↓br_neg, ↓rF_I, ↓rF_L, ↓rF_R, ↓rF_N, rO_m, rB_m, ↓rI_m, wI_m, ↓rB2_m, ↓rB3_m, wB2_m, wB3_m, ↓rL_m, wL_m, ↓rQ_m, wQ_m, ↓lI_m, pI_m, pL_m, pR_m, sI_m, sBy_m, sBo_m, sL_m, sQ_m, fst_m, true_and, and_true, tg_some, ln_some, uI_1, uI_2, uL_1, uL_2, uL_3, uQ_1, uQ_2, uQ_3, rv_i, rv_l, rv_n, rv_b0, rv_b1, RMR, ne_eq, reduceCtorEq, not_false_eq_true, Option.getD_some, if_true, if_false, and_self, false_and, and_false, Nat.add_left_cancel_iff, Nat.add_eq_left, Nat.left_eq_add, Nat.one_ne_zero, Nat.reduceAdd, Nat.reduceLT, Nat.reduceLeDiff, Nat.reduceEqDiff, true_implies, false_implies, implies_true, Option.some.injEq, forall_eq', forall_eq, reduceCtorEq, brT, brF, br_s, i_10, i_01, ib_0_2, ib_1_2, tn_0, tn_1, Int32.le_refl, eq_self, rv_bN, rv_iM, RCX 0, RCG 2, RCT 4, RCT 15, RCT 25, RCS 35, RCS 49, RCH 63, RCP 67, RCB 72, RCR 77, RCM 81, RLY, lit_at hw, RCT P, hT', e2, Int32.le_refl, hI.1, c0, es]
      exact a3 hd hQ
  | succ r ih =>
    intro l σ hl hE hI
    have hE' := hE
    obtain ⟨hw, hP, hτ, hv, hρ, hr⟩ := hE
    have hT' := isTP hw hP
    simp only [isT] at hT'
    have v0 := hv.1
    have p12 : 2 ^ τ 0 ≤ 2 ^ 12 := Nat.pow_le_pow_right (by omega) v0
    have e2 : σ.1 P 2 = Int32.ofNat (τ 0) := hτ.2.1
    have n6 := (lkL_ok (τ := τ) (ρ := ρ) (S := S) l (by omega)).1
    have l1 : (Int32.ofNat (τ 0) ≤ Int32.ofNat l) ↔ False := iff_false_intro (fun q => absurd ((on_le (by omega) (by omega)).mp q) (by omega))
    have eb : inB (Int32.ofNat l) 12 = true := on_inB (by omega) (by omega)
    have en := on_nat (i := l) (by omega)
    have lf := left_lt hr (by omega : l < τ 0)
    have e1 : σ.1 36 l = Int32.ofNat (ρ (12 + l)) := tS_lf hρ (by omega)
    have nx := fun σ2 h1 h2 => ih (l + 1) σ2 (by omega) h1 h2
    have eS : lkL ρ S (l + 1) = lkS ρ S l (lkL ρ S l) := rfl
    rw [eS] at nx
    by_cases tb : S.testBit l = true
    · have cb := iff_true_intro ((tb12o (by omega : S < 4096) (by omega : l < 12)).mpr tb)
      by_cases z : ρ (12 + l) = 0
      · have c : (Int32.ofNat (ρ (12 + l)) ≤ 0) ↔ True := iff_true_intro ((of_le0 (by omega)).mpr z)
        unfold lkS at nx
        rw [if_neg (fun q => by omega)] at nx
        obtain ⟨σ', f, F', a3⟩ := nx σ hE' hI
        refine ⟨σ', f, F', fun {Q d} hd hQ => ?_⟩
        refine b1_38 ?_
        simp only [↓br_pos, ↓br_neg, ↓rF_I, ↓rF_L, ↓rF_R, ↓rF_N, rO_m, rB_m, ↓rI_m, wI_m, ↓rB2_m, ↓rB3_m, wB2_m, wB3_m, ↓rL_m, wL_m, ↓rQ_m, wQ_m, ↓lI_m, pI_m, pL_m, pR_m, sI_m, sBy_m, sBo_m, sL_m, sQ_m, fst_m, true_and, and_true, tg_some, ln_some, uI_1, uI_2, uL_1, uL_2, uL_3, uQ_1, uQ_2, uQ_3, rv_i, rv_l, rv_n, rv_b0, rv_b1, RMR, ne_eq, reduceCtorEq, not_false_eq_true, Option.getD_some, if_true, if_false, and_self, false_and, and_false, Nat.add_left_cancel_iff, Nat.add_eq_left, Nat.left_eq_add, Nat.one_ne_zero, Nat.reduceAdd, Nat.reduceLT, Nat.reduceLeDiff, Nat.reduceEqDiff, true_implies, false_implies, implies_true, Option.some.injEq, forall_eq', forall_eq, reduceCtorEq, brT, brF, br_s, i_10, i_01, ib_0_2, ib_1_2, tn_0, tn_1, Int32.le_refl, eq_self, rv_bN, rv_iM, RCX 0, RCG 2, RCT 4, RCT 15, RCT 25, RCS 35, RCS 49, RCH 63, RCP 67, RCB 72, RCR 77, RCM 81, RLY, lit_at hw, RCT P, hT', e2, l1, cb, eb, en, e1, c, on_succ]
        exact a3 hd hQ
      · have c : (Int32.ofNat (ρ (12 + l)) ≤ 0) ↔ False := iff_false_intro (fun q => z ((of_le0 (by omega)).mp q))
        by_cases y : (lkL ρ S l).1 < 6
        · have c6 : ((6 : Int32) ≤ Int32.ofNat (lkL ρ S l).1) ↔ False := iff_false_intro (fun q => absurd ((on_le (i := 6) (by omega) (by omega)).mp q) (by omega))
          have ebn : inB (Int32.ofNat (lkL ρ S l).1) 6 = true := on_inB (by omega) (by omega)
          have enn := on_nat (i := (lkL ρ S l).1) (by omega)
          have f2 : frW 72 77 σ (uI (uI σ 74 (lkL ρ S l).1 (Int32.ofNat l)) 72 0 (Int32.ofNat ((lkL ρ S l).1 + 1))) := frW_tr (frW_I (by omega)) (frW_I (by omega))
          unfold lkS at nx
          rw [if_pos ⟨tb, by omega, y⟩] at nx
          obtain ⟨σ', f, F', a3⟩ := nx _ (loE_W hE' f2 (by omega)) ⟨by rw [uI_1, if_pos ⟨rfl, rfl⟩], fun i hi => by
            have hi' : i < (lkL ρ S l).1 + 1 := hi
            rw [uI_1, if_neg (by omega), uI_1]
            show _ = Int32.ofNat (if i = (lkL ρ S l).1 then l else (lkL ρ S l).2 i)
            by_cases x : i = (lkL ρ S l).1
            · rw [if_pos ⟨rfl, x⟩, if_pos x]
            · rw [if_neg (fun q => x q.2), if_neg x]; exact hI.2 i (by omega)⟩
          refine ⟨σ', frW_tr f2 f, F', fun {Q d} hd hQ => ?_⟩
          refine b1_38 ?_
          simp only [↓br_pos, ↓br_neg, ↓rF_I, ↓rF_L, ↓rF_R, ↓rF_N, rO_m, rB_m, ↓rI_m, wI_m, ↓rB2_m, ↓rB3_m, wB2_m, wB3_m, ↓rL_m, wL_m, ↓rQ_m, wQ_m, ↓lI_m, pI_m, pL_m, pR_m, sI_m, sBy_m, sBo_m, sL_m, sQ_m, fst_m, true_and, and_true, tg_some, ln_some, uI_1, uI_2, uL_1, uL_2, uL_3, uQ_1, uQ_2, uQ_3, rv_i, rv_l, rv_n, rv_b0, rv_b1, RMR, ne_eq, reduceCtorEq, not_false_eq_true, Option.getD_some, if_true, if_false, and_self, false_and, and_false, Nat.add_left_cancel_iff, Nat.add_eq_left, Nat.left_eq_add, Nat.one_ne_zero, Nat.reduceAdd, Nat.reduceLT, Nat.reduceLeDiff, Nat.reduceEqDiff, true_implies, false_implies, implies_true, Option.some.injEq, forall_eq', forall_eq, reduceCtorEq, brT, brF, br_s, i_10, i_01, ib_0_2, ib_1_2, tn_0, tn_1, Int32.le_refl, eq_self, rv_bN, rv_iM, RCX 0, RCG 2, RCT 4, RCT 15, RCT 25, RCS 35, RCS 49, RCH 63, RCP 67, RCB 72, RCR 77, RCM 81, RLY, lit_at hw, RCT P, hT', e2, l1, cb, eb, en, e1, c, hI.1, c6, ebn, enn, on_succ]
          exact a3 hd hQ
        · have c6 : ((6 : Int32) ≤ Int32.ofNat (lkL ρ S l).1) ↔ True := iff_true_intro ((on_le (i := 6) (by omega) (by omega)).mpr (by omega))
          unfold lkS at nx
          rw [if_neg (fun q => y q.2.2)] at nx
          obtain ⟨σ', f, F', a3⟩ := nx σ hE' hI
          refine ⟨σ', f, F', fun {Q d} hd hQ => ?_⟩
          refine b1_38 ?_
          simp only [↓br_pos, ↓br_neg, ↓rF_I, ↓rF_L, ↓rF_R, ↓rF_N, rO_m, rB_m, ↓rI_m, wI_m, ↓rB2_m, ↓rB3_m, wB2_m, wB3_m, ↓rL_m, wL_m, ↓rQ_m, wQ_m, ↓lI_m, pI_m, pL_m, pR_m, sI_m, sBy_m, sBo_m, sL_m, sQ_m, fst_m, true_and, and_true, tg_some, ln_some, uI_1, uI_2, uL_1, uL_2, uL_3, uQ_1, uQ_2, uQ_3, rv_i, rv_l, rv_n, rv_b0, rv_b1, RMR, ne_eq, reduceCtorEq, not_false_eq_true, Option.getD_some, if_true, if_false, and_self, false_and, and_false, Nat.add_left_cancel_iff, Nat.add_eq_left, Nat.left_eq_add, Nat.one_ne_zero, Nat.reduceAdd, Nat.reduceLT, Nat.reduceLeDiff, Nat.reduceEqDiff, true_implies, false_implies, implies_true, Option.some.injEq, forall_eq', forall_eq, reduceCtorEq, brT, brF, br_s, i_10, i_01, ib_0_2, ib_1_2, tn_0, tn_1, Int32.le_refl, eq_self, rv_bN, rv_iM, RCX 0, RCG 2, RCT 4, RCT 15, RCT 25, RCS 35, RCS 49, RCH 63, RCP 67, RCB 72, RCR 77, RCM 81, RLY, lit_at hw, RCT P, hT', e2, l1, cb, eb, en, e1, c, hI.1, c6, on_succ]
          exact a3 hd hQ
    · have cb := iff_false_intro (fun q => tb ((tb12o (by omega : S < 4096) (by omega : l < 12)).mp q))
      unfold lkS at nx
      rw [if_neg (fun q => tb q.1)] at nx
      obtain ⟨σ', f, F', a3⟩ := nx σ hE' hI
      refine ⟨σ', f, F', fun {Q d} hd hQ => ?_⟩
      refine b1_38 ?_
      simp only [↓br_pos, ↓br_neg, ↓rF_I, ↓rF_L, ↓rF_R, ↓rF_N, rO_m, rB_m, ↓rI_m, wI_m, ↓rB2_m, ↓rB3_m, wB2_m, wB3_m, ↓rL_m, wL_m, ↓rQ_m, wQ_m, ↓lI_m, pI_m, pL_m, pR_m, sI_m, sBy_m, sBo_m, sL_m, sQ_m, fst_m, true_and, and_true, tg_some, ln_some, uI_1, uI_2, uL_1, uL_2, uL_3, uQ_1, uQ_2, uQ_3, rv_i, rv_l, rv_n, rv_b0, rv_b1, RMR, ne_eq, reduceCtorEq, not_false_eq_true, Option.getD_some, if_true, if_false, and_self, false_and, and_false, Nat.add_left_cancel_iff, Nat.add_eq_left, Nat.left_eq_add, Nat.one_ne_zero, Nat.reduceAdd, Nat.reduceLT, Nat.reduceLeDiff, Nat.reduceEqDiff, true_implies, false_implies, implies_true, Option.some.injEq, forall_eq', forall_eq, reduceCtorEq, brT, brF, br_s, i_10, i_01, ib_0_2, ib_1_2, tn_0, tn_1, Int32.le_refl, eq_self, rv_bN, rv_iM, RCX 0, RCG 2, RCT 4, RCT 15, RCT 25, RCS 35, RCS 49, RCH 63, RCP 67, RCB 72, RCR 77, RCM 81, RLY, lit_at hw, RCT P, hT', e2, l1, cb, on_succ]
      exact a3 hd hQ
theorem s_1x {w : mT} {σ : mS} {P S aim : Nat} {τ ρ : Rw} {F : Nat → Nat} (hE : loE w σ P τ ρ) (hS : loOK τ ρ S) (ha : aim ≤ 999) (hF : loFO τ ρ S aim F) : ∃ σ', frW 72 77 σ σ' ∧ blF (loM τ ρ S) (lkL ρ S (τ 0)).1 F (lkL ρ S (τ 0)).2 σ' ∧ ∀ {D : Nat} {K : Int32 → Hp → Prop}, 4 ≤ D → (wpI D 1 [.ref 72, .ref P, .ref 35, .int (Int32.ofNat S), .int (Int32.ofNat aim)] (mW w σ) K ↔ K 1 (mW w σ')) := by
  have hE' := hE
  obtain ⟨hw, hP, hτ, hv, hρ, hr⟩ := hE
  have hT' := isTP hw hP
  simp only [isT] at hT'
  have v0 := hv.1
  have p12 : 2 ^ τ 0 ≤ 2 ^ 12 := Nat.pow_le_pow_right (by omega) v0
  obtain ⟨s1, s2, s3, s4⟩ := hS
  have eh := sb_hi (f := fun _ => 1) s1 12 v0
  have e2 : σ.1 P 2 = Int32.ofNat (τ 0) := hτ.2.1
  have f1 : frW 72 77 σ (uI σ 72 0 0) := frW_I (by omega)
  obtain ⟨σ', f, F', a3⟩ := lpA_1x (a5 := Int32.ofNat (sbS (fun _ => 1) (τ 0) S)) s1 ha hF (τ 0) 0 (uI σ 72 0 0) (by omega) (loE_W hE' f1 (by omega)) ⟨by rw [uI_1, if_pos ⟨rfl, rfl⟩]; rfl, fun i hi => absurd hi (Nat.not_lt_zero _)⟩
  rw [if_neg s4] at a3
  refine ⟨σ', frW_tr f1 f, F' s4, fun hD => cI_of (m := 3) (fun d hd Q hQ => ?_) rfl hD⟩
  have c2 : (Int32.ofNat (sbS (fun _ => 1) (τ 0) S) < (2 : Int32)) ↔ False := iff_false_intro (fun q => absurd ((on_lt (j := 2) (by omega) (by omega)).mp q) (by omega))
  have c6 : ((6 : Int32) < Int32.ofNat (sbS (fun _ => 1) (τ 0) S)) ↔ False := iff_false_intro (fun q => absurd ((on_lt (i := 6) (by omega) (by omega)).mp q) (by omega))
  have cs := iff_true_intro ((shU v0).mpr ⟨S, s1, rfl⟩)
  have g2 := fun {K : Int32 → Hp → Prop} => g_239 (hp := mW w σ) (K := K) (by omega : S < 4096) (by omega : 1 ≤ d)
  rw [eh] at g2
  refine b1_0 ?_
  simp only [↓br_pos, ↓br_neg, ↓rF_I, ↓rF_L, ↓rF_R, ↓rF_N, rO_m, rB_m, ↓rI_m, wI_m, ↓rB2_m, ↓rB3_m, wB2_m, wB3_m, ↓rL_m, wL_m, ↓rQ_m, wQ_m, ↓lI_m, pI_m, pL_m, pR_m, sI_m, sBy_m, sBo_m, sL_m, sQ_m, fst_m, true_and, and_true, tg_some, ln_some, uI_1, uI_2, uL_1, uL_2, uL_3, uQ_1, uQ_2, uQ_3, rv_i, rv_l, rv_n, rv_b0, rv_b1, RMR, ne_eq, reduceCtorEq, not_false_eq_true, Option.getD_some, if_true, if_false, and_self, false_and, and_false, Nat.add_left_cancel_iff, Nat.add_eq_left, Nat.left_eq_add, Nat.one_ne_zero, Nat.reduceAdd, Nat.reduceLT, Nat.reduceLeDiff, Nat.reduceEqDiff, true_implies, false_implies, implies_true, Option.some.injEq, forall_eq', forall_eq, reduceCtorEq, brT, brF, br_s, i_10, i_01, ib_0_2, ib_1_2, tn_0, tn_1, Int32.le_refl, eq_self, rv_bN, rv_iM, RCX 0, RCG 2, RCT 4, RCT 15, RCT 25, RCS 35, RCS 49, RCH 63, RCP 67, RCB 72, RCR 77, RCM 81, RLY, lit_at hw, RCT P, hT', g2, c2, c6, e2, cs]
  exact a3 hd hQ
theorem s_1z {w : mT} {σ : mS} {P : Nat} {τ ρ : Rw} {bits : Int32} {aim : Nat} (hE : loE w σ P τ ρ) (ha : aim ≤ 999) (hz : ¬ ∃ S, bits = Int32.ofNat S ∧ loOK τ ρ S) : ∃ σ', frW 72 77 σ σ' ∧ ∀ {D : Nat} {K : Int32 → Hp → Prop}, 4 ≤ D → (wpI D 1 [.ref 72, .ref P, .ref 35, .int bits, .int (Int32.ofNat aim)] (mW w σ) K ↔ K 0 (mW w σ')) := by
  have hE' := hE
  obtain ⟨hw, hP, hτ, hv, hρ, hr⟩ := hE
  have hT' := isTP hw hP
  simp only [isT] at hT'
  have v0 := hv.1
  have p12 : 2 ^ τ 0 ≤ 2 ^ 12 := Nat.pow_le_pow_right (by omega) v0
  have e2 : σ.1 P 2 = Int32.ofNat (τ 0) := hτ.2.1
  by_cases y : ∃ S, S < 2 ^ τ 0 ∧ bits = Int32.ofNat S
  · obtain ⟨S, s1, rfl⟩ := y
    have eh := sb_hi (f := fun _ => 1) s1 12 v0
    have lb := sb_le (S := S) (τ 0)
    have cs := iff_true_intro ((shU v0).mpr ⟨S, s1, rfl⟩)
    have g2 := fun {d : Nat} {K : Int32 → Hp → Prop} (hd : 1 ≤ d) => g_239 (hp := mW w σ) (K := K) (by omega : S < 4096) hd
    rw [eh] at g2
    by_cases q2 : sbS (fun _ => 1) (τ 0) S < 2
    · have c2 : (Int32.ofNat (sbS (fun _ => 1) (τ 0) S) < (2 : Int32)) ↔ True := iff_true_intro ((on_lt (j := 2) (by omega) (by omega)).mpr q2)
      refine ⟨σ, frW_rf, fun hD => cI_of (m := 3) (fun d hd Q hQ => ?_) rfl hD⟩
      refine b1_0 ?_
      simp only [↓br_pos, ↓br_neg, ↓rF_I, ↓rF_L, ↓rF_R, ↓rF_N, rO_m, rB_m, ↓rI_m, wI_m, ↓rB2_m, ↓rB3_m, wB2_m, wB3_m, ↓rL_m, wL_m, ↓rQ_m, wQ_m, ↓lI_m, pI_m, pL_m, pR_m, sI_m, sBy_m, sBo_m, sL_m, sQ_m, fst_m, true_and, and_true, tg_some, ln_some, uI_1, uI_2, uL_1, uL_2, uL_3, uQ_1, uQ_2, uQ_3, rv_i, rv_l, rv_n, rv_b0, rv_b1, RMR, ne_eq, reduceCtorEq, not_false_eq_true, Option.getD_some, if_true, if_false, and_self, false_and, and_false, Nat.add_left_cancel_iff, Nat.add_eq_left, Nat.left_eq_add, Nat.one_ne_zero, Nat.reduceAdd, Nat.reduceLT, Nat.reduceLeDiff, Nat.reduceEqDiff, true_implies, false_implies, implies_true, Option.some.injEq, forall_eq', forall_eq, reduceCtorEq, brT, brF, br_s, i_10, i_01, ib_0_2, ib_1_2, tn_0, tn_1, Int32.le_refl, eq_self, rv_bN, rv_iM, RCX 0, RCG 2, RCT 4, RCT 15, RCT 25, RCS 35, RCS 49, RCH 63, RCP 67, RCB 72, RCR 77, RCM 81, RLY, lit_at hw, RCT P, hT', g2 (by omega : 1 ≤ d), c2]
      exact hQ
    · have c2 : (Int32.ofNat (sbS (fun _ => 1) (τ 0) S) < (2 : Int32)) ↔ False := iff_false_intro (fun q => absurd ((on_lt (j := 2) (by omega) (by omega)).mp q) (by omega))
      by_cases q6 : 6 < sbS (fun _ => 1) (τ 0) S
      · have c6 : ((6 : Int32) < Int32.ofNat (sbS (fun _ => 1) (τ 0) S)) ↔ True := iff_true_intro ((on_lt (i := 6) (by omega) (by omega)).mpr q6)
        refine ⟨σ, frW_rf, fun hD => cI_of (m := 3) (fun d hd Q hQ => ?_) rfl hD⟩
        refine b1_0 ?_
        simp only [↓br_pos, ↓br_neg, ↓rF_I, ↓rF_L, ↓rF_R, ↓rF_N, rO_m, rB_m, ↓rI_m, wI_m, ↓rB2_m, ↓rB3_m, wB2_m, wB3_m, ↓rL_m, wL_m, ↓rQ_m, wQ_m, ↓lI_m, pI_m, pL_m, pR_m, sI_m, sBy_m, sBo_m, sL_m, sQ_m, fst_m, true_and, and_true, tg_some, ln_some, uI_1, uI_2, uL_1, uL_2, uL_3, uQ_1, uQ_2, uQ_3, rv_i, rv_l, rv_n, rv_b0, rv_b1, RMR, ne_eq, reduceCtorEq, not_false_eq_true, Option.getD_some, if_true, if_false, and_self, false_and, and_false, Nat.add_left_cancel_iff, Nat.add_eq_left, Nat.left_eq_add, Nat.one_ne_zero, Nat.reduceAdd, Nat.reduceLT, Nat.reduceLeDiff, Nat.reduceEqDiff, true_implies, false_implies, implies_true, Option.some.injEq, forall_eq', forall_eq, reduceCtorEq, brT, brF, br_s, i_10, i_01, ib_0_2, ib_1_2, tn_0, tn_1, Int32.le_refl, eq_self, rv_bN, rv_iM, RCX 0, RCG 2, RCT 4, RCT 15, RCT 25, RCS 35, RCS 49, RCH 63, RCP 67, RCB 72, RCR 77, RCM 81, RLY, lit_at hw, RCT P, hT', g2 (by omega : 1 ≤ d), c2, c6]
        exact hQ
      · have c6 : ((6 : Int32) < Int32.ofNat (sbS (fun _ => 1) (τ 0) S)) ↔ False := iff_false_intro (fun q => absurd ((on_lt (i := 6) (by omega) (by omega)).mp q) (by omega))
        have n0 : (lkL ρ S (τ 0)).1 = 0 := by
          apply Classical.byContradiction
          intro q
          exact hz ⟨S, rfl, s1, by omega, by omega, q⟩
        have f1 : frW 72 77 σ (uI σ 72 0 0) := frW_I (by omega)
        obtain ⟨F, hF⟩ := exF (v := loV τ ρ S aim) (n := (lkL ρ S (τ 0)).1)
        obtain ⟨σ', f, F', a3⟩ := lpA_1x (a5 := Int32.ofNat (sbS (fun _ => 1) (τ 0) S)) s1 ha hF (τ 0) 0 (uI σ 72 0 0) (by omega) (loE_W hE' f1 (by omega)) ⟨by rw [uI_1, if_pos ⟨rfl, rfl⟩]; rfl, fun i hi => absurd hi (Nat.not_lt_zero _)⟩
        rw [if_pos n0] at a3
        refine ⟨σ', frW_tr f1 f, fun hD => cI_of (m := 3) (fun d hd Q hQ => ?_) rfl hD⟩
        refine b1_0 ?_
        simp only [↓br_pos, ↓br_neg, ↓rF_I, ↓rF_L, ↓rF_R, ↓rF_N, rO_m, rB_m, ↓rI_m, wI_m, ↓rB2_m, ↓rB3_m, wB2_m, wB3_m, ↓rL_m, wL_m, ↓rQ_m, wQ_m, ↓lI_m, pI_m, pL_m, pR_m, sI_m, sBy_m, sBo_m, sL_m, sQ_m, fst_m, true_and, and_true, tg_some, ln_some, uI_1, uI_2, uL_1, uL_2, uL_3, uQ_1, uQ_2, uQ_3, rv_i, rv_l, rv_n, rv_b0, rv_b1, RMR, ne_eq, reduceCtorEq, not_false_eq_true, Option.getD_some, if_true, if_false, and_self, false_and, and_false, Nat.add_left_cancel_iff, Nat.add_eq_left, Nat.left_eq_add, Nat.one_ne_zero, Nat.reduceAdd, Nat.reduceLT, Nat.reduceLeDiff, Nat.reduceEqDiff, true_implies, false_implies, implies_true, Option.some.injEq, forall_eq', forall_eq, reduceCtorEq, brT, brF, br_s, i_10, i_01, ib_0_2, ib_1_2, tn_0, tn_1, Int32.le_refl, eq_self, rv_bN, rv_iM, RCX 0, RCG 2, RCT 4, RCT 15, RCT 25, RCS 35, RCS 49, RCH 63, RCP 67, RCB 72, RCR 77, RCM 81, RLY, lit_at hw, RCT P, hT', g2 (by omega : 1 ≤ d), c2, c6, e2, cs]
        exact a3 hd hQ
  · have cs := iff_false_intro (fun q => y ((shU (x := bits) v0).mp q))
    refine ⟨σ, frW_rf, fun hD => cI_of (m := 3) (fun d hd Q hQ => ?_) rfl hD⟩
    refine b1_0 ?_
    have g2 : ∀ K : Int32 → Hp → Prop, (∀ x, K x (mW w σ)) → wpI d 239 [.int bits] (mW w σ) K := fun K hK => s_239 hK (by omega)
    refine g2 _ (fun x => ?_)
    simp only [↓rF_I, ↓rF_L, ↓rF_R, ↓rF_N, rO_m, rB_m, ↓rI_m, wI_m, ↓rB2_m, ↓rB3_m, wB2_m, wB3_m, ↓rL_m, wL_m, ↓rQ_m, wQ_m, ↓lI_m, pI_m, pL_m, pR_m, sI_m, sBy_m, sBo_m, sL_m, sQ_m, fst_m, true_and, and_true, tg_some, ln_some, uI_1, uI_2, uL_1, uL_2, uL_3, uQ_1, uQ_2, uQ_3, rv_i, rv_l, rv_n, rv_b0, rv_b1, RMR, ne_eq, reduceCtorEq, not_false_eq_true, Option.getD_some, if_true, if_false, and_self, false_and, and_false, Nat.add_left_cancel_iff, Nat.add_eq_left, Nat.left_eq_add, Nat.one_ne_zero, Nat.reduceAdd, Nat.reduceLT, Nat.reduceLeDiff, Nat.reduceEqDiff, true_implies, false_implies, implies_true, Option.some.injEq, forall_eq', forall_eq, reduceCtorEq, brT, brF, br_s, i_10, i_01, ib_0_2, ib_1_2, tn_0, tn_1, Int32.le_refl, eq_self, rv_bN, rv_iM, RCX 0, RCG 2, RCT 4, RCT 15, RCT 25, RCS 35, RCS 49, RCH 63, RCP 67, RCB 72, RCR 77, RCM 81, RLY, lit_at hw, RCT P, hT', e2, cs]
    first | exact hQ | exact br2 hQ (br2 hQ hQ)
/-- what LAY ORDER answers -/
def layV (n : Nat) (ls g : Nat → Nat) (c : Int32) : Int32 := if bN c n = 1 then Int32.ofNat (ls (g c.toNatClampNeg)) else -2
theorem c_108z {w : mT} {σ : mS} {tp n : Nat} {t : Nat → Nat} {τ ρ : Rw} {bk : Nat → Rw} {has : Nat → Bool} {im : Nat → Rw} {a b c : Int32} (h : cIn w σ tp t τ ρ n bk has im) (hz : ¬ (grP b ∧ ∃ S, a = Int32.ofNat S ∧ loOK τ ρ S)) : ∃ σ', frM σ σ' ∧ cIn w σ' tp t τ ρ n bk has im ∧ ∀ {D : Nat} {K : Int32 → Hp → Prop}, 5 ≤ D → (wpI D 108 [.ref 0, .int a, .int b, .int c] (mW w σ) K ↔ K (-1) (mW w σ')) := by
  have h' := h
  obtain ⟨hw, hS, hH, ⟨P, hP, p3, p4, hτ⟩, hρ, hv, hr, h1, htp, htb, ht⟩ := h
  have hT := isTP hw hP
  have hT' := hT
  simp only [isT] at hT'
  by_cases y : grP b
  · have ey : iB (grP b) = 1 := iB_t y
    obtain ⟨aim, rfl, ha⟩ := ex_on (a := b) (n := 1000) ⟨y.1, by have := y.2; omega⟩
    obtain ⟨σ', f, g1⟩ := s_1z (bits := a) (aim := aim) ⟨hw, hP, hτ, hv, hρ, hr⟩ (by omega) (fun q => hz ⟨y, q⟩)
    refine ⟨σ', frM_W f (by omega), cIn_W h' f (by omega), fun hD => cI_of (m := 4) (fun d hd Q hQ => ?_) rfl hD⟩
    refine b108_0 ?_
    simp only [↓br_pos, ↓br_neg, ↓rF_I, ↓rF_L, ↓rF_R, ↓rF_N, rO_m, rB_m, ↓rI_m, wI_m, ↓rB2_m, ↓rB3_m, wB2_m, wB3_m, ↓rL_m, wL_m, ↓rQ_m, wQ_m, ↓lI_m, pI_m, pL_m, pR_m, sI_m, sBy_m, sBo_m, sL_m, sQ_m, fst_m, true_and, and_true, tg_some, ln_some, uI_1, uI_2, uL_1, uL_2, uL_3, uQ_1, uQ_2, uQ_3, rv_i, rv_l, rv_n, rv_b0, rv_b1, RMR, ne_eq, reduceCtorEq, not_false_eq_true, Option.getD_some, if_true, if_false, and_self, false_and, and_false, Nat.add_left_cancel_iff, Nat.add_eq_left, Nat.left_eq_add, Nat.one_ne_zero, Nat.reduceAdd, Nat.reduceLT, Nat.reduceLeDiff, Nat.reduceEqDiff, true_implies, false_implies, implies_true, Option.some.injEq, forall_eq', forall_eq, reduceCtorEq, brT, brF, br_s, i_10, i_01, ib_0_2, ib_1_2, tn_0, tn_1, Int32.le_refl, eq_self, rv_bN, rv_iM, RCX 0, RCG 2, RCT 4, RCT 15, RCT 25, RCS 35, RCS 49, RCH 63, RCP 67, RCB 72, RCR 77, RCM 81, RLY, lit_at hw, g_119 (by omega : 1 ≤ d), ey, p3, g1 hd]
    exact hQ
  · have ey : iB (grP b) = 0 := iB_f y
    refine ⟨σ, frM_rf, h', fun hD => cI_of (m := 4) (fun d hd Q hQ => ?_) rfl hD⟩
    refine b108_0 ?_
    simp only [↓br_pos, ↓br_neg, ↓rF_I, ↓rF_L, ↓rF_R, ↓rF_N, rO_m, rB_m, ↓rI_m, wI_m, ↓rB2_m, ↓rB3_m, wB2_m, wB3_m, ↓rL_m, wL_m, ↓rQ_m, wQ_m, ↓lI_m, pI_m, pL_m, pR_m, sI_m, sBy_m, sBo_m, sL_m, sQ_m, fst_m, true_and, and_true, tg_some, ln_some, uI_1, uI_2, uL_1, uL_2, uL_3, uQ_1, uQ_2, uQ_3, rv_i, rv_l, rv_n, rv_b0, rv_b1, RMR, ne_eq, reduceCtorEq, not_false_eq_true, Option.getD_some, if_true, if_false, and_self, false_and, and_false, Nat.add_left_cancel_iff, Nat.add_eq_left, Nat.left_eq_add, Nat.one_ne_zero, Nat.reduceAdd, Nat.reduceLT, Nat.reduceLeDiff, Nat.reduceEqDiff, true_implies, false_implies, implies_true, Option.some.injEq, forall_eq', forall_eq, reduceCtorEq, brT, brF, br_s, i_10, i_01, ib_0_2, ib_1_2, tn_0, tn_1, Int32.le_refl, eq_self, rv_bN, rv_iM, RCX 0, RCG 2, RCT 4, RCT 15, RCT 25, RCS 35, RCS 49, RCH 63, RCP 67, RCB 72, RCR 77, RCM 81, RLY, lit_at hw, g_119 (by omega : 1 ≤ d), ey]
    exact hQ
theorem c_108x {w : mT} {σ : mS} {tp n : Nat} {t : Nat → Nat} {τ ρ : Rw} {bk : Nat → Rw} {has : Nat → Bool} {im : Nat → Rw} {S aim : Nat} {c : Int32} {F : Nat → Nat} (h : cIn w σ tp t τ ρ n bk has im) (hO : loOK τ ρ S) (ha : aim ≤ 999) (hF : loFO τ ρ S aim F) : ∃ σ', frM σ σ' ∧ cIn w σ' tp t τ ρ n bk has im ∧ ∀ {D : Nat} {K : Int32 → Hp → Prop}, 5 ≤ D → (wpI D 108 [.ref 0, .int (Int32.ofNat S), .int (Int32.ofNat aim), .int c] (mW w σ) K ↔ K (layV (lkL ρ S (τ 0)).1 (lkL ρ S (τ 0)).2 (grd (lkL ρ S (τ 0)).1 F (F 0) (lkL ρ S (τ 0)).1 0 0 (fun _ => 0)) c) (mW w σ')) := by
  have h' := h
  obtain ⟨hw, hS, hH, ⟨P, hP, p3, p4, hτ⟩, hρ, hv, hr, h1, htp, htb, ht⟩ := h
  have hT := isTP hw hP
  have hT' := hT
  simp only [isT] at hT'
  have ey : iB (grP (Int32.ofNat aim)) = 1 := iB_t (by show 0 ≤ (Int32.ofNat aim).toInt ∧ (Int32.ofNat aim).toInt ≤ 999; rw [on_int (by omega)]; omega)
  obtain ⟨σ', f, F', g1⟩ := s_1x ⟨hw, hP, hτ, hv, hρ, hr⟩ hO ha hF
  have n6 := (lkL_ok (τ := τ) (ρ := ρ) (S := S) (τ 0) (Nat.le_refl _)).1
  refine ⟨σ', frM_W f (by omega), cIn_W h' f (by omega), fun hD => cI_of (m := 4) (fun d hd Q hQ => ?_) rfl hD⟩
  obtain ⟨I, R, _⟩ := F'
  generalize grd (lkL ρ S (τ 0)).1 F (F 0) (lkL ρ S (τ 0)).1 0 0 (fun _ => 0) = g at *
  generalize (lkL ρ S (τ 0)).2 = ls at *
  generalize (lkL ρ S (τ 0)).1 = m at *
  refine b108_0 ?_
  by_cases c2 : c < 0
  · have ev : layV m ls g c = -2 := by
      unfold layV
      rw [if_neg (fun q => by
        obtain ⟨k, rfl, hk⟩ := bN_ex q
        rw [i_lt, on_int (by omega), show (0 : Int32).toInt = 0 by decide] at c2
        omega)]
    rw [ev] at hQ
    simp only [↓br_pos, ↓br_neg, ↓rF_I, ↓rF_L, ↓rF_R, ↓rF_N, rO_m, rB_m, ↓rI_m, wI_m, ↓rB2_m, ↓rB3_m, wB2_m, wB3_m, ↓rL_m, wL_m, ↓rQ_m, wQ_m, ↓lI_m, pI_m, pL_m, pR_m, sI_m, sBy_m, sBo_m, sL_m, sQ_m, fst_m, true_and, and_true, tg_some, ln_some, uI_1, uI_2, uL_1, uL_2, uL_3, uQ_1, uQ_2, uQ_3, rv_i, rv_l, rv_n, rv_b0, rv_b1, RMR, ne_eq, reduceCtorEq, not_false_eq_true, Option.getD_some, if_true, if_false, and_self, false_and, and_false, Nat.add_left_cancel_iff, Nat.add_eq_left, Nat.left_eq_add, Nat.one_ne_zero, Nat.reduceAdd, Nat.reduceLT, Nat.reduceLeDiff, Nat.reduceEqDiff, true_implies, false_implies, implies_true, Option.some.injEq, forall_eq', forall_eq, reduceCtorEq, brT, brF, br_s, i_10, i_01, ib_0_2, ib_1_2, tn_0, tn_1, Int32.le_refl, eq_self, rv_bN, rv_iM, RCX 0, RCG 2, RCT 4, RCT 15, RCT 25, RCS 35, RCS 49, RCH 63, RCP 67, RCB 72, RCR 77, RCM 81, RLY, lit_at hw, g_119 (by omega : 1 ≤ d), ey, p3, g1 hd, z10, c2]
    exact hQ
  · by_cases c3 : c < Int32.ofNat m
    · have b2 : c.toInt < m := by rw [i_lt, on_int (by omega)] at c3; exact c3
      have b1 : 0 ≤ c.toInt := by rw [i_lt, show (0 : Int32).toInt = 0 by decide] at c2; omega
      obtain ⟨k, rfl, hk⟩ := ex_on (a := c) (n := m) ⟨b1, b2⟩
      have eb : inB (Int32.ofNat k) 6 = true := on_inB (by omega) (by omega)
      have en := on_nat (i := k) (by omega)
      have ev : layV m ls g (Int32.ofNat k) = Int32.ofNat (ls (g k)) := by
        unfold layV
        rw [if_pos (bN_on hk (by omega)), en]
      rw [ev] at hQ
      simp only [↓br_pos, ↓br_neg, ↓rF_I, ↓rF_L, ↓rF_R, ↓rF_N, rO_m, rB_m, ↓rI_m, wI_m, ↓rB2_m, ↓rB3_m, wB2_m, wB3_m, ↓rL_m, wL_m, ↓rQ_m, wQ_m, ↓lI_m, pI_m, pL_m, pR_m, sI_m, sBy_m, sBo_m, sL_m, sQ_m, fst_m, true_and, and_true, tg_some, ln_some, uI_1, uI_2, uL_1, uL_2, uL_3, uQ_1, uQ_2, uQ_3, rv_i, rv_l, rv_n, rv_b0, rv_b1, RMR, ne_eq, reduceCtorEq, not_false_eq_true, Option.getD_some, if_true, if_false, and_self, false_and, and_false, Nat.add_left_cancel_iff, Nat.add_eq_left, Nat.left_eq_add, Nat.one_ne_zero, Nat.reduceAdd, Nat.reduceLT, Nat.reduceLeDiff, Nat.reduceEqDiff, true_implies, false_implies, implies_true, Option.some.injEq, forall_eq', forall_eq, reduceCtorEq, brT, brF, br_s, i_10, i_01, ib_0_2, ib_1_2, tn_0, tn_1, Int32.le_refl, eq_self, rv_bN, rv_iM, RCX 0, RCG 2, RCT 4, RCT 15, RCT 25, RCS 35, RCS 49, RCH 63, RCP 67, RCB 72, RCR 77, RCM 81, RLY, lit_at hw, g_119 (by omega : 1 ≤ d), ey, p3, g1 hd, z10, c2, I.1, c3, eb, en, R k hk]
      exact hQ
    · have ev : layV m ls g c = -2 := by
        unfold layV
        rw [if_neg (fun q => by
          obtain ⟨k, rfl, hk⟩ := bN_ex q
          exact c3 ((on_lt (by omega) (by omega)).mpr hk))]
      rw [ev] at hQ
      simp only [↓br_pos, ↓br_neg, ↓rF_I, ↓rF_L, ↓rF_R, ↓rF_N, rO_m, rB_m, ↓rI_m, wI_m, ↓rB2_m, ↓rB3_m, wB2_m, wB3_m, ↓rL_m, wL_m, ↓rQ_m, wQ_m, ↓lI_m, pI_m, pL_m, pR_m, sI_m, sBy_m, sBo_m, sL_m, sQ_m, fst_m, true_and, and_true, tg_some, ln_some, uI_1, uI_2, uL_1, uL_2, uL_3, uQ_1, uQ_2, uQ_3, rv_i, rv_l, rv_n, rv_b0, rv_b1, RMR, ne_eq, reduceCtorEq, not_false_eq_true, Option.getD_some, if_true, if_false, and_self, false_and, and_false, Nat.add_left_cancel_iff, Nat.add_eq_left, Nat.left_eq_add, Nat.one_ne_zero, Nat.reduceAdd, Nat.reduceLT, Nat.reduceLeDiff, Nat.reduceEqDiff, true_implies, false_implies, implies_true, Option.some.injEq, forall_eq', forall_eq, reduceCtorEq, brT, brF, br_s, i_10, i_01, ib_0_2, ib_1_2, tn_0, tn_1, Int32.le_refl, eq_self, rv_bN, rv_iM, RCX 0, RCG 2, RCT 4, RCT 15, RCT 25, RCS 35, RCS 49, RCH 63, RCP 67, RCB 72, RCR 77, RCM 81, RLY, lit_at hw, g_119 (by omega : 1 ≤ d), ey, p3, g1 hd, z10, c2, I.1, c3]
      exact hQ
theorem c_109z {w : mT} {σ : mS} {tp n : Nat} {t : Nat → Nat} {τ ρ : Rw} {bk : Nat → Rw} {has : Nat → Bool} {im : Nat → Rw} {a b : Int32} (h : cIn w σ tp t τ ρ n bk has im) (hz : ¬ (grP b ∧ ∃ S, a = Int32.ofNat S ∧ loOK τ ρ S)) : ∃ σ', frM σ σ' ∧ cIn w σ' tp t τ ρ n bk has im ∧ ∀ {D : Nat} {K : Int64 → Hp → Prop}, 5 ≤ D → (wpL D 109 [.ref 0, .int a, .int b] (mW w σ) K ↔ K (-1) (mW w σ')) := by
  have h' := h
  obtain ⟨hw, hS, hH, ⟨P, hP, p3, p4, hτ⟩, hρ, hv, hr, h1, htp, htb, ht⟩ := h
  have hT := isTP hw hP
  have hT' := hT
  simp only [isT] at hT'
  by_cases y : grP b
  · have ey : iB (grP b) = 1 := iB_t y
    obtain ⟨aim, rfl, ha⟩ := ex_on (a := b) (n := 1000) ⟨y.1, by have := y.2; omega⟩
    obtain ⟨σ', f, g1⟩ := s_1z (bits := a) (aim := aim) ⟨hw, hP, hτ, hv, hρ, hr⟩ (by omega) (fun q => hz ⟨y, q⟩)
    refine ⟨σ', frM_W f (by omega), cIn_W h' f (by omega), fun hD => cL_of (m := 4) (fun d hd Q hQ => ?_) rfl hD⟩
    refine b109_0 ?_
    simp only [↓br_pos, ↓br_neg, ↓rF_I, ↓rF_L, ↓rF_R, ↓rF_N, rO_m, rB_m, ↓rI_m, wI_m, ↓rB2_m, ↓rB3_m, wB2_m, wB3_m, ↓rL_m, wL_m, ↓rQ_m, wQ_m, ↓lI_m, pI_m, pL_m, pR_m, sI_m, sBy_m, sBo_m, sL_m, sQ_m, fst_m, true_and, and_true, tg_some, ln_some, uI_1, uI_2, uL_1, uL_2, uL_3, uQ_1, uQ_2, uQ_3, rv_i, rv_l, rv_n, rv_b0, rv_b1, RMR, ne_eq, reduceCtorEq, not_false_eq_true, Option.getD_some, if_true, if_false, and_self, false_and, and_false, Nat.add_left_cancel_iff, Nat.add_eq_left, Nat.left_eq_add, Nat.one_ne_zero, Nat.reduceAdd, Nat.reduceLT, Nat.reduceLeDiff, Nat.reduceEqDiff, true_implies, false_implies, implies_true, Option.some.injEq, forall_eq', forall_eq, reduceCtorEq, brT, brF, br_s, i_10, i_01, ib_0_2, ib_1_2, tn_0, tn_1, Int32.le_refl, eq_self, rv_bN, rv_iM, RCX 0, RCG 2, RCT 4, RCT 15, RCT 25, RCS 35, RCS 49, RCH 63, RCP 67, RCB 72, RCR 77, RCM 81, RLY, lit_at hw, g_119 (by omega : 1 ≤ d), ey, p3, g1 hd]
    exact hQ
  · have ey : iB (grP b) = 0 := iB_f y
    refine ⟨σ, frM_rf, h', fun hD => cL_of (m := 4) (fun d hd Q hQ => ?_) rfl hD⟩
    refine b109_0 ?_
    simp only [↓br_pos, ↓br_neg, ↓rF_I, ↓rF_L, ↓rF_R, ↓rF_N, rO_m, rB_m, ↓rI_m, wI_m, ↓rB2_m, ↓rB3_m, wB2_m, wB3_m, ↓rL_m, wL_m, ↓rQ_m, wQ_m, ↓lI_m, pI_m, pL_m, pR_m, sI_m, sBy_m, sBo_m, sL_m, sQ_m, fst_m, true_and, and_true, tg_some, ln_some, uI_1, uI_2, uL_1, uL_2, uL_3, uQ_1, uQ_2, uQ_3, rv_i, rv_l, rv_n, rv_b0, rv_b1, RMR, ne_eq, reduceCtorEq, not_false_eq_true, Option.getD_some, if_true, if_false, and_self, false_and, and_false, Nat.add_left_cancel_iff, Nat.add_eq_left, Nat.left_eq_add, Nat.one_ne_zero, Nat.reduceAdd, Nat.reduceLT, Nat.reduceLeDiff, Nat.reduceEqDiff, true_implies, false_implies, implies_true, Option.some.injEq, forall_eq', forall_eq, reduceCtorEq, brT, brF, br_s, i_10, i_01, ib_0_2, ib_1_2, tn_0, tn_1, Int32.le_refl, eq_self, rv_bN, rv_iM, RCX 0, RCG 2, RCT 4, RCT 15, RCT 25, RCS 35, RCS 49, RCH 63, RCP 67, RCB 72, RCR 77, RCM 81, RLY, lit_at hw, g_119 (by omega : 1 ≤ d), ey]
    exact hQ
theorem c_109x {w : mT} {σ : mS} {tp n : Nat} {t : Nat → Nat} {τ ρ : Rw} {bk : Nat → Rw} {has : Nat → Bool} {im : Nat → Rw} {S aim : Nat} {F : Nat → Nat} (h : cIn w σ tp t τ ρ n bk has im) (hO : loOK τ ρ S) (ha : aim ≤ 999) (hF : loFO τ ρ S aim F) : ∃ σ' p, okB (loM τ ρ S) p ∧ vlM (loM τ ρ S) p = F 0 ∧ frM σ σ' ∧ cIn w σ' tp t τ ρ n bk has im ∧ ∀ {D : Nat} {K : Int64 → Hp → Prop}, 5 ≤ D → (wpL D 109 [.ref 0, .int (Int32.ofNat S), .int (Int32.ofNat aim)] (mW w σ) K ↔ K (Int64.ofNat (p.1 / Nat.gcd p.1 p.2)) (mW w σ')) := by
  have h' := h
  obtain ⟨hw, hS, hH, ⟨P, hP, p3, p4, hτ⟩, hρ, hv, hr, h1, htp, htb, ht⟩ := h
  have hT := isTP hw hP
  have hT' := hT
  simp only [isT] at hT'
  have ey : iB (grP (Int32.ofNat aim)) = 1 := iB_t (by show 0 ≤ (Int32.ofNat aim).toInt ∧ (Int32.ofNat aim).toInt ≤ 999; rw [on_int (by omega)]; omega)
  obtain ⟨σ', f, ⟨I, R, p, W, vp⟩, g1⟩ := s_1x ⟨hw, hP, hτ, hv, hρ, hr⟩ hO ha hF
  have ok := W.2.2
  have p2 := ok.1.1
  have o1 := ok.2.1
  have o2 := ok.2.2
  have gp := Nat.gcd_pos_of_pos_right p.1 p2
  have gl : Nat.gcd p.1 p.2 ≤ p.2 := Nat.gcd_le_right p.1 p2
  have cg : (Int64.ofNat (Nat.gcd p.1 p.2) = 0) ↔ False := iff_false_intro (fun q => absurd ((ol_inj (b := 0) (by omega) (by omega)).mp q) (by omega))
  refine ⟨uL σ' 0 13 (Int64.ofNat (p.2 / Nat.gcd p.1 p.2)), p, ok, vp, frM_tr (frM_W f (by omega)) (frM_L (by omega)), cIn_fr (cIn_W h' f (by omega)) (fun j hj => rfl) (fun a ha => rfl) (fun a ha => rfl), fun hD => cL_of (m := 4) (fun d hd Q hQ => ?_) rfl hD⟩
  have g7 := fun {K : Int64 → Hp → Prop} => g_127 (w := w) (σ := σ') (K := K) (by omega : p.1 < 35184372088832) (by omega : p.2 < 35184372088832) (by omega : 1 ≤ d)
  rw [gc1_g p2] at g7
  refine b109_0 ?_
  simp only [↓br_pos, ↓br_neg, ↓rF_I, ↓rF_L, ↓rF_R, ↓rF_N, rO_m, rB_m, ↓rI_m, wI_m, ↓rB2_m, ↓rB3_m, wB2_m, wB3_m, ↓rL_m, wL_m, ↓rQ_m, wQ_m, ↓lI_m, pI_m, pL_m, pR_m, sI_m, sBy_m, sBo_m, sL_m, sQ_m, fst_m, true_and, and_true, tg_some, ln_some, uI_1, uI_2, uL_1, uL_2, uL_3, uQ_1, uQ_2, uQ_3, rv_i, rv_l, rv_n, rv_b0, rv_b1, RMR, ne_eq, reduceCtorEq, not_false_eq_true, Option.getD_some, if_true, if_false, and_self, false_and, and_false, Nat.add_left_cancel_iff, Nat.add_eq_left, Nat.left_eq_add, Nat.one_ne_zero, Nat.reduceAdd, Nat.reduceLT, Nat.reduceLeDiff, Nat.reduceEqDiff, true_implies, false_implies, implies_true, Option.some.injEq, forall_eq', forall_eq, reduceCtorEq, brT, brF, br_s, i_10, i_01, ib_0_2, ib_1_2, tn_0, tn_1, Int32.le_refl, eq_self, rv_bN, rv_iM, RCX 0, RCG 2, RCT 4, RCT 15, RCT 25, RCS 35, RCS 49, RCH 63, RCP 67, RCB 72, RCR 77, RCM 81, RLY, lit_at hw, g_119 (by omega : 1 ≤ d), ey, p3, g1 hd, z10, W.1, W.2.1, g7, cg, ol_div (by omega : p.1 < 9223372036854775808) (by omega : Nat.gcd p.1 p.2 < 9223372036854775808), ol_div (by omega : p.2 < 9223372036854775808) (by omega : Nat.gcd p.1 p.2 < 9223372036854775808)]
  exact hQ
end
section
/-! the model's orders, exactly -/
def okX (p : Nat × Nat) : Prop := 0 < p.2 ∧ p.1 ≤ 719208072 ∧ p.2 ≤ 719928
theorem okX_m {p q : Nat × Nat} (h : okX p) (h' : okX q) : p.1 * q.2 < 9223372036854775808 := by
  have := Nat.mul_le_mul h.2.1 h'.2.2
  omega
def oX (σ : mS) (ls : Nat → Nat) (m : Nat) : Prop := σ.1 81 27 = Int32.ofNat m ∧ ∀ i, i < m → σ.1 90 i = Int32.ofNat (ls i)
theorem oX_c {σ σ' : mS} {ls : Nat → Nat} {m : Nat} (h : oX σ ls m) (f : frO σ σ') : oX σ' ls m := ⟨by rw [f.1 81 (by omega) (by omega)]; exact h.1, fun i hi => by rw [f.1 90 (by omega) (by omega)]; exact h.2 i hi⟩
/-- the best so far -/
def bS (σ : mS) (ls : Nat → Nat) (m : Nat) (B : BSt) : Prop := (B.2.1 = 0 ∧ σ.2.1 81 32 = 0) ∨ (okX (B.1, B.2.1) ∧ σ.2.1 81 31 = Int64.ofNat B.1 ∧ σ.2.1 81 32 = Int64.ofNat B.2.1 ∧ ∀ j, j < m → σ.1 92 j = Int32.ofNat (ls (B.2.2 j)))
theorem bS_I {σ : mS} {ls : Nat → Nat} {m a j : Nat} {x : Int32} {B : BSt} (h : bS σ ls m B) (ha : a ≠ 92) : bS (uI σ a j x) ls m B := h.imp id (fun q => ⟨q.1, q.2.1, q.2.2.1, fun j hj => by rw [uI_o (Ne.symm ha)]; exact q.2.2.2 j hj⟩)
theorem lp_218cx {w : mT} {m k U T Gn A0 B0 : Nat} (hw : lit w) (m6 : m ≤ 6) : ∀ (r i : Nat) (σ : mS), i + r = m → σ.1 81 27 = Int32.ofNat m → (∀ j, j < i → σ.1 92 j = σ.1 91 j) → ∃ σ', frO σ σ' ∧ σ'.1 91 = σ.1 91 ∧ σ'.2.1 = σ.2.1 ∧ (∀ j, j < m → σ'.1 92 j = σ.1 91 j) ∧ ∀ {Q : Option (Option Value) → Hp → Prop} {d : Nat}, Q (some none) (mW w σ') → Wp 218 50 [.ref 81, .int (Int32.ofNat k), .int (Int32.ofNat U), .long (Int64.ofNat T), jk, .long (Int64.ofNat Gn), jk, .long (Int64.ofNat A0), jk, .long (Int64.ofNat B0), jk, .int (Int32.ofNat i), jk, jk, jk, jk, jk, jk, jk, jk] [] (mW w σ) Q d := by
  intro r
  induction r with
  | zero =>
    intro i σ hi h27 hc
    have hi' : i = m := by omega
    subst hi'
    refine ⟨σ, frO_rf, rfl, rfl, hc, fun {Q d} hQ => ?_⟩
    refine b218_50 ?_
    simp only [↓br_pos, ↓br_neg, ↓rF_I, ↓rF_L, ↓rF_R, ↓rF_N, rO_m, rB_m, ↓rI_m, wI_m, ↓rB2_m, ↓rB3_m, wB2_m, wB3_m, ↓rL_m, wL_m, ↓rQ_m, wQ_m, ↓lI_m, pI_m, pL_m, pR_m, sI_m, sBy_m, sBo_m, sL_m, sQ_m, fst_m, true_and, and_true, tg_some, ln_some, uI_1, uI_2, uL_1, uL_2, uL_3, uQ_1, uQ_2, uQ_3, rv_i, rv_l, rv_n, rv_b0, rv_b1, RMR, ne_eq, reduceCtorEq, not_false_eq_true, Option.getD_some, if_true, if_false, and_self, false_and, and_false, Nat.add_left_cancel_iff, Nat.add_eq_left, Nat.left_eq_add, Nat.one_ne_zero, Nat.reduceAdd, Nat.reduceLT, Nat.reduceLeDiff, Nat.reduceEqDiff, true_implies, false_implies, implies_true, Option.some.injEq, forall_eq', forall_eq, reduceCtorEq, brT, brF, br_s, i_10, i_01, ib_0_2, ib_1_2, tn_0, tn_1, Int32.le_refl, eq_self, rv_bN, rv_iM, RCM 81, RLY, lit_at hw, h27, Int32.le_refl]
    exact hQ
  | succ r ih =>
    intro i σ hi h27 hc
    have l1 : (Int32.ofNat m ≤ Int32.ofNat i) ↔ False := iff_false_intro (fun q => absurd ((on_le (by omega) (by omega)).mp q) (by omega))
    have e91 : (uI σ 92 i (σ.1 91 i)).1 91 = σ.1 91 := uI_o (by omega)
    obtain ⟨σ', f, e1, e2, e3, a3⟩ := ih (i + 1) (uI σ 92 i (σ.1 91 i)) (by omega) (by rw [uI_o (by omega)]; exact h27) (fun j hj => by
      rw [e91, uI_1]
      by_cases z : j = i
      · rw [if_pos ⟨rfl, z⟩, z]
      · rw [if_neg (fun q => z q.2)]; exact hc j (by omega))
    refine ⟨σ', frO_tr (frO_I (by omega)) f, e1.trans e91, e2, fun j hj => by rw [e3 j hj, e91], fun {Q d} hQ => ?_⟩
    refine b218_50 ?_
    simp only [↓br_pos, ↓br_neg, ↓rF_I, ↓rF_L, ↓rF_R, ↓rF_N, rO_m, rB_m, ↓rI_m, wI_m, ↓rB2_m, ↓rB3_m, wB2_m, wB3_m, ↓rL_m, wL_m, ↓rQ_m, wQ_m, ↓lI_m, pI_m, pL_m, pR_m, sI_m, sBy_m, sBo_m, sL_m, sQ_m, fst_m, true_and, and_true, tg_some, ln_some, uI_1, uI_2, uL_1, uL_2, uL_3, uQ_1, uQ_2, uQ_3, rv_i, rv_l, rv_n, rv_b0, rv_b1, RMR, ne_eq, reduceCtorEq, not_false_eq_true, Option.getD_some, if_true, if_false, and_self, false_and, and_false, Nat.add_left_cancel_iff, Nat.add_eq_left, Nat.left_eq_add, Nat.one_ne_zero, Nat.reduceAdd, Nat.reduceLT, Nat.reduceLeDiff, Nat.reduceEqDiff, true_implies, false_implies, implies_true, Option.some.injEq, forall_eq', forall_eq, reduceCtorEq, brT, brF, br_s, i_10, i_01, ib_0_2, ib_1_2, tn_0, tn_1, Int32.le_refl, eq_self, rv_bN, rv_iM, RCM 81, RLY, lit_at hw, h27, l1, ix (by omega : i < 6) (by omega), on_succ]
    exact a3 hQ
theorem s_218x {w : mT} {τ ρ : Rw} {m aim : Nat} {ls : Nat → Nat} (hw : lit w) (hv : vTold τ) (hr : vRow τ ρ) (ha : aim ≤ 999) (hL : lwL τ ρ ls m) : ∀ (f k U : Nat) (p : Nat × Nat) (row : Nat → Nat) (B : BSt) (σ : mS), k + f = m → lkN U m = f → U < 2 ^ m → okX p → mTold σ τ → mRow σ 85 0 ρ → σ.1 81 26 = Int32.ofNat aim → oX σ ls m → (∀ j, j < k → σ.1 91 j = Int32.ofNat (ls (row j))) → bS σ ls m B → ∃ σ', frO σ σ' ∧ (∀ j, j < k → σ'.1 91 j = σ.1 91 j) ∧ bS σ' ls m (dfs m (lwP τ ρ ls m aim) f U p k row B) ∧ ∀ {D : Nat} {K : Hp → Prop}, f + 1 ≤ D → (wpV D 218 [.ref 81, .int (Int32.ofNat k), .int (Int32.ofNat U), .long (Int64.ofNat (sbS (lwT ρ ls) m U)), .long (Int64.ofNat (sbS (lwG τ ρ ls) m U)), .long (Int64.ofNat p.1), .long (Int64.ofNat p.2)] (mW w σ) K ↔ K (mW w σ')) := by
  have m6 := hL.1
  intro f
  induction f with
  | zero =>
    intro k U p row B σ hk hun hU hp hτ hρ hm hI hR hB
    have hk' : k = m := by omega
    subst hk'
    have c0 : (Int32.ofNat k = Int32.ofNat k) ↔ True := iff_true_intro rfl
    obtain ⟨σ', f, e1, e2, e3, a3⟩ := lp_218cx (m := k) (k := k) (U := U) (T := sbS (lwT ρ ls) k U) (Gn := sbS (lwG τ ρ ls) k U) (A0 := p.1) (B0 := p.2) hw m6 k 0 (uL (uL σ 81 31 (Int64.ofNat p.1)) 81 32 (Int64.ofNat p.2)) (by omega) hI.1 (fun j hj => absurd hj (Nat.not_lt_zero _))
    have f1 : frO σ (uL (uL σ 81 31 (Int64.ofNat p.1)) 81 32 (Int64.ofNat p.2)) := frO_tr frO_L frO_L
    have up : bS σ' ls k (p.1, p.2, row) := Or.inr ⟨hp, by rw [e2]; simp only [uL_2, Nat.reduceEqDiff, and_false, if_false, and_self, if_true], by rw [e2]; simp only [uL_2, and_self, if_true], fun j hj => by rw [e3 j hj]; exact hR j hj⟩
    have ed : dfs k (lwP τ ρ ls k aim) 0 U p k row B = updB p row B := rfl
    rw [ed]
    unfold updB
    rcases hB with ⟨z1, z2⟩ | hb
    · rw [if_pos (Or.inl z1)]
      refine ⟨σ', frO_tr f1 f, fun j hj => by rw [e1, uL_1, uL_1], up, fun hD => cV_of (m := 0) (fun d hd Q hQ => ?_) rfl hD⟩
      refine b218_0 ?_
      simp only [↓br_pos, ↓br_neg, ↓rF_I, ↓rF_L, ↓rF_R, ↓rF_N, rO_m, rB_m, ↓rI_m, wI_m, ↓rB2_m, ↓rB3_m, wB2_m, wB3_m, ↓rL_m, wL_m, ↓rQ_m, wQ_m, ↓lI_m, pI_m, pL_m, pR_m, sI_m, sBy_m, sBo_m, sL_m, sQ_m, fst_m, true_and, and_true, tg_some, ln_some, uI_1, uI_2, uL_1, uL_2, uL_3, uQ_1, uQ_2, uQ_3, rv_i, rv_l, rv_n, rv_b0, rv_b1, RMR, ne_eq, reduceCtorEq, not_false_eq_true, Option.getD_some, if_true, if_false, and_self, false_and, and_false, Nat.add_left_cancel_iff, Nat.add_eq_left, Nat.left_eq_add, Nat.one_ne_zero, Nat.reduceAdd, Nat.reduceLT, Nat.reduceLeDiff, Nat.reduceEqDiff, true_implies, false_implies, implies_true, Option.some.injEq, forall_eq', forall_eq, reduceCtorEq, brT, brF, br_s, i_10, i_01, ib_0_2, ib_1_2, tn_0, tn_1, Int32.le_refl, eq_self, rv_bN, rv_iM, RCM 81, RLY, lit_at hw, hI.1, c0, lg_z z2]
      exact a3 hQ
    · have b0 : B.2.1 ≠ 0 := by have : 0 < B.2.1 := hb.1.1; omega
      have o1 := okX_m hp hb.1
      have o2 := okX_m hb.1 hp
      have b2 : B.2.1 ≤ 719928 := hb.1.2.2
      have z' : (lg_cmp (Int64.ofNat B.2.1) (0 : Int64) = 0) ↔ False := iff_false_intro (fun q => b0 ((ol_inj (b := 0) (by omega) (by omega)).mp ((lg_cmp_eq _ _).mp q)))
      by_cases c : p.1 * B.2.1 < B.1 * p.2
      · rw [if_pos (Or.inr c)]
        have cc : (0 ≤ lg_cmp (Int64.ofNat (p.1 * B.2.1)) (Int64.ofNat (B.1 * p.2))) ↔ False := iff_false_intro (fun q => by have := (lgp o1 o2).mp q; simp only at this; omega)
        refine ⟨σ', frO_tr f1 f, fun j hj => by rw [e1, uL_1, uL_1], up, fun hD => cV_of (m := 0) (fun d hd Q hQ => ?_) rfl hD⟩
        refine b218_0 ?_
        simp only [↓br_pos, ↓br_neg, ↓rF_I, ↓rF_L, ↓rF_R, ↓rF_N, rO_m, rB_m, ↓rI_m, wI_m, ↓rB2_m, ↓rB3_m, wB2_m, wB3_m, ↓rL_m, wL_m, ↓rQ_m, wQ_m, ↓lI_m, pI_m, pL_m, pR_m, sI_m, sBy_m, sBo_m, sL_m, sQ_m, fst_m, true_and, and_true, tg_some, ln_some, uI_1, uI_2, uL_1, uL_2, uL_3, uQ_1, uQ_2, uQ_3, rv_i, rv_l, rv_n, rv_b0, rv_b1, RMR, ne_eq, reduceCtorEq, not_false_eq_true, Option.getD_some, if_true, if_false, and_self, false_and, and_false, Nat.add_left_cancel_iff, Nat.add_eq_left, Nat.left_eq_add, Nat.one_ne_zero, Nat.reduceAdd, Nat.reduceLT, Nat.reduceLeDiff, Nat.reduceEqDiff, true_implies, false_implies, implies_true, Option.some.injEq, forall_eq', forall_eq, reduceCtorEq, brT, brF, br_s, i_10, i_01, ib_0_2, ib_1_2, tn_0, tn_1, Int32.le_refl, eq_self, rv_bN, rv_iM, RCM 81, RLY, lit_at hw, hI.1, c0, hb.2.1, hb.2.2.1, z', ol_mul, cc]
        exact a3 hQ
      · rw [if_neg (fun q => q.elim b0 c)]
        have cc : (0 ≤ lg_cmp (Int64.ofNat (p.1 * B.2.1)) (Int64.ofNat (B.1 * p.2))) ↔ True := iff_true_intro ((lgp o1 o2).mpr (by simp only; omega))
        refine ⟨σ, frO_rf, fun j hj => rfl, Or.inr hb, fun hD => cV_of (m := 0) (fun d hd Q hQ => ?_) rfl hD⟩
        refine b218_0 ?_
        simp only [↓br_pos, ↓br_neg, ↓rF_I, ↓rF_L, ↓rF_R, ↓rF_N, rO_m, rB_m, ↓rI_m, wI_m, ↓rB2_m, ↓rB3_m, wB2_m, wB3_m, ↓rL_m, wL_m, ↓rQ_m, wQ_m, ↓lI_m, pI_m, pL_m, pR_m, sI_m, sBy_m, sBo_m, sL_m, sQ_m, fst_m, true_and, and_true, tg_some, ln_some, uI_1, uI_2, uL_1, uL_2, uL_3, uQ_1, uQ_2, uQ_3, rv_i, rv_l, rv_n, rv_b0, rv_b1, RMR, ne_eq, reduceCtorEq, not_false_eq_true, Option.getD_some, if_true, if_false, and_self, false_and, and_false, Nat.add_left_cancel_iff, Nat.add_eq_left, Nat.left_eq_add, Nat.one_ne_zero, Nat.reduceAdd, Nat.reduceLT, Nat.reduceLeDiff, Nat.reduceEqDiff, true_implies, false_implies, implies_true, Option.some.injEq, forall_eq', forall_eq, reduceCtorEq, brT, brF, br_s, i_10, i_01, ib_0_2, ib_1_2, tn_0, tn_1, Int32.le_refl, eq_self, rv_bN, rv_iM, RCM 81, RLY, lit_at hw, hI.1, c0, hb.2.1, hb.2.2.1, z', ol_mul, cc]
        exact hQ
  | succ f ih =>
    intro k U p row B σ0 hk hun hU hp hτ0 hρ0 hm0 hI0 hR0 hB0
    have v0 := hv.1
    have U64 := p64 m6 hU
    have ck : (Int32.ofNat k = Int32.ofNat m) ↔ False := iff_false_intro (fun q => by have := (of_inj (by omega) (by omega)).mp q; omega)
    have kk : k ≤ 5 := by omega
    rw [dfs_s]
    have lpI : ∀ (r i : Nat) (σ : mS), i + r = m → frO σ0 σ → (∀ j, j < k → σ.1 91 j = σ0.1 91 j) → bS σ ls m (fld (fun i B => dfs m (lwP τ ρ ls m aim) f (U ||| 2 ^ i) (stpP (lwP τ ρ ls m aim (U ||| 2 ^ i)) p) (k + 1) (setR row k i) B) U i B) → ∃ σ', frO σ0 σ' ∧ (∀ j, j < k → σ'.1 91 j = σ0.1 91 j) ∧ bS σ' ls m (fld (fun i B => dfs m (lwP τ ρ ls m aim) f (U ||| 2 ^ i) (stpP (lwP τ ρ ls m aim (U ||| 2 ^ i)) p) (k + 1) (setR row k i) B) U m B) ∧ ∀ {Q : Option (Option Value) → Hp → Prop} {d : Nat} {x12 x13 x15 x17 x19 : Value}, f + 1 ≤ d → ((x12 = jk ∧ x13 = jk ∧ x15 = jk ∧ x17 = jk ∧ x19 = jk) ∨ ∃ (a : Int32) (b c e : Int64) (g : Int32), x12 = .int a ∧ x13 = .long b ∧ x15 = .long c ∧ x17 = .long e ∧ x19 = .int g) → Q (some none) (mW w σ') → Wp 218 83 [.ref 81, .int (Int32.ofNat k), .int (Int32.ofNat U), .long (Int64.ofNat (sbS (lwT ρ ls) m U)), jk, .long (Int64.ofNat (sbS (lwG τ ρ ls) m U)), jk, .long (Int64.ofNat p.1), jk, .long (Int64.ofNat p.2), jk, .int (Int32.ofNat i), x12, x13, jk, x15, jk, x17, jk, x19] [] (mW w σ) Q d := by
      intro r
      induction r with
      | zero =>
        intro i σ hi hf hk1 hb
        have hi' : i = m := by omega
        subst hi'
        have hI := oX_c hI0 hf
        refine ⟨σ, hf, hk1, hb, fun {Q d x12 x13 x15 x17 x19} hd hx hQ => ?_⟩
        rcases hx with ⟨rfl, rfl, rfl, rfl, rfl⟩ | ⟨a, b, c, e, g, rfl, rfl, rfl, rfl, rfl⟩
        · refine b218_83 ?_
          simp only [↓br_pos, ↓br_neg, ↓rF_I, ↓rF_L, ↓rF_R, ↓rF_N, rO_m, rB_m, ↓rI_m, wI_m, ↓rB2_m, ↓rB3_m, wB2_m, wB3_m, ↓rL_m, wL_m, ↓rQ_m, wQ_m, ↓lI_m, pI_m, pL_m, pR_m, sI_m, sBy_m, sBo_m, sL_m, sQ_m, fst_m, true_and, and_true, tg_some, ln_some, uI_1, uI_2, uL_1, uL_2, uL_3, uQ_1, uQ_2, uQ_3, rv_i, rv_l, rv_n, rv_b0, rv_b1, RMR, ne_eq, reduceCtorEq, not_false_eq_true, Option.getD_some, if_true, if_false, and_self, false_and, and_false, Nat.add_left_cancel_iff, Nat.add_eq_left, Nat.left_eq_add, Nat.one_ne_zero, Nat.reduceAdd, Nat.reduceLT, Nat.reduceLeDiff, Nat.reduceEqDiff, true_implies, false_implies, implies_true, Option.some.injEq, forall_eq', forall_eq, reduceCtorEq, brT, brF, br_s, i_10, i_01, ib_0_2, ib_1_2, tn_0, tn_1, Int32.le_refl, eq_self, rv_bN, rv_iM, RCM 81, RLY, lit_at hw, hI.1, Int32.le_refl]
          exact hQ
        · refine b218_83a ?_
          simp only [↓br_pos, ↓br_neg, ↓rF_I, ↓rF_L, ↓rF_R, ↓rF_N, rO_m, rB_m, ↓rI_m, wI_m, ↓rB2_m, ↓rB3_m, wB2_m, wB3_m, ↓rL_m, wL_m, ↓rQ_m, wQ_m, ↓lI_m, pI_m, pL_m, pR_m, sI_m, sBy_m, sBo_m, sL_m, sQ_m, fst_m, true_and, and_true, tg_some, ln_some, uI_1, uI_2, uL_1, uL_2, uL_3, uQ_1, uQ_2, uQ_3, rv_i, rv_l, rv_n, rv_b0, rv_b1, RMR, ne_eq, reduceCtorEq, not_false_eq_true, Option.getD_some, if_true, if_false, and_self, false_and, and_false, Nat.add_left_cancel_iff, Nat.add_eq_left, Nat.left_eq_add, Nat.one_ne_zero, Nat.reduceAdd, Nat.reduceLT, Nat.reduceLeDiff, Nat.reduceEqDiff, true_implies, false_implies, implies_true, Option.some.injEq, forall_eq', forall_eq, reduceCtorEq, brT, brF, br_s, i_10, i_01, ib_0_2, ib_1_2, tn_0, tn_1, Int32.le_refl, eq_self, rv_bN, rv_iM, RCM 81, RLY, lit_at hw, hI.1, Int32.le_refl]
          exact hQ
      | succ r ihr =>
        intro i σ hi hf hk1 hb
        have hI := oX_c hI0 hf
        have hτ := mT_c hτ0 (hf.1 83 (by omega) (by omega))
        have hρ := mR_c hρ0 (hf.1 85 (by omega) (by omega))
        have hm : σ.1 81 26 = Int32.ofNat aim := by rw [hf.1 81 (by omega) (by omega)]; exact hm0
        have l1 : (Int32.ofNat m ≤ Int32.ofNat i) ↔ False := iff_false_intro (fun q => absurd ((on_le (by omega) (by omega)).mp q) (by omega))
        by_cases tb : U.testBit i = false
        · have cb := iff_true_intro ((tb64 U64 (by omega : i < 6)).mpr tb)
          have el := hI.2 i (by omega)
          obtain ⟨hl, hpos⟩ := hL.2 i (by omega)
          have lf := left_lt hr hl
          have gr := (hv.2.2.2.2.1 _ hl).2.2
          have i12 := i64_of (a := ρ (12 + ls i)) (by omega)
          have i16 := i64_of (a := τ (16 + ls i)) (by omega)
          have ia := i64_of (a := aim) (by omega)
          obtain ⟨o1, o2⟩ := orb U64 (by omega : i < 6)
          have hU' := or_lt hU (by omega : i < m)
          have eT : sbS (lwT ρ ls) m U + ρ (12 + ls i) = sbS (lwT ρ ls) m (U ||| 2 ^ i) := (sbS_or (by omega) tb).symm
          have eG : sbS (lwG τ ρ ls) m U + ρ (12 + ls i) * τ (16 + ls i) = sbS (lwG τ ρ ls) m (U ||| 2 ^ i) := (sbS_or (by omega) tb).symm
          have tT := lwT_b (S := U ||| 2 ^ i) hr hL (Nat.le_refl m)
          have tG := lwG_b (S := U ||| 2 ^ i) hv hr hL (Nat.le_refl m)
          have am : aim * sbS (lwT ρ ls) m (U ||| 2 ^ i) ≤ 999 * 719928 := Nat.mul_le_mul ha (by omega)
          have lab := labs (a := sbS (lwG τ ρ ls) m (U ||| 2 ^ i)) (b := aim * sbS (lwT ρ ls) m (U ||| 2 ^ i)) (by omega) (by omega)
          have okq := lwP_ok (S := U ||| 2 ^ i) (aim := aim) hv hr hL ha or_ne hU'
          have q1 : (lwP τ ρ ls m aim (U ||| 2 ^ i)).1 = dist (sbS (lwG τ ρ ls) m (U ||| 2 ^ i)) (aim * sbS (lwT ρ ls) m (U ||| 2 ^ i)) := rfl
          have q2 : (lwP τ ρ ls m aim (U ||| 2 ^ i)).2 = sbS (lwT ρ ls) m (U ||| 2 ^ i) := rfl
          have okx : okX (lwP τ ρ ls m aim (U ||| 2 ^ i)) := ⟨okq.1.1, okq.2.1, okq.2.2⟩
          have lk := lkN_or tb m
          rw [if_pos (by omega : i < m)] at lk
          have f1 : frO σ (uI σ 91 k (Int32.ofNat (ls i))) := frO_I (by omega)
          have oks : okX (stpP (lwP τ ρ ls m aim (U ||| 2 ^ i)) p) := by unfold stpP; split; exact okx; exact hp
          obtain ⟨σ1, f2, r2, b2, g2⟩ := ih (k + 1) (U ||| 2 ^ i) (stpP (lwP τ ρ ls m aim (U ||| 2 ^ i)) p) (setR row k i) _ (uI σ 91 k (Int32.ofNat (ls i))) (by omega) (by omega) hU' oks (mT_c hτ (uI_o (by omega))) (mR_c hρ (uI_o (by omega))) (by rw [uI_1, if_neg (by omega)]; exact hm) (oX_c hI f1) (fun j hj => by
            rw [uI_1]
            show _ = Int32.ofNat (ls (if j = k then i else row j))
            by_cases z : j = k
            · rw [if_pos ⟨rfl, z⟩, if_pos z]
            · rw [if_neg (fun q => z q.2), if_neg z, hk1 j (by omega)]; exact hR0 j (by omega)) (bS_I hb (by omega))
          obtain ⟨σ', f3, r3, b3, a3⟩ := ihr (i + 1) σ1 (by omega) (frO_tr hf (frO_tr f1 f2)) (fun j hj => by
            rw [r2 j (by omega), uI_1, if_neg (by omega)]; exact hk1 j hj) (by
            rw [fld_s, if_neg (by rw [tb]; exact Bool.false_ne_true)]; exact b2)
          have m1 := okX_m okx hp
          have m2 := okX_m hp okx
          rw [q1] at m1
          rw [q2] at m2
          unfold stpP at g2
          rw [q1, q2] at g2
          refine ⟨σ', f3, r3, b3, fun {Q d x12 x13 x15 x17 x19} hd hx hQ => ?_⟩
          by_cases c : p.1 * sbS (lwT ρ ls) m (U ||| 2 ^ i) < dist (sbS (lwG τ ρ ls) m (U ||| 2 ^ i)) (aim * sbS (lwT ρ ls) m (U ||| 2 ^ i)) * p.2
          · have cc : (lg_cmp (Int64.ofNat (dist (sbS (lwG τ ρ ls) m (U ||| 2 ^ i)) (aim * sbS (lwT ρ ls) m (U ||| 2 ^ i)) * p.2)) (Int64.ofNat (p.1 * sbS (lwT ρ ls) m (U ||| 2 ^ i))) ≤ 0) ↔ False := iff_false_intro (fun q => by have := (lgq m1 m2).mp q; omega)
            simp only [if_pos c, q1, q2] at g2
            have g2' := fun {K : Hp → Prop} => g2 (D := d) (K := K) hd
            rcases hx with ⟨rfl, rfl, rfl, rfl, rfl⟩ | ⟨a, b, c, e, g, rfl, rfl, rfl, rfl, rfl⟩
            · refine b218_83 ?_
              simp only [↓br_pos, ↓br_neg, ↓rF_I, ↓rF_L, ↓rF_R, ↓rF_N, rO_m, rB_m, ↓rI_m, wI_m, ↓rB2_m, ↓rB3_m, wB2_m, wB3_m, ↓rL_m, wL_m, ↓rQ_m, wQ_m, ↓lI_m, pI_m, pL_m, pR_m, sI_m, sBy_m, sBo_m, sL_m, sQ_m, fst_m, true_and, and_true, tg_some, ln_some, uI_1, uI_2, uL_1, uL_2, uL_3, uQ_1, uQ_2, uQ_3, rv_i, rv_l, rv_n, rv_b0, rv_b1, RMR, ne_eq, reduceCtorEq, not_false_eq_true, Option.getD_some, if_true, if_false, and_self, false_and, and_false, Nat.add_left_cancel_iff, Nat.add_eq_left, Nat.left_eq_add, Nat.one_ne_zero, Nat.reduceAdd, Nat.reduceLT, Nat.reduceLeDiff, Nat.reduceEqDiff, true_implies, false_implies, implies_true, Option.some.injEq, forall_eq', forall_eq, reduceCtorEq, brT, brF, br_s, i_10, i_01, ib_0_2, ib_1_2, tn_0, tn_1, Int32.le_refl, eq_self, rv_bN, rv_iM, RCM 81, RLY, lit_at hw, ad_2, ad_4, ad_6, ad_8, ad_10, ad_12, ad_16, ad_24, ad_27, ad_28, ad_31, ad_35, ad_43, ad_51, ad_107, ad_131, ad_311, ml_3, ml_6, ml_7, ml_60, ml_100, ml_2471, mq_12, ar_2, ar_3, ar_4, ar_5, ar_6, of_add, of_mul, on_succ, hI.1, l1, cb, ix (by omega : i < 6) (by omega), el, ix (by omega : k < 6) (by omega), mr hρ (by omega : 12 + ls i < 2471), mt hτ (by omega : 16 + ls i < 79), i12, i16, ol_mul, ol_add, eT, eG]
              refine b218_161 ?_
              simp only [↓br_pos, ↓br_neg, ↓rF_I, ↓rF_L, ↓rF_R, ↓rF_N, rO_m, rB_m, ↓rI_m, wI_m, ↓rB2_m, ↓rB3_m, wB2_m, wB3_m, ↓rL_m, wL_m, ↓rQ_m, wQ_m, ↓lI_m, pI_m, pL_m, pR_m, sI_m, sBy_m, sBo_m, sL_m, sQ_m, fst_m, true_and, and_true, tg_some, ln_some, uI_1, uI_2, uL_1, uL_2, uL_3, uQ_1, uQ_2, uQ_3, rv_i, rv_l, rv_n, rv_b0, rv_b1, RMR, ne_eq, reduceCtorEq, not_false_eq_true, Option.getD_some, if_true, if_false, and_self, false_and, and_false, Nat.add_left_cancel_iff, Nat.add_eq_left, Nat.left_eq_add, Nat.one_ne_zero, Nat.reduceAdd, Nat.reduceLT, Nat.reduceLeDiff, Nat.reduceEqDiff, true_implies, false_implies, implies_true, Option.some.injEq, forall_eq', forall_eq, reduceCtorEq, brT, brF, br_s, i_10, i_01, ib_0_2, ib_1_2, tn_0, tn_1, Int32.le_refl, eq_self, rv_bN, rv_iM, RCM 81, RLY, lit_at hw, hm, ia, ol_mul, lab, cc, z00, z10, on_succ, o1, g2']
              exact b218_242 (a3 hd (Or.inr ⟨_, _, _, _, _, rfl, rfl, rfl, rfl, rfl⟩) hQ)
            · refine b218_83a ?_
              simp only [↓br_pos, ↓br_neg, ↓rF_I, ↓rF_L, ↓rF_R, ↓rF_N, rO_m, rB_m, ↓rI_m, wI_m, ↓rB2_m, ↓rB3_m, wB2_m, wB3_m, ↓rL_m, wL_m, ↓rQ_m, wQ_m, ↓lI_m, pI_m, pL_m, pR_m, sI_m, sBy_m, sBo_m, sL_m, sQ_m, fst_m, true_and, and_true, tg_some, ln_some, uI_1, uI_2, uL_1, uL_2, uL_3, uQ_1, uQ_2, uQ_3, rv_i, rv_l, rv_n, rv_b0, rv_b1, RMR, ne_eq, reduceCtorEq, not_false_eq_true, Option.getD_some, if_true, if_false, and_self, false_and, and_false, Nat.add_left_cancel_iff, Nat.add_eq_left, Nat.left_eq_add, Nat.one_ne_zero, Nat.reduceAdd, Nat.reduceLT, Nat.reduceLeDiff, Nat.reduceEqDiff, true_implies, false_implies, implies_true, Option.some.injEq, forall_eq', forall_eq, reduceCtorEq, brT, brF, br_s, i_10, i_01, ib_0_2, ib_1_2, tn_0, tn_1, Int32.le_refl, eq_self, rv_bN, rv_iM, RCM 81, RLY, lit_at hw, ad_2, ad_4, ad_6, ad_8, ad_10, ad_12, ad_16, ad_24, ad_27, ad_28, ad_31, ad_35, ad_43, ad_51, ad_107, ad_131, ad_311, ml_3, ml_6, ml_7, ml_60, ml_100, ml_2471, mq_12, ar_2, ar_3, ar_4, ar_5, ar_6, of_add, of_mul, on_succ, hI.1, l1, cb, ix (by omega : i < 6) (by omega), el, ix (by omega : k < 6) (by omega), mr hρ (by omega : 12 + ls i < 2471), mt hτ (by omega : 16 + ls i < 79), i12, i16, ol_mul, ol_add, eT, eG]
              refine b218_161a ?_
              simp only [↓br_pos, ↓br_neg, ↓rF_I, ↓rF_L, ↓rF_R, ↓rF_N, rO_m, rB_m, ↓rI_m, wI_m, ↓rB2_m, ↓rB3_m, wB2_m, wB3_m, ↓rL_m, wL_m, ↓rQ_m, wQ_m, ↓lI_m, pI_m, pL_m, pR_m, sI_m, sBy_m, sBo_m, sL_m, sQ_m, fst_m, true_and, and_true, tg_some, ln_some, uI_1, uI_2, uL_1, uL_2, uL_3, uQ_1, uQ_2, uQ_3, rv_i, rv_l, rv_n, rv_b0, rv_b1, RMR, ne_eq, reduceCtorEq, not_false_eq_true, Option.getD_some, if_true, if_false, and_self, false_and, and_false, Nat.add_left_cancel_iff, Nat.add_eq_left, Nat.left_eq_add, Nat.one_ne_zero, Nat.reduceAdd, Nat.reduceLT, Nat.reduceLeDiff, Nat.reduceEqDiff, true_implies, false_implies, implies_true, Option.some.injEq, forall_eq', forall_eq, reduceCtorEq, brT, brF, br_s, i_10, i_01, ib_0_2, ib_1_2, tn_0, tn_1, Int32.le_refl, eq_self, rv_bN, rv_iM, RCM 81, RLY, lit_at hw, hm, ia, ol_mul, lab, cc, z00, z10, on_succ, o1, g2']
              exact b218_242 (a3 hd (Or.inr ⟨_, _, _, _, _, rfl, rfl, rfl, rfl, rfl⟩) hQ)
          · have cc : (lg_cmp (Int64.ofNat (dist (sbS (lwG τ ρ ls) m (U ||| 2 ^ i)) (aim * sbS (lwT ρ ls) m (U ||| 2 ^ i)) * p.2)) (Int64.ofNat (p.1 * sbS (lwT ρ ls) m (U ||| 2 ^ i))) ≤ 0) ↔ True := iff_true_intro ((lgq m1 m2).mpr (by omega))
            simp only [if_neg c] at g2
            have g2' := fun {K : Hp → Prop} => g2 (D := d) (K := K) hd
            rcases hx with ⟨rfl, rfl, rfl, rfl, rfl⟩ | ⟨a, b, c, e, g, rfl, rfl, rfl, rfl, rfl⟩
            · refine b218_83 ?_
              simp only [↓br_pos, ↓br_neg, ↓rF_I, ↓rF_L, ↓rF_R, ↓rF_N, rO_m, rB_m, ↓rI_m, wI_m, ↓rB2_m, ↓rB3_m, wB2_m, wB3_m, ↓rL_m, wL_m, ↓rQ_m, wQ_m, ↓lI_m, pI_m, pL_m, pR_m, sI_m, sBy_m, sBo_m, sL_m, sQ_m, fst_m, true_and, and_true, tg_some, ln_some, uI_1, uI_2, uL_1, uL_2, uL_3, uQ_1, uQ_2, uQ_3, rv_i, rv_l, rv_n, rv_b0, rv_b1, RMR, ne_eq, reduceCtorEq, not_false_eq_true, Option.getD_some, if_true, if_false, and_self, false_and, and_false, Nat.add_left_cancel_iff, Nat.add_eq_left, Nat.left_eq_add, Nat.one_ne_zero, Nat.reduceAdd, Nat.reduceLT, Nat.reduceLeDiff, Nat.reduceEqDiff, true_implies, false_implies, implies_true, Option.some.injEq, forall_eq', forall_eq, reduceCtorEq, brT, brF, br_s, i_10, i_01, ib_0_2, ib_1_2, tn_0, tn_1, Int32.le_refl, eq_self, rv_bN, rv_iM, RCM 81, RLY, lit_at hw, ad_2, ad_4, ad_6, ad_8, ad_10, ad_12, ad_16, ad_24, ad_27, ad_28, ad_31, ad_35, ad_43, ad_51, ad_107, ad_131, ad_311, ml_3, ml_6, ml_7, ml_60, ml_100, ml_2471, mq_12, ar_2, ar_3, ar_4, ar_5, ar_6, of_add, of_mul, on_succ, hI.1, l1, cb, ix (by omega : i < 6) (by omega), el, ix (by omega : k < 6) (by omega), mr hρ (by omega : 12 + ls i < 2471), mt hτ (by omega : 16 + ls i < 79), i12, i16, ol_mul, ol_add, eT, eG]
              refine b218_161 ?_
              simp only [↓br_pos, ↓br_neg, ↓rF_I, ↓rF_L, ↓rF_R, ↓rF_N, rO_m, rB_m, ↓rI_m, wI_m, ↓rB2_m, ↓rB3_m, wB2_m, wB3_m, ↓rL_m, wL_m, ↓rQ_m, wQ_m, ↓lI_m, pI_m, pL_m, pR_m, sI_m, sBy_m, sBo_m, sL_m, sQ_m, fst_m, true_and, and_true, tg_some, ln_some, uI_1, uI_2, uL_1, uL_2, uL_3, uQ_1, uQ_2, uQ_3, rv_i, rv_l, rv_n, rv_b0, rv_b1, RMR, ne_eq, reduceCtorEq, not_false_eq_true, Option.getD_some, if_true, if_false, and_self, false_and, and_false, Nat.add_left_cancel_iff, Nat.add_eq_left, Nat.left_eq_add, Nat.one_ne_zero, Nat.reduceAdd, Nat.reduceLT, Nat.reduceLeDiff, Nat.reduceEqDiff, true_implies, false_implies, implies_true, Option.some.injEq, forall_eq', forall_eq, reduceCtorEq, brT, brF, br_s, i_10, i_01, ib_0_2, ib_1_2, tn_0, tn_1, Int32.le_refl, eq_self, rv_bN, rv_iM, RCM 81, RLY, lit_at hw, hm, ia, ol_mul, lab, cc, z00, z10, on_succ, o1, g2']
              exact b218_242 (a3 hd (Or.inr ⟨_, _, _, _, _, rfl, rfl, rfl, rfl, rfl⟩) hQ)
            · refine b218_83a ?_
              simp only [↓br_pos, ↓br_neg, ↓rF_I, ↓rF_L, ↓rF_R, ↓rF_N, rO_m, rB_m, ↓rI_m, wI_m, ↓rB2_m, ↓rB3_m, wB2_m, wB3_m, ↓rL_m, wL_m, ↓rQ_m, wQ_m, ↓lI_m, pI_m, pL_m, pR_m, sI_m, sBy_m, sBo_m, sL_m, sQ_m, fst_m, true_and, and_true, tg_some, ln_some, uI_1, uI_2, uL_1, uL_2, uL_3, uQ_1, uQ_2, uQ_3, rv_i, rv_l, rv_n, rv_b0, rv_b1, RMR, ne_eq, reduceCtorEq, not_false_eq_true, Option.getD_some, if_true, if_false, and_self, false_and, and_false, Nat.add_left_cancel_iff, Nat.add_eq_left, Nat.left_eq_add, Nat.one_ne_zero, Nat.reduceAdd, Nat.reduceLT, Nat.reduceLeDiff, Nat.reduceEqDiff, true_implies, false_implies, implies_true, Option.some.injEq, forall_eq', forall_eq, reduceCtorEq, brT, brF, br_s, i_10, i_01, ib_0_2, ib_1_2, tn_0, tn_1, Int32.le_refl, eq_self, rv_bN, rv_iM, RCM 81, RLY, lit_at hw, ad_2, ad_4, ad_6, ad_8, ad_10, ad_12, ad_16, ad_24, ad_27, ad_28, ad_31, ad_35, ad_43, ad_51, ad_107, ad_131, ad_311, ml_3, ml_6, ml_7, ml_60, ml_100, ml_2471, mq_12, ar_2, ar_3, ar_4, ar_5, ar_6, of_add, of_mul, on_succ, hI.1, l1, cb, ix (by omega : i < 6) (by omega), el, ix (by omega : k < 6) (by omega), mr hρ (by omega : 12 + ls i < 2471), mt hτ (by omega : 16 + ls i < 79), i12, i16, ol_mul, ol_add, eT, eG]
              refine b218_161a ?_
              simp only [↓br_pos, ↓br_neg, ↓rF_I, ↓rF_L, ↓rF_R, ↓rF_N, rO_m, rB_m, ↓rI_m, wI_m, ↓rB2_m, ↓rB3_m, wB2_m, wB3_m, ↓rL_m, wL_m, ↓rQ_m, wQ_m, ↓lI_m, pI_m, pL_m, pR_m, sI_m, sBy_m, sBo_m, sL_m, sQ_m, fst_m, true_and, and_true, tg_some, ln_some, uI_1, uI_2, uL_1, uL_2, uL_3, uQ_1, uQ_2, uQ_3, rv_i, rv_l, rv_n, rv_b0, rv_b1, RMR, ne_eq, reduceCtorEq, not_false_eq_true, Option.getD_some, if_true, if_false, and_self, false_and, and_false, Nat.add_left_cancel_iff, Nat.add_eq_left, Nat.left_eq_add, Nat.one_ne_zero, Nat.reduceAdd, Nat.reduceLT, Nat.reduceLeDiff, Nat.reduceEqDiff, true_implies, false_implies, implies_true, Option.some.injEq, forall_eq', forall_eq, reduceCtorEq, brT, brF, br_s, i_10, i_01, ib_0_2, ib_1_2, tn_0, tn_1, Int32.le_refl, eq_self, rv_bN, rv_iM, RCM 81, RLY, lit_at hw, hm, ia, ol_mul, lab, cc, z00, z10, on_succ, o1, g2']
              exact b218_242 (a3 hd (Or.inr ⟨_, _, _, _, _, rfl, rfl, rfl, rfl, rfl⟩) hQ)
        · have tt : U.testBit i = true := by
            cases y : U.testBit i with
            | true => rfl
            | false => exact absurd y tb
          have cb := iff_false_intro (fun q => tb ((tb64 U64 (by omega : i < 6)).mp q))
          obtain ⟨σ', f3, r3, b3, a3⟩ := ihr (i + 1) σ (by omega) hf hk1 (by rw [fld_s, if_pos tt]; exact hb)
          refine ⟨σ', f3, r3, b3, fun {Q d x12 x13 x15 x17 x19} hd hx hQ => ?_⟩
          rcases hx with ⟨rfl, rfl, rfl, rfl, rfl⟩ | ⟨a, b, c, e, g, rfl, rfl, rfl, rfl, rfl⟩
          · refine b218_83 ?_
            simp only [↓br_pos, ↓br_neg, ↓rF_I, ↓rF_L, ↓rF_R, ↓rF_N, rO_m, rB_m, ↓rI_m, wI_m, ↓rB2_m, ↓rB3_m, wB2_m, wB3_m, ↓rL_m, wL_m, ↓rQ_m, wQ_m, ↓lI_m, pI_m, pL_m, pR_m, sI_m, sBy_m, sBo_m, sL_m, sQ_m, fst_m, true_and, and_true, tg_some, ln_some, uI_1, uI_2, uL_1, uL_2, uL_3, uQ_1, uQ_2, uQ_3, rv_i, rv_l, rv_n, rv_b0, rv_b1, RMR, ne_eq, reduceCtorEq, not_false_eq_true, Option.getD_some, if_true, if_false, and_self, false_and, and_false, Nat.add_left_cancel_iff, Nat.add_eq_left, Nat.left_eq_add, Nat.one_ne_zero, Nat.reduceAdd, Nat.reduceLT, Nat.reduceLeDiff, Nat.reduceEqDiff, true_implies, false_implies, implies_true, Option.some.injEq, forall_eq', forall_eq, reduceCtorEq, brT, brF, br_s, i_10, i_01, ib_0_2, ib_1_2, tn_0, tn_1, Int32.le_refl, eq_self, rv_bN, rv_iM, RCM 81, RLY, lit_at hw, hI.1, l1, cb, on_succ]
            exact a3 hd (Or.inl ⟨rfl, rfl, rfl, rfl, rfl⟩) hQ
          · refine b218_83a ?_
            simp only [↓br_pos, ↓br_neg, ↓rF_I, ↓rF_L, ↓rF_R, ↓rF_N, rO_m, rB_m, ↓rI_m, wI_m, ↓rB2_m, ↓rB3_m, wB2_m, wB3_m, ↓rL_m, wL_m, ↓rQ_m, wQ_m, ↓lI_m, pI_m, pL_m, pR_m, sI_m, sBy_m, sBo_m, sL_m, sQ_m, fst_m, true_and, and_true, tg_some, ln_some, uI_1, uI_2, uL_1, uL_2, uL_3, uQ_1, uQ_2, uQ_3, rv_i, rv_l, rv_n, rv_b0, rv_b1, RMR, ne_eq, reduceCtorEq, not_false_eq_true, Option.getD_some, if_true, if_false, and_self, false_and, and_false, Nat.add_left_cancel_iff, Nat.add_eq_left, Nat.left_eq_add, Nat.one_ne_zero, Nat.reduceAdd, Nat.reduceLT, Nat.reduceLeDiff, Nat.reduceEqDiff, true_implies, false_implies, implies_true, Option.some.injEq, forall_eq', forall_eq, reduceCtorEq, brT, brF, br_s, i_10, i_01, ib_0_2, ib_1_2, tn_0, tn_1, Int32.le_refl, eq_self, rv_bN, rv_iM, RCM 81, RLY, lit_at hw, hI.1, l1, cb, on_succ]
            exact b218_242 (a3 hd (Or.inr ⟨_, _, _, _, _, rfl, rfl, rfl, rfl, rfl⟩) hQ)
    obtain ⟨σ', f3, r3, b3, a3⟩ := lpI m 0 σ0 (by omega) frO_rf (fun j hj => rfl) hB0
    refine ⟨σ', f3, r3, b3, fun hD => cV_of (m := f + 1) (fun d hd Q hQ => ?_) rfl hD⟩
    refine b218_0 ?_
    simp only [↓br_pos, ↓br_neg, ↓rF_I, ↓rF_L, ↓rF_R, ↓rF_N, rO_m, rB_m, ↓rI_m, wI_m, ↓rB2_m, ↓rB3_m, wB2_m, wB3_m, ↓rL_m, wL_m, ↓rQ_m, wQ_m, ↓lI_m, pI_m, pL_m, pR_m, sI_m, sBy_m, sBo_m, sL_m, sQ_m, fst_m, true_and, and_true, tg_some, ln_some, uI_1, uI_2, uL_1, uL_2, uL_3, uQ_1, uQ_2, uQ_3, rv_i, rv_l, rv_n, rv_b0, rv_b1, RMR, ne_eq, reduceCtorEq, not_false_eq_true, Option.getD_some, if_true, if_false, and_self, false_and, and_false, Nat.add_left_cancel_iff, Nat.add_eq_left, Nat.left_eq_add, Nat.one_ne_zero, Nat.reduceAdd, Nat.reduceLT, Nat.reduceLeDiff, Nat.reduceEqDiff, true_implies, false_implies, implies_true, Option.some.injEq, forall_eq', forall_eq, reduceCtorEq, brT, brF, br_s, i_10, i_01, ib_0_2, ib_1_2, tn_0, tn_1, Int32.le_refl, eq_self, rv_bN, rv_iM, RCM 81, RLY, lit_at hw, hI0.1, ck]
    exact a3 hd (Or.inl ⟨rfl, rfl, rfl, rfl, rfl⟩) hQ
end
section
/-! the model: layOrder, worst, exactly -/
def mdF (τ ρ : Rw) (S : Nat) (F : Nat → Nat) (σ : mS) : Prop := σ.1 81 27 = Int32.ofNat (lkL ρ S (τ 0)).1 ∧ (∀ j, j < (lkL ρ S (τ 0)).1 → σ.1 92 j = Int32.ofNat ((lkL ρ S (τ 0)).2 ((grd (lkL ρ S (τ 0)).1 F (F 0) (lkL ρ S (τ 0)).1 0 0 (fun _ => 0)) j))) ∧ ∃ p, okX p ∧ okP (loM τ ρ S) p ∧ vlM (loM τ ρ S) p = F 0 ∧ σ.2.1 81 31 = Int64.ofNat p.1 ∧ σ.2.1 81 32 = Int64.ofNat p.2
theorem vin_26 {c : Nat} (h : c < 2147483648) : vin (Int32.toInt64 (Int32.ofNat c)) (2 : Int64) (6 : Int64) = if 2 ≤ c ∧ c ≤ 6 then 1 else 0 := by
  unfold vin
  rw [i64_of h, ol_int (by omega), show (2 : Int64).toInt = 2 by decide, show (6 : Int64).toInt = 6 by decide]
  by_cases z : 2 ≤ c ∧ c ≤ 6
  · rw [if_pos z, if_pos (by omega)]
  · rw [if_neg z, if_neg (by omega)]
theorem lp_219x {w : mT} {τ ρ : Rw} {aim S : Nat} {F : Nat → Nat} {σ0 : mS} (hw : lit w) (hτ0 : mTold σ0 τ) (hρ0 : mRow σ0 85 0 ρ) (hv : vTold τ) (hr : vRow τ ρ) (ha : aim ≤ 999) (hS : S < 2 ^ τ 0) (hF : loFO τ ρ S aim F) : ∀ (r l : Nat) (σ : mS), l + r = τ 0 → frZ σ0 σ → oX σ (lkL ρ S l).2 (lkL ρ S l).1 → ∃ σ', frZ σ0 σ' ∧ ((2 ≤ sbS (fun _ => 1) (τ 0) S ∧ sbS (fun _ => 1) (τ 0) S ≤ 6 ∧ (lkL ρ S (τ 0)).1 ≠ 0) → mdF τ ρ S F σ') ∧ ∀ {Q : Option (Option Value) → Hp → Prop} {d : Nat}, 7 ≤ d → Q (some (some (.int (if 2 ≤ sbS (fun _ => 1) (τ 0) S ∧ sbS (fun _ => 1) (τ 0) S ≤ 6 ∧ (lkL ρ S (τ 0)).1 ≠ 0 then 1 else 0)))) (mW w σ') → Wp 219 39 [.ref 81, .int (Int32.ofNat S), .int (Int32.ofNat aim), .int (Int32.ofNat (sbS (fun _ => 1) l S)), .int (Int32.ofNat l)] [] (mW w σ) Q d := by
  have v0 := hv.1
  have p12 : 2 ^ τ 0 ≤ 2 ^ 12 := Nat.pow_le_pow_right (by omega) v0
  intro r
  induction r with
  | zero =>
    intro l σ hl hf hI
    have hτ := mT_c hτ0 (hf.1 83 (by omega) (by omega))
    have hρ := mR_c hρ0 (hf.1 85 (by omega) (by omega))
    have hl' : l = τ 0 := by omega
    subst hl'
    have hL := lkL_ok (τ := τ) (ρ := ρ) (S := S) (τ 0) (Nat.le_refl _)
    have n6 := hL.1
    have lb := sb_le (S := S) (τ 0)
    have vb := vin_26 (c := sbS (fun _ => 1) (τ 0) S) (by omega)
    by_cases c1 : 2 ≤ sbS (fun _ => 1) (τ 0) S ∧ sbS (fun _ => 1) (τ 0) S ≤ 6
    · rw [if_pos c1] at vb
      by_cases c2 : (lkL ρ S (τ 0)).1 = 0
      · have c : (Int32.ofNat (lkL ρ S (τ 0)).1 = 0) ↔ True := iff_true_intro (by rw [c2]; rfl)
        refine ⟨σ, hf, fun q => absurd c2 q.2.2, fun {Q d} hd hQ => ?_⟩
        rw [if_neg (fun q => q.2.2 c2)] at hQ
        have hd1 : 1 ≤ d := by omega
        refine b219_39 ?_
        simp only [↓br_pos, ↓br_neg, ↓rF_I, ↓rF_L, ↓rF_R, ↓rF_N, rO_m, rB_m, ↓rI_m, wI_m, ↓rB2_m, ↓rB3_m, wB2_m, wB3_m, ↓rL_m, wL_m, ↓rQ_m, wQ_m, ↓lI_m, pI_m, pL_m, pR_m, sI_m, sBy_m, sBo_m, sL_m, sQ_m, fst_m, true_and, and_true, tg_some, ln_some, uI_1, uI_2, uL_1, uL_2, uL_3, uQ_1, uQ_2, uQ_3, rv_i, rv_l, rv_n, rv_b0, rv_b1, RMR, ne_eq, reduceCtorEq, not_false_eq_true, Option.getD_some, if_true, if_false, and_self, false_and, and_false, Nat.add_left_cancel_iff, Nat.add_eq_left, Nat.left_eq_add, Nat.one_ne_zero, Nat.reduceAdd, Nat.reduceLT, Nat.reduceLeDiff, Nat.reduceEqDiff, true_implies, false_implies, implies_true, Option.some.injEq, forall_eq', forall_eq, reduceCtorEq, brT, brF, br_s, i_10, i_01, ib_0_2, ib_1_2, tn_0, tn_1, Int32.le_refl, eq_self, rv_bN, rv_iM, RCM 81, RLY, lit_at hw, mt_0 hτ, Int32.le_refl, g_129 hd1, vb, z10, hI.1, c]
        exact hQ
      · have c : (Int32.ofNat (lkL ρ S (τ 0)).1 = 0) ↔ False := iff_false_intro (fun q => c2 ((of_eq0 (by omega)).mp q))
        have f1 : frZ σ (uL (uI σ 81 26 (Int32.ofNat aim)) 81 32 0) := frZ_tr (frZ_0 (by omega)) (frZ_L (by omega))
        have I1 : oX (uL (uI σ 81 26 (Int32.ofNat aim)) 81 32 0) (lkL ρ S (τ 0)).2 (lkL ρ S (τ 0)).1 := ⟨by rw [uL_1, uI_1, if_neg (by omega)]; exact hI.1, fun i hi => by rw [uL_1, uI_1, if_neg (by omega)]; exact hI.2 i hi⟩
        obtain ⟨σ', f2, r2, b2, g2⟩ := s_218x (aim := aim) hw hv hr ha hL (lkL ρ S (τ 0)).1 0 0 (0, 1) (fun _ => 0) (0, 0, fun _ => 0) (uL (uI σ 81 26 (Int32.ofNat aim)) 81 32 0) (by omega) (lkN_z _) (Nat.pow_pos (by omega)) ⟨by show 0 < 1; omega, by show 0 ≤ _; omega, by show 1 ≤ _; omega⟩ (mT_c hτ (f1.1 83 (by omega) (by omega))) (mR_c hρ (f1.1 85 (by omega) (by omega))) (by rw [uL_1, uI_1, if_pos ⟨rfl, rfl⟩]) I1 (fun j hj => absurd hj (Nat.not_lt_zero _)) (Or.inl ⟨rfl, by simp only [uL_2, and_self, if_true]⟩)
        have z1 : vlM (loM τ ρ S) (0, 1) = 0 := Nat.zero_mul _
        have dk := (dfs_ok (M := loM τ ρ S) (P := lwP τ ρ (lkL ρ S (τ 0)).2 (lkL ρ S (τ 0)).1 aim) (v := loV τ ρ S aim) (F := F) lwM_p (fun X hX h0 => ⟨(lwP_ok hv hr hL ha h0 hX).1, rfl⟩) hF (lkL ρ S (τ 0)).1 0 (0, 1) 0 (fun _ => 0) (0, 0, fun _ => 0) (Nat.pow_pos (by omega)) (lkN_z _) ⟨Nat.one_pos, Nat.one_dvd _⟩ (by rw [z1]; exact Nat.le_of_eq lwV_0) (Or.inl rfl)).2 (Or.inl rfl)
        rw [z1, Nat.zero_max] at dk
        obtain ⟨d1, d2, d3⟩ := dk
        have bb := b2.resolve_left (fun q => by have h1 : 0 < _ := d1.1; rw [q.1] at h1; exact absurd h1 (Nat.lt_irrefl _))
        have MF : mdF τ ρ S F σ' := ⟨by rw [f2.1 81 (by omega) (by omega)]; exact I1.1, fun j hj => by rw [bb.2.2.2 j hj, d3], _, bb.1, d1, d2, bb.2.1, bb.2.2.1⟩
        rw [sbS_z, sbS_z] at g2
        refine ⟨σ', frZ_tr hf (frZ_tr f1 (frO_Z f2)), fun _ => MF, fun {Q d} hd hQ => ?_⟩
        rw [if_pos ⟨c1.1, c1.2, c2⟩] at hQ
        have hd1 : 1 ≤ d := by omega
        have g2' : ∀ {K : Hp → Prop}, wpV d 218 [.ref 81, .int (0 : Int32), .int (0 : Int32), .long (0 : Int64), .long (0 : Int64), .long (0 : Int64), .long (1 : Int64)] (mW w (uL (uI σ 81 26 (Int32.ofNat aim)) 81 32 0)) K ↔ K (mW w σ') := fun {K} => g2 (D := d) (K := K) (by omega)
        refine b219_39 ?_
        simp only [↓br_pos, ↓br_neg, ↓rF_I, ↓rF_L, ↓rF_R, ↓rF_N, rO_m, rB_m, ↓rI_m, wI_m, ↓rB2_m, ↓rB3_m, wB2_m, wB3_m, ↓rL_m, wL_m, ↓rQ_m, wQ_m, ↓lI_m, pI_m, pL_m, pR_m, sI_m, sBy_m, sBo_m, sL_m, sQ_m, fst_m, true_and, and_true, tg_some, ln_some, uI_1, uI_2, uL_1, uL_2, uL_3, uQ_1, uQ_2, uQ_3, rv_i, rv_l, rv_n, rv_b0, rv_b1, RMR, ne_eq, reduceCtorEq, not_false_eq_true, Option.getD_some, if_true, if_false, and_self, false_and, and_false, Nat.add_left_cancel_iff, Nat.add_eq_left, Nat.left_eq_add, Nat.one_ne_zero, Nat.reduceAdd, Nat.reduceLT, Nat.reduceLeDiff, Nat.reduceEqDiff, true_implies, false_implies, implies_true, Option.some.injEq, forall_eq', forall_eq, reduceCtorEq, brT, brF, br_s, i_10, i_01, ib_0_2, ib_1_2, tn_0, tn_1, Int32.le_refl, eq_self, rv_bN, rv_iM, RCM 81, RLY, lit_at hw, mt_0 hτ, Int32.le_refl, g_129 hd1, vb, z10, hI.1, c, g2']
        exact hQ
    · rw [if_neg c1] at vb
      refine ⟨σ, hf, fun q => absurd ⟨q.1, q.2.1⟩ c1, fun {Q d} hd hQ => ?_⟩
      rw [if_neg (fun q => c1 ⟨q.1, q.2.1⟩)] at hQ
      have hd1 : 1 ≤ d := by omega
      refine b219_39 ?_
      simp only [↓br_pos, ↓br_neg, ↓rF_I, ↓rF_L, ↓rF_R, ↓rF_N, rO_m, rB_m, ↓rI_m, wI_m, ↓rB2_m, ↓rB3_m, wB2_m, wB3_m, ↓rL_m, wL_m, ↓rQ_m, wQ_m, ↓lI_m, pI_m, pL_m, pR_m, sI_m, sBy_m, sBo_m, sL_m, sQ_m, fst_m, true_and, and_true, tg_some, ln_some, uI_1, uI_2, uL_1, uL_2, uL_3, uQ_1, uQ_2, uQ_3, rv_i, rv_l, rv_n, rv_b0, rv_b1, RMR, ne_eq, reduceCtorEq, not_false_eq_true, Option.getD_some, if_true, if_false, and_self, false_and, and_false, Nat.add_left_cancel_iff, Nat.add_eq_left, Nat.left_eq_add, Nat.one_ne_zero, Nat.reduceAdd, Nat.reduceLT, Nat.reduceLeDiff, Nat.reduceEqDiff, true_implies, false_implies, implies_true, Option.some.injEq, forall_eq', forall_eq, reduceCtorEq, brT, brF, br_s, i_10, i_01, ib_0_2, ib_1_2, tn_0, tn_1, Int32.le_refl, eq_self, rv_bN, rv_iM, RCM 81, RLY, lit_at hw, mt_0 hτ, Int32.le_refl, g_129 hd1, vb, z00]
      exact hQ
  | succ r ih =>
    intro l σ hl hf hI
    have hτ := mT_c hτ0 (hf.1 83 (by omega) (by omega))
    have hρ := mR_c hρ0 (hf.1 85 (by omega) (by omega))
    have n6 := (lkL_ok (τ := τ) (ρ := ρ) (S := S) l (by omega)).1
    have lf := left_lt hr (by omega : l < τ 0)
    have l1 : (Int32.ofNat (τ 0) ≤ Int32.ofNat l) ↔ False := iff_false_intro (fun q => absurd ((on_le (by omega) (by omega)).mp q) (by omega))
    have nx := fun σ2 h1 h2 => ih (l + 1) σ2 (by omega) h1 h2
    have eS : lkL ρ S (l + 1) = lkS ρ S l (lkL ρ S l) := rfl
    rw [eS, sbS_s] at nx
    by_cases tb : S.testBit l = true
    · have cb := iff_false_intro (fun q => by have h := (tb12z (by omega : S < 4096) (by omega : l < 12)).mp q; rw [tb] at h; exact absurd h (by decide))
      rw [if_pos tb] at nx
      by_cases z : ρ (12 + l) = 0
      · have c : (Int32.ofNat (ρ (12 + l)) ≤ 0) ↔ True := iff_true_intro ((of_le0 (by omega)).mpr z)
        unfold lkS at nx
        rw [if_neg (fun q => by omega)] at nx
        obtain ⟨σ', f, F', a3⟩ := nx σ hf hI
        refine ⟨σ', f, F', fun {Q d} hd hQ => ?_⟩
        refine b219_39 ?_
        simp only [↓br_pos, ↓br_neg, ↓rF_I, ↓rF_L, ↓rF_R, ↓rF_N, rO_m, rB_m, ↓rI_m, wI_m, ↓rB2_m, ↓rB3_m, wB2_m, wB3_m, ↓rL_m, wL_m, ↓rQ_m, wQ_m, ↓lI_m, pI_m, pL_m, pR_m, sI_m, sBy_m, sBo_m, sL_m, sQ_m, fst_m, true_and, and_true, tg_some, ln_some, uI_1, uI_2, uL_1, uL_2, uL_3, uQ_1, uQ_2, uQ_3, rv_i, rv_l, rv_n, rv_b0, rv_b1, RMR, ne_eq, reduceCtorEq, not_false_eq_true, Option.getD_some, if_true, if_false, and_self, false_and, and_false, Nat.add_left_cancel_iff, Nat.add_eq_left, Nat.left_eq_add, Nat.one_ne_zero, Nat.reduceAdd, Nat.reduceLT, Nat.reduceLeDiff, Nat.reduceEqDiff, true_implies, false_implies, implies_true, Option.some.injEq, forall_eq', forall_eq, reduceCtorEq, brT, brF, br_s, i_10, i_01, ib_0_2, ib_1_2, tn_0, tn_1, Int32.le_refl, eq_self, rv_bN, rv_iM, RCM 81, RLY, lit_at hw, ad_2, ad_4, ad_6, ad_8, ad_10, ad_12, ad_16, ad_24, ad_27, ad_28, ad_31, ad_35, ad_43, ad_51, ad_107, ad_131, ad_311, ml_3, ml_6, ml_7, ml_60, ml_100, ml_2471, mq_12, ar_2, ar_3, ar_4, ar_5, ar_6, of_add, of_mul, on_succ, mt_0 hτ, l1, cb, mr hρ (by omega : 12 + l < 2471), c, on_succ]
        exact a3 hd hQ
      · have c : (Int32.ofNat (ρ (12 + l)) ≤ 0) ↔ False := iff_false_intro (fun q => z ((of_le0 (by omega)).mp q))
        by_cases y : (lkL ρ S l).1 < 6
        · have c6 : ((6 : Int32) ≤ Int32.ofNat (lkL ρ S l).1) ↔ False := iff_false_intro (fun q => absurd ((on_le (i := 6) (by omega) (by omega)).mp q) (by omega))
          have f2 : frZ σ (uI (uI σ 90 (lkL ρ S l).1 (Int32.ofNat l)) 81 27 (Int32.ofNat ((lkL ρ S l).1 + 1))) := frZ_tr (frZ_I (by omega)) (frZ_0 (by omega))
          unfold lkS at nx
          rw [if_pos ⟨tb, by omega, y⟩] at nx
          obtain ⟨σ', f, F', a3⟩ := nx _ (frZ_tr hf f2) ⟨by rw [uI_1, if_pos ⟨rfl, rfl⟩], fun i hi => by
            have hi' : i < (lkL ρ S l).1 + 1 := hi
            rw [uI_1, if_neg (by omega), uI_1]
            show _ = Int32.ofNat (if i = (lkL ρ S l).1 then l else (lkL ρ S l).2 i)
            by_cases x : i = (lkL ρ S l).1
            · rw [if_pos ⟨rfl, x⟩, if_pos x]
            · rw [if_neg (fun q => x q.2), if_neg x]; exact hI.2 i (by omega)⟩
          refine ⟨σ', f, F', fun {Q d} hd hQ => ?_⟩
          refine b219_39 ?_
          simp only [↓br_pos, ↓br_neg, ↓rF_I, ↓rF_L, ↓rF_R, ↓rF_N, rO_m, rB_m, ↓rI_m, wI_m, ↓rB2_m, ↓rB3_m, wB2_m, wB3_m, ↓rL_m, wL_m, ↓rQ_m, wQ_m, ↓lI_m, pI_m, pL_m, pR_m, sI_m, sBy_m, sBo_m, sL_m, sQ_m, fst_m, true_and, and_true, tg_some, ln_some, uI_1, uI_2, uL_1, uL_2, uL_3, uQ_1, uQ_2, uQ_3, rv_i, rv_l, rv_n, rv_b0, rv_b1, RMR, ne_eq, reduceCtorEq, not_false_eq_true, Option.getD_some, if_true, if_false, and_self, false_and, and_false, Nat.add_left_cancel_iff, Nat.add_eq_left, Nat.left_eq_add, Nat.one_ne_zero, Nat.reduceAdd, Nat.reduceLT, Nat.reduceLeDiff, Nat.reduceEqDiff, true_implies, false_implies, implies_true, Option.some.injEq, forall_eq', forall_eq, reduceCtorEq, brT, brF, br_s, i_10, i_01, ib_0_2, ib_1_2, tn_0, tn_1, Int32.le_refl, eq_self, rv_bN, rv_iM, RCM 81, RLY, lit_at hw, ad_2, ad_4, ad_6, ad_8, ad_10, ad_12, ad_16, ad_24, ad_27, ad_28, ad_31, ad_35, ad_43, ad_51, ad_107, ad_131, ad_311, ml_3, ml_6, ml_7, ml_60, ml_100, ml_2471, mq_12, ar_2, ar_3, ar_4, ar_5, ar_6, of_add, of_mul, on_succ, mt_0 hτ, l1, cb, mr hρ (by omega : 12 + l < 2471), c, hI.1, c6, ix (by omega : (lkL ρ S l).1 < 6) (by omega), on_succ]
          exact a3 hd hQ
        · have c6 : ((6 : Int32) ≤ Int32.ofNat (lkL ρ S l).1) ↔ True := iff_true_intro ((on_le (i := 6) (by omega) (by omega)).mpr (by omega))
          unfold lkS at nx
          rw [if_neg (fun q => y q.2.2)] at nx
          obtain ⟨σ', f, F', a3⟩ := nx σ hf hI
          refine ⟨σ', f, F', fun {Q d} hd hQ => ?_⟩
          refine b219_39 ?_
          simp only [↓br_pos, ↓br_neg, ↓rF_I, ↓rF_L, ↓rF_R, ↓rF_N, rO_m, rB_m, ↓rI_m, wI_m, ↓rB2_m, ↓rB3_m, wB2_m, wB3_m, ↓rL_m, wL_m, ↓rQ_m, wQ_m, ↓lI_m, pI_m, pL_m, pR_m, sI_m, sBy_m, sBo_m, sL_m, sQ_m, fst_m, true_and, and_true, tg_some, ln_some, uI_1, uI_2, uL_1, uL_2, uL_3, uQ_1, uQ_2, uQ_3, rv_i, rv_l, rv_n, rv_b0, rv_b1, RMR, ne_eq, reduceCtorEq, not_false_eq_true, Option.getD_some, if_true, if_false, and_self, false_and, and_false, Nat.add_left_cancel_iff, Nat.add_eq_left, Nat.left_eq_add, Nat.one_ne_zero, Nat.reduceAdd, Nat.reduceLT, Nat.reduceLeDiff, Nat.reduceEqDiff, true_implies, false_implies, implies_true, Option.some.injEq, forall_eq', forall_eq, reduceCtorEq, brT, brF, br_s, i_10, i_01, ib_0_2, ib_1_2, tn_0, tn_1, Int32.le_refl, eq_self, rv_bN, rv_iM, RCM 81, RLY, lit_at hw, ad_2, ad_4, ad_6, ad_8, ad_10, ad_12, ad_16, ad_24, ad_27, ad_28, ad_31, ad_35, ad_43, ad_51, ad_107, ad_131, ad_311, ml_3, ml_6, ml_7, ml_60, ml_100, ml_2471, mq_12, ar_2, ar_3, ar_4, ar_5, ar_6, of_add, of_mul, on_succ, mt_0 hτ, l1, cb, mr hρ (by omega : 12 + l < 2471), c, hI.1, c6, on_succ]
          exact a3 hd hQ
    · have tf : S.testBit l = false := Bool.eq_false_iff.mpr tb
      have cb := iff_true_intro ((tb12z (by omega : S < 4096) (by omega : l < 12)).mpr tf)
      rw [if_neg tb, Nat.add_zero] at nx
      unfold lkS at nx
      rw [if_neg (fun q => tb q.1)] at nx
      obtain ⟨σ', f, F', a3⟩ := nx σ hf hI
      refine ⟨σ', f, F', fun {Q d} hd hQ => ?_⟩
      refine b219_39 ?_
      simp only [↓br_pos, ↓br_neg, ↓rF_I, ↓rF_L, ↓rF_R, ↓rF_N, rO_m, rB_m, ↓rI_m, wI_m, ↓rB2_m, ↓rB3_m, wB2_m, wB3_m, ↓rL_m, wL_m, ↓rQ_m, wQ_m, ↓lI_m, pI_m, pL_m, pR_m, sI_m, sBy_m, sBo_m, sL_m, sQ_m, fst_m, true_and, and_true, tg_some, ln_some, uI_1, uI_2, uL_1, uL_2, uL_3, uQ_1, uQ_2, uQ_3, rv_i, rv_l, rv_n, rv_b0, rv_b1, RMR, ne_eq, reduceCtorEq, not_false_eq_true, Option.getD_some, if_true, if_false, and_self, false_and, and_false, Nat.add_left_cancel_iff, Nat.add_eq_left, Nat.left_eq_add, Nat.one_ne_zero, Nat.reduceAdd, Nat.reduceLT, Nat.reduceLeDiff, Nat.reduceEqDiff, true_implies, false_implies, implies_true, Option.some.injEq, forall_eq', forall_eq, reduceCtorEq, brT, brF, br_s, i_10, i_01, ib_0_2, ib_1_2, tn_0, tn_1, Int32.le_refl, eq_self, rv_bN, rv_iM, RCM 81, RLY, lit_at hw, mt_0 hτ, l1, cb, on_succ]
      exact a3 hd hQ
theorem s_219x {w : mT} {σ : mS} {τ ρ : Rw} {S aim : Nat} {F : Nat → Nat} (hw : lit w) (hτ : mTold σ τ) (hρ : mRow σ 85 0 ρ) (hv : vTold τ) (hr : vRow τ ρ) (ha : aim ≤ 999) (hS : S < 2 ^ τ 0) (hF : loFO τ ρ S aim F) : ∃ σ', frZ σ σ' ∧ ((2 ≤ sbS (fun _ => 1) (τ 0) S ∧ sbS (fun _ => 1) (τ 0) S ≤ 6 ∧ (lkL ρ S (τ 0)).1 ≠ 0) → mdF τ ρ S F σ') ∧ ∀ {D : Nat} {K : Int32 → Hp → Prop}, 8 ≤ D → (wpI D 219 [.ref 81, .int (Int32.ofNat S), .int (Int32.ofNat aim)] (mW w σ) K ↔ K (if 2 ≤ sbS (fun _ => 1) (τ 0) S ∧ sbS (fun _ => 1) (τ 0) S ≤ 6 ∧ (lkL ρ S (τ 0)).1 ≠ 0 then 1 else 0) (mW w σ')) := by
  have v0 := hv.1
  have p12 : 2 ^ τ 0 ≤ 2 ^ 12 := Nat.pow_le_pow_right (by omega) v0
  have f1 : frZ σ (uI σ 81 27 0) := frZ_0 (by omega)
  obtain ⟨σ', f, F', a3⟩ := lp_219x hw (mT_c hτ (f1.1 83 (by omega) (by omega))) (mR_c hρ (f1.1 85 (by omega) (by omega))) hv hr ha hS hF (τ 0) 0 (uI σ 81 27 0) (by omega) frZ_rf ⟨by rw [uI_1, if_pos ⟨rfl, rfl⟩]; rfl, fun i hi => absurd hi (Nat.not_lt_zero _)⟩
  refine ⟨σ', frZ_tr f1 f, F', fun hD => cI_of (m := 7) (fun d hd Q hQ => ?_) rfl hD⟩
  have hd1 : 1 ≤ d := by omega
  have n0 : (Int32.ofNat S < 0) ↔ False := iff_false_intro (fun q => by rw [i_lt, on_int (by omega), show (0 : Int32).toInt = 0 by decide] at q; omega)
  have cs := iff_true_intro ((shS (x := Int32.ofNat S) v0 (fun q => n0.mp q)).mpr ⟨S, hS, rfl⟩)
  have y : 0 ≤ (Int32.ofNat aim).toInt ∧ (Int32.ofNat aim).toInt ≤ 999 := by rw [on_int (by omega)]; omega
  refine b219_0 ?_
  simp only [↓br_pos, ↓br_neg, ↓rF_I, ↓rF_L, ↓rF_R, ↓rF_N, rO_m, rB_m, ↓rI_m, wI_m, ↓rB2_m, ↓rB3_m, wB2_m, wB3_m, ↓rL_m, wL_m, ↓rQ_m, wQ_m, ↓lI_m, pI_m, pL_m, pR_m, sI_m, sBy_m, sBo_m, sL_m, sQ_m, fst_m, true_and, and_true, tg_some, ln_some, uI_1, uI_2, uL_1, uL_2, uL_3, uQ_1, uQ_2, uQ_3, rv_i, rv_l, rv_n, rv_b0, rv_b1, RMR, ne_eq, reduceCtorEq, not_false_eq_true, Option.getD_some, if_true, if_false, and_self, false_and, and_false, Nat.add_left_cancel_iff, Nat.add_eq_left, Nat.left_eq_add, Nat.one_ne_zero, Nat.reduceAdd, Nat.reduceLT, Nat.reduceLeDiff, Nat.reduceEqDiff, true_implies, false_implies, implies_true, Option.some.injEq, forall_eq', forall_eq, reduceCtorEq, brT, brF, br_s, i_10, i_01, ib_0_2, ib_1_2, tn_0, tn_1, Int32.le_refl, eq_self, rv_bN, rv_iM, RCM 81, RLY, lit_at hw, mt_0 hτ, g_129 hd1, vin_999, iB_t y, z10, n0, cs]
  exact a3 hd hQ
theorem s_219z {w : mT} {σ : mS} {τ : Rw} {a b : Int32} {D : Nat} {K : Int32 → Hp → Prop} (hw : lit w) (hτ : mTold σ τ) (hv : vTold τ) (hz : ¬ (grP b ∧ ∃ S, S < 2 ^ τ 0 ∧ a = Int32.ofNat S)) (hD : 8 ≤ D) : wpI D 219 [.ref 81, .int a, .int b] (mW w σ) K ↔ K 0 (mW w σ) := by
  have v0 := hv.1
  refine cI_of (m := 7) (fun d hd Q hQ => ?_) rfl hD
  have hd1 : 1 ≤ d := by omega
  refine b219_0 ?_
  by_cases n0 : a < 0
  · simp only [↓br_pos, ↓br_neg, ↓rF_I, ↓rF_L, ↓rF_R, ↓rF_N, rO_m, rB_m, ↓rI_m, wI_m, ↓rB2_m, ↓rB3_m, wB2_m, wB3_m, ↓rL_m, wL_m, ↓rQ_m, wQ_m, ↓lI_m, pI_m, pL_m, pR_m, sI_m, sBy_m, sBo_m, sL_m, sQ_m, fst_m, true_and, and_true, tg_some, ln_some, uI_1, uI_2, uL_1, uL_2, uL_3, uQ_1, uQ_2, uQ_3, rv_i, rv_l, rv_n, rv_b0, rv_b1, RMR, ne_eq, reduceCtorEq, not_false_eq_true, Option.getD_some, if_true, if_false, and_self, false_and, and_false, Nat.add_left_cancel_iff, Nat.add_eq_left, Nat.left_eq_add, Nat.one_ne_zero, Nat.reduceAdd, Nat.reduceLT, Nat.reduceLeDiff, Nat.reduceEqDiff, true_implies, false_implies, implies_true, Option.some.injEq, forall_eq', forall_eq, reduceCtorEq, brT, brF, br_s, i_10, i_01, ib_0_2, ib_1_2, tn_0, tn_1, Int32.le_refl, eq_self, rv_bN, rv_iM, n0]
    exact hQ
  · by_cases cs : ∃ S, S < 2 ^ τ 0 ∧ a = Int32.ofNat S
    · have y : ¬ (0 ≤ b.toInt ∧ b.toInt ≤ 999) := fun q => hz ⟨q, cs⟩
      have c := iff_true_intro ((shS v0 n0).mpr cs)
      simp only [↓br_pos, ↓br_neg, ↓rF_I, ↓rF_L, ↓rF_R, ↓rF_N, rO_m, rB_m, ↓rI_m, wI_m, ↓rB2_m, ↓rB3_m, wB2_m, wB3_m, ↓rL_m, wL_m, ↓rQ_m, wQ_m, ↓lI_m, pI_m, pL_m, pR_m, sI_m, sBy_m, sBo_m, sL_m, sQ_m, fst_m, true_and, and_true, tg_some, ln_some, uI_1, uI_2, uL_1, uL_2, uL_3, uQ_1, uQ_2, uQ_3, rv_i, rv_l, rv_n, rv_b0, rv_b1, RMR, ne_eq, reduceCtorEq, not_false_eq_true, Option.getD_some, if_true, if_false, and_self, false_and, and_false, Nat.add_left_cancel_iff, Nat.add_eq_left, Nat.left_eq_add, Nat.one_ne_zero, Nat.reduceAdd, Nat.reduceLT, Nat.reduceLeDiff, Nat.reduceEqDiff, true_implies, false_implies, implies_true, Option.some.injEq, forall_eq', forall_eq, reduceCtorEq, brT, brF, br_s, i_10, i_01, ib_0_2, ib_1_2, tn_0, tn_1, Int32.le_refl, eq_self, rv_bN, rv_iM, RCM 81, RLY, lit_at hw, mt_0 hτ, g_129 hd1, vin_999, iB_f y, z00, n0, c]
      exact hQ
    · have c := iff_false_intro (fun q => cs ((shS v0 n0).mp q))
      simp only [↓br_pos, ↓br_neg, ↓rF_I, ↓rF_L, ↓rF_R, ↓rF_N, rO_m, rB_m, ↓rI_m, wI_m, ↓rB2_m, ↓rB3_m, wB2_m, wB3_m, ↓rL_m, wL_m, ↓rQ_m, wQ_m, ↓lI_m, pI_m, pL_m, pR_m, sI_m, sBy_m, sBo_m, sL_m, sQ_m, fst_m, true_and, and_true, tg_some, ln_some, uI_1, uI_2, uL_1, uL_2, uL_3, uQ_1, uQ_2, uQ_3, rv_i, rv_l, rv_n, rv_b0, rv_b1, RMR, ne_eq, reduceCtorEq, not_false_eq_true, Option.getD_some, if_true, if_false, and_self, false_and, and_false, Nat.add_left_cancel_iff, Nat.add_eq_left, Nat.left_eq_add, Nat.one_ne_zero, Nat.reduceAdd, Nat.reduceLT, Nat.reduceLeDiff, Nat.reduceEqDiff, true_implies, false_implies, implies_true, Option.some.injEq, forall_eq', forall_eq, reduceCtorEq, brT, brF, br_s, i_10, i_01, ib_0_2, ib_1_2, tn_0, tn_1, Int32.le_refl, eq_self, rv_bN, rv_iM, RCM 81, RLY, lit_at hw, mt_0 hτ, n0, c]
      exact hQ
theorem m_220z {w : mT} {σ : mS} {tp n : Nat} {t : Nat → Nat} {τ ρ : Rw} {bk : Nat → Rw} {has : Nat → Bool} {im : Nat → Rw} {a b c : Int32} (h : mIn w σ tp t τ ρ n bk has im) (hz : ¬ (grP b ∧ ∃ S, a = Int32.ofNat S ∧ loOK τ ρ S)) : ∃ σ', frA σ σ' ∧ mIn w σ' tp t τ ρ n bk has im ∧ ∀ {D : Nat} {K : Int32 → Hp → Prop}, 9 ≤ D → (wpI D 220 [.ref 81, .int a, .int b, .int c] (mW w σ) K ↔ K (-1) (mW w σ')) := by
  have M := h
  obtain ⟨hw, hτ, hρ, hv, hr, hp2, htp, htb, htl, hn, hn12, hbk, him⟩ := h
  have M0 := mIn_Z M (frZ_0 (j := 0) (x := 0) (by omega))
  obtain ⟨_, hτ0, hρ0, _, _, hp20, _, htb0, _, hn0, _, hbk0, him0⟩ := M0
  have M0 := mIn_Z M (frZ_0 (j := 0) (x := 0) (by omega))
  by_cases y : grP b ∧ ∃ S, S < 2 ^ τ 0 ∧ a = Int32.ofNat S
  · obtain ⟨y1, S, y2, rfl⟩ := y
    obtain ⟨aim, rfl, ha⟩ := ex_on (a := b) (n := 1000) ⟨y1.1, by have := y1.2; omega⟩
    obtain ⟨F, hF⟩ := exF (v := loV τ ρ S aim) (n := (lkL ρ S (τ 0)).1)
    obtain ⟨σ', f, F', g9⟩ := s_219x hw hτ0 hρ0 hv hr (by omega : aim ≤ 999) y2 hF
    rw [if_neg (fun q => hz ⟨y1, S, rfl, y2, q.1, q.2.1, q.2.2⟩)] at g9
    refine ⟨σ', frZ_A (frZ_tr (frZ_0 (by omega)) f), mIn_Z M (frZ_tr (frZ_0 (by omega)) f), fun hD => cI_of (m := 8) (fun d hd Q hQ => ?_) rfl hD⟩
    refine b220_0 ?_
    simp only [↓br_pos, ↓br_neg, ↓rF_I, ↓rF_L, ↓rF_R, ↓rF_N, rO_m, rB_m, ↓rI_m, wI_m, ↓rB2_m, ↓rB3_m, wB2_m, wB3_m, ↓rL_m, wL_m, ↓rQ_m, wQ_m, ↓lI_m, pI_m, pL_m, pR_m, sI_m, sBy_m, sBo_m, sL_m, sQ_m, fst_m, true_and, and_true, tg_some, ln_some, uI_1, uI_2, uL_1, uL_2, uL_3, uQ_1, uQ_2, uQ_3, rv_i, rv_l, rv_n, rv_b0, rv_b1, RMR, ne_eq, reduceCtorEq, not_false_eq_true, Option.getD_some, if_true, if_false, and_self, false_and, and_false, Nat.add_left_cancel_iff, Nat.add_eq_left, Nat.left_eq_add, Nat.one_ne_zero, Nat.reduceAdd, Nat.reduceLT, Nat.reduceLeDiff, Nat.reduceEqDiff, true_implies, false_implies, implies_true, Option.some.injEq, forall_eq', forall_eq, reduceCtorEq, brT, brF, br_s, i_10, i_01, ib_0_2, ib_1_2, tn_0, tn_1, Int32.le_refl, eq_self, rv_bN, rv_iM, RCM 81, RLY, lit_at hw, g9 hd, z00]
    exact hQ
  · have g9 := fun {d : Nat} {K : Int32 → Hp → Prop} (hd : 8 ≤ d) => s_219z (K := K) hw hτ0 hv y hd
    refine ⟨(uI σ 81 0 0), frZ_A (frZ_0 (by omega)), mIn_Z M (frZ_0 (by omega)), fun hD => cI_of (m := 8) (fun d hd Q hQ => ?_) rfl hD⟩
    refine b220_0 ?_
    simp only [↓br_pos, ↓br_neg, ↓rF_I, ↓rF_L, ↓rF_R, ↓rF_N, rO_m, rB_m, ↓rI_m, wI_m, ↓rB2_m, ↓rB3_m, wB2_m, wB3_m, ↓rL_m, wL_m, ↓rQ_m, wQ_m, ↓lI_m, pI_m, pL_m, pR_m, sI_m, sBy_m, sBo_m, sL_m, sQ_m, fst_m, true_and, and_true, tg_some, ln_some, uI_1, uI_2, uL_1, uL_2, uL_3, uQ_1, uQ_2, uQ_3, rv_i, rv_l, rv_n, rv_b0, rv_b1, RMR, ne_eq, reduceCtorEq, not_false_eq_true, Option.getD_some, if_true, if_false, and_self, false_and, and_false, Nat.add_left_cancel_iff, Nat.add_eq_left, Nat.left_eq_add, Nat.one_ne_zero, Nat.reduceAdd, Nat.reduceLT, Nat.reduceLeDiff, Nat.reduceEqDiff, true_implies, false_implies, implies_true, Option.some.injEq, forall_eq', forall_eq, reduceCtorEq, brT, brF, br_s, i_10, i_01, ib_0_2, ib_1_2, tn_0, tn_1, Int32.le_refl, eq_self, rv_bN, rv_iM, RCM 81, RLY, lit_at hw, g9 hd, z00]
    exact hQ
theorem m_221z {w : mT} {σ : mS} {tp n : Nat} {t : Nat → Nat} {τ ρ : Rw} {bk : Nat → Rw} {has : Nat → Bool} {im : Nat → Rw} {a b : Int32} (h : mIn w σ tp t τ ρ n bk has im) (hz : ¬ (grP b ∧ ∃ S, a = Int32.ofNat S ∧ loOK τ ρ S)) : ∃ σ', frA σ σ' ∧ mIn w σ' tp t τ ρ n bk has im ∧ ∀ {D : Nat} {K : Int64 → Hp → Prop}, 9 ≤ D → (wpL D 221 [.ref 81, .int a, .int b] (mW w σ) K ↔ K (-1) (mW w σ')) := by
  have M := h
  obtain ⟨hw, hτ, hρ, hv, hr, hp2, htp, htb, htl, hn, hn12, hbk, him⟩ := h
  have M0 := mIn_Z M (frZ_0 (j := 0) (x := 0) (by omega))
  obtain ⟨_, hτ0, hρ0, _, _, hp20, _, htb0, _, hn0, _, hbk0, him0⟩ := M0
  have M0 := mIn_Z M (frZ_0 (j := 0) (x := 0) (by omega))
  by_cases y : grP b ∧ ∃ S, S < 2 ^ τ 0 ∧ a = Int32.ofNat S
  · obtain ⟨y1, S, y2, rfl⟩ := y
    obtain ⟨aim, rfl, ha⟩ := ex_on (a := b) (n := 1000) ⟨y1.1, by have := y1.2; omega⟩
    obtain ⟨F, hF⟩ := exF (v := loV τ ρ S aim) (n := (lkL ρ S (τ 0)).1)
    obtain ⟨σ', f, F', g9⟩ := s_219x hw hτ0 hρ0 hv hr (by omega : aim ≤ 999) y2 hF
    rw [if_neg (fun q => hz ⟨y1, S, rfl, y2, q.1, q.2.1, q.2.2⟩)] at g9
    refine ⟨σ', frZ_A (frZ_tr (frZ_0 (by omega)) f), mIn_Z M (frZ_tr (frZ_0 (by omega)) f), fun hD => cL_of (m := 8) (fun d hd Q hQ => ?_) rfl hD⟩
    refine b221_0 ?_
    simp only [↓br_pos, ↓br_neg, ↓rF_I, ↓rF_L, ↓rF_R, ↓rF_N, rO_m, rB_m, ↓rI_m, wI_m, ↓rB2_m, ↓rB3_m, wB2_m, wB3_m, ↓rL_m, wL_m, ↓rQ_m, wQ_m, ↓lI_m, pI_m, pL_m, pR_m, sI_m, sBy_m, sBo_m, sL_m, sQ_m, fst_m, true_and, and_true, tg_some, ln_some, uI_1, uI_2, uL_1, uL_2, uL_3, uQ_1, uQ_2, uQ_3, rv_i, rv_l, rv_n, rv_b0, rv_b1, RMR, ne_eq, reduceCtorEq, not_false_eq_true, Option.getD_some, if_true, if_false, and_self, false_and, and_false, Nat.add_left_cancel_iff, Nat.add_eq_left, Nat.left_eq_add, Nat.one_ne_zero, Nat.reduceAdd, Nat.reduceLT, Nat.reduceLeDiff, Nat.reduceEqDiff, true_implies, false_implies, implies_true, Option.some.injEq, forall_eq', forall_eq, reduceCtorEq, brT, brF, br_s, i_10, i_01, ib_0_2, ib_1_2, tn_0, tn_1, Int32.le_refl, eq_self, rv_bN, rv_iM, RCM 81, RLY, lit_at hw, g9 hd, z00]
    exact hQ
  · have g9 := fun {d : Nat} {K : Int32 → Hp → Prop} (hd : 8 ≤ d) => s_219z (K := K) hw hτ0 hv y hd
    refine ⟨(uI σ 81 0 0), frZ_A (frZ_0 (by omega)), mIn_Z M (frZ_0 (by omega)), fun hD => cL_of (m := 8) (fun d hd Q hQ => ?_) rfl hD⟩
    refine b221_0 ?_
    simp only [↓br_pos, ↓br_neg, ↓rF_I, ↓rF_L, ↓rF_R, ↓rF_N, rO_m, rB_m, ↓rI_m, wI_m, ↓rB2_m, ↓rB3_m, wB2_m, wB3_m, ↓rL_m, wL_m, ↓rQ_m, wQ_m, ↓lI_m, pI_m, pL_m, pR_m, sI_m, sBy_m, sBo_m, sL_m, sQ_m, fst_m, true_and, and_true, tg_some, ln_some, uI_1, uI_2, uL_1, uL_2, uL_3, uQ_1, uQ_2, uQ_3, rv_i, rv_l, rv_n, rv_b0, rv_b1, RMR, ne_eq, reduceCtorEq, not_false_eq_true, Option.getD_some, if_true, if_false, and_self, false_and, and_false, Nat.add_left_cancel_iff, Nat.add_eq_left, Nat.left_eq_add, Nat.one_ne_zero, Nat.reduceAdd, Nat.reduceLT, Nat.reduceLeDiff, Nat.reduceEqDiff, true_implies, false_implies, implies_true, Option.some.injEq, forall_eq', forall_eq, reduceCtorEq, brT, brF, br_s, i_10, i_01, ib_0_2, ib_1_2, tn_0, tn_1, Int32.le_refl, eq_self, rv_bN, rv_iM, RCM 81, RLY, lit_at hw, g9 hd, z00]
    exact hQ
theorem m_220x {w : mT} {σ : mS} {tp n : Nat} {t : Nat → Nat} {τ ρ : Rw} {bk : Nat → Rw} {has : Nat → Bool} {im : Nat → Rw} {S aim : Nat} {c : Int32} {F : Nat → Nat} (h : mIn w σ tp t τ ρ n bk has im) (hO : loOK τ ρ S) (ha : aim ≤ 999) (hF : loFO τ ρ S aim F) : ∃ σ', frA σ σ' ∧ mIn w σ' tp t τ ρ n bk has im ∧ ∀ {D : Nat} {K : Int32 → Hp → Prop}, 9 ≤ D → (wpI D 220 [.ref 81, .int (Int32.ofNat S), .int (Int32.ofNat aim), .int c] (mW w σ) K ↔ K (layV (lkL ρ S (τ 0)).1 (lkL ρ S (τ 0)).2 (grd (lkL ρ S (τ 0)).1 F (F 0) (lkL ρ S (τ 0)).1 0 0 (fun _ => 0)) c) (mW w σ')) := by
  have M := h
  obtain ⟨hw, hτ, hρ, hv, hr, hp2, htp, htb, htl, hn, hn12, hbk, him⟩ := h
  have M0 := mIn_Z M (frZ_0 (j := 0) (x := 0) (by omega))
  obtain ⟨_, hτ0, hρ0, _, _, hp20, _, htb0, _, hn0, _, hbk0, him0⟩ := M0
  have M0 := mIn_Z M (frZ_0 (j := 0) (x := 0) (by omega))
  obtain ⟨s1, s2, s3, s4⟩ := hO
  obtain ⟨σ', f, F', g9⟩ := s_219x hw hτ0 hρ0 hv hr ha s1 hF
  rw [if_pos ⟨s2, s3, s4⟩] at g9
  obtain ⟨I, R, _⟩ := F' ⟨s2, s3, s4⟩
  have n6 := (lkL_ok (τ := τ) (ρ := ρ) (S := S) (τ 0) (Nat.le_refl _)).1
  refine ⟨σ', frZ_A (frZ_tr (frZ_0 (by omega)) f), mIn_Z M (frZ_tr (frZ_0 (by omega)) f), fun hD => cI_of (m := 8) (fun d hd Q hQ => ?_) rfl hD⟩
  have hd1 : 1 ≤ d := by omega
  generalize (grd (lkL ρ S (τ 0)).1 F (F 0) (lkL ρ S (τ 0)).1 0 0 (fun _ => 0)) = g at *
  generalize (lkL ρ S (τ 0)).2 = ls at *
  generalize (lkL ρ S (τ 0)).1 = m at *
  have vb := vin_n (a := c) (n := m) (by omega)
  refine b220_0 ?_
  rcases bN_01 (a := c) (n := m) with z | z
  · rw [z] at vb
    have ev : layV m ls g c = -2 := if_neg (by rw [z]; decide)
    rw [ev] at hQ
    simp only [↓br_pos, ↓br_neg, ↓rF_I, ↓rF_L, ↓rF_R, ↓rF_N, rO_m, rB_m, ↓rI_m, wI_m, ↓rB2_m, ↓rB3_m, wB2_m, wB3_m, ↓rL_m, wL_m, ↓rQ_m, wQ_m, ↓lI_m, pI_m, pL_m, pR_m, sI_m, sBy_m, sBo_m, sL_m, sQ_m, fst_m, true_and, and_true, tg_some, ln_some, uI_1, uI_2, uL_1, uL_2, uL_3, uQ_1, uQ_2, uQ_3, rv_i, rv_l, rv_n, rv_b0, rv_b1, RMR, ne_eq, reduceCtorEq, not_false_eq_true, Option.getD_some, if_true, if_false, and_self, false_and, and_false, Nat.add_left_cancel_iff, Nat.add_eq_left, Nat.left_eq_add, Nat.one_ne_zero, Nat.reduceAdd, Nat.reduceLT, Nat.reduceLeDiff, Nat.reduceEqDiff, true_implies, false_implies, implies_true, Option.some.injEq, forall_eq', forall_eq, reduceCtorEq, brT, brF, br_s, i_10, i_01, ib_0_2, ib_1_2, tn_0, tn_1, Int32.le_refl, eq_self, rv_bN, rv_iM, RCM 81, RLY, lit_at hw, g9 hd, z10, z00, I, g_129 hd1, vb]
    exact hQ
  · rw [z] at vb
    obtain ⟨i, rfl, hi⟩ := bN_ex z
    have ev : layV m ls g (Int32.ofNat i) = Int32.ofNat (ls (g i)) := by
      unfold layV
      rw [if_pos z, on_nat (by omega)]
    rw [ev] at hQ
    simp only [↓br_pos, ↓br_neg, ↓rF_I, ↓rF_L, ↓rF_R, ↓rF_N, rO_m, rB_m, ↓rI_m, wI_m, ↓rB2_m, ↓rB3_m, wB2_m, wB3_m, ↓rL_m, wL_m, ↓rQ_m, wQ_m, ↓lI_m, pI_m, pL_m, pR_m, sI_m, sBy_m, sBo_m, sL_m, sQ_m, fst_m, true_and, and_true, tg_some, ln_some, uI_1, uI_2, uL_1, uL_2, uL_3, uQ_1, uQ_2, uQ_3, rv_i, rv_l, rv_n, rv_b0, rv_b1, RMR, ne_eq, reduceCtorEq, not_false_eq_true, Option.getD_some, if_true, if_false, and_self, false_and, and_false, Nat.add_left_cancel_iff, Nat.add_eq_left, Nat.left_eq_add, Nat.one_ne_zero, Nat.reduceAdd, Nat.reduceLT, Nat.reduceLeDiff, Nat.reduceEqDiff, true_implies, false_implies, implies_true, Option.some.injEq, forall_eq', forall_eq, reduceCtorEq, brT, brF, br_s, i_10, i_01, ib_0_2, ib_1_2, tn_0, tn_1, Int32.le_refl, eq_self, rv_bN, rv_iM, RCM 81, RLY, lit_at hw, g9 hd, z10, I, g_129 hd1, vb, ix (by omega : i < 6) (by omega), R i hi]
    exact hQ
theorem m_221x {w : mT} {σ : mS} {tp n : Nat} {t : Nat → Nat} {τ ρ : Rw} {bk : Nat → Rw} {has : Nat → Bool} {im : Nat → Rw} {S aim : Nat} {F : Nat → Nat} (h : mIn w σ tp t τ ρ n bk has im) (hO : loOK τ ρ S) (ha : aim ≤ 999) (hF : loFO τ ρ S aim F) : ∃ σ' p, okP (loM τ ρ S) p ∧ vlM (loM τ ρ S) p = F 0 ∧ frA σ σ' ∧ mIn w σ' tp t τ ρ n bk has im ∧ ∀ {D : Nat} {K : Int64 → Hp → Prop}, 9 ≤ D → (wpL D 221 [.ref 81, .int (Int32.ofNat S), .int (Int32.ofNat aim)] (mW w σ) K ↔ K (Int64.ofNat (p.1 / Nat.gcd p.1 p.2)) (mW w σ')) := by
  have M := h
  obtain ⟨hw, hτ, hρ, hv, hr, hp2, htp, htb, htl, hn, hn12, hbk, him⟩ := h
  have M0 := mIn_Z M (frZ_0 (j := 0) (x := 0) (by omega))
  obtain ⟨_, hτ0, hρ0, _, _, hp20, _, htb0, _, hn0, _, hbk0, him0⟩ := M0
  have M0 := mIn_Z M (frZ_0 (j := 0) (x := 0) (by omega))
  obtain ⟨s1, s2, s3, s4⟩ := hO
  obtain ⟨σ', f, F', g9⟩ := s_219x hw hτ0 hρ0 hv hr ha s1 hF
  rw [if_pos ⟨s2, s3, s4⟩] at g9
  obtain ⟨I, R, p, ok, oM, vp, e1, e2⟩ := F' ⟨s2, s3, s4⟩
  obtain ⟨p2, o1, o2⟩ := ok
  have gp := Nat.gcd_pos_of_pos_right p.1 p2
  have gl : Nat.gcd p.1 p.2 ≤ p.2 := Nat.gcd_le_right p.1 p2
  have cg : (Int64.ofNat (Nat.gcd p.1 p.2) = 0) ↔ False := iff_false_intro (fun q => absurd ((ol_inj (b := 0) (by omega) (by omega)).mp q) (by omega))
  refine ⟨uL σ' 81 25 (Int64.ofNat (p.2 / Nat.gcd p.1 p.2)), p, oM, vp, frZ_A (frZ_tr (frZ_0 (by omega)) (frZ_tr f (frZ_L (by omega)))), mIn_Z M (frZ_tr (frZ_0 (by omega)) (frZ_tr f (frZ_L (by omega)))), fun hD => cL_of (m := 8) (fun d hd Q hQ => ?_) rfl hD⟩
  have hd1 : 1 ≤ d := by omega
  refine b221_0 ?_
  simp only [↓br_pos, ↓br_neg, ↓rF_I, ↓rF_L, ↓rF_R, ↓rF_N, rO_m, rB_m, ↓rI_m, wI_m, ↓rB2_m, ↓rB3_m, wB2_m, wB3_m, ↓rL_m, wL_m, ↓rQ_m, wQ_m, ↓lI_m, pI_m, pL_m, pR_m, sI_m, sBy_m, sBo_m, sL_m, sQ_m, fst_m, true_and, and_true, tg_some, ln_some, uI_1, uI_2, uL_1, uL_2, uL_3, uQ_1, uQ_2, uQ_3, rv_i, rv_l, rv_n, rv_b0, rv_b1, RMR, ne_eq, reduceCtorEq, not_false_eq_true, Option.getD_some, if_true, if_false, and_self, false_and, and_false, Nat.add_left_cancel_iff, Nat.add_eq_left, Nat.left_eq_add, Nat.one_ne_zero, Nat.reduceAdd, Nat.reduceLT, Nat.reduceLeDiff, Nat.reduceEqDiff, true_implies, false_implies, implies_true, Option.some.injEq, forall_eq', forall_eq, reduceCtorEq, brT, brF, br_s, i_10, i_01, ib_0_2, ib_1_2, tn_0, tn_1, Int32.le_refl, eq_self, rv_bN, rv_iM, RCM 81, RLY, lit_at hw, g9 hd, z10, e1, e2, g_207 (by omega : p.1 < 9223372036854775808) (by omega : p.2 < 9223372036854775808) hd1, cg, ol_div (by omega : p.1 < 9223372036854775808) (by omega : Nat.gcd p.1 p.2 < 9223372036854775808), ol_div (by omega : p.2 < 9223372036854775808) (by omega : Nat.gcd p.1 p.2 < 9223372036854775808)]
  exact hQ
/-! both -/
theorem fr_eq {M : Nat} {p q : Nat × Nat} (hM : 0 < M) (hp : okP M p) (hq : okP M q) (h : vlM M p = vlM M q) : p.1 / Nat.gcd p.1 p.2 = q.1 / Nat.gcd q.1 q.2 := by
  have a := vlM_lt hM hp.1 hq.1 hp.2 hq.2
  have b := vlM_lt hM hq.1 hp.1 hq.2 hp.2
  have e : p.1 * q.2 = q.1 * p.2 := by omega
  have gp := Nat.gcd_pos_of_pos_right p.1 hp.1
  have gq := Nat.gcd_pos_of_pos_right q.1 hq.1
  have e1 : q.1 * Nat.gcd p.1 p.2 = p.1 * Nat.gcd q.1 q.2 := by
    rw [← Nat.gcd_mul_left, ← Nat.gcd_mul_left, ← e, Nat.mul_comm q.1 p.1]
  obtain ⟨x, hx⟩ := Nat.gcd_dvd_left p.1 p.2
  obtain ⟨y, hy⟩ := Nat.gcd_dvd_left q.1 q.2
  generalize Nat.gcd p.1 p.2 = g at *
  generalize Nat.gcd q.1 q.2 = k at *
  rw [hx, hy] at e1
  rw [hx, hy, Nat.mul_div_cancel_left x gp, Nat.mul_div_cancel_left y gq]
  have e2 : g * k * y = g * k * x := by
    have l : k * y * g = g * k * y := by rw [Nat.mul_comm (k * y) g, Nat.mul_assoc]
    have r : g * x * k = g * k * x := by rw [Nat.mul_assoc, Nat.mul_comm x k, Nat.mul_assoc]
    rw [← l, ← r]; exact e1
  exact (Nat.eq_of_mul_eq_mul_left (Nat.mul_pos gp gq) e2).symm
theorem pr_108e {w : mT} {σ : mS} {a b c : Int32} {D : Nat} {G : Int32 → Hp → Prop} {Kc : Int32 → Int32 → Hp → Prop} (h : cmI w σ) (hD : 12 ≤ D) (hG : ∀ v w' σ', wOk w w' → wpI D 220 [.ref 81, .int a, .int b, .int c] (mW w' σ') (Kc v) → G v (mW w' σ')) (hK : ∀ v w' σ', wOk w w' → cmI w' σ' → Kc v v (mW w' σ')) : wpI D 108 [.ref 0, .int a, .int b, .int c] (mW w σ) G := by
  obtain ⟨tp, t, τ, ρ, n, bk, has, im, hc, hm, hX⟩ := h
  by_cases z : grP b ∧ ∃ S, a = Int32.ofNat S ∧ loOK τ ρ S
  · obtain ⟨y1, S, rfl, hO⟩ := z
    obtain ⟨aim, rfl, ha⟩ := ex_on (a := b) (n := 1000) ⟨y1.1, by have := y1.2; omega⟩
    obtain ⟨F, hF⟩ := exF (v := loV τ ρ S aim) (n := (lkL ρ S (τ 0)).1)
    obtain ⟨σ1, f1, c1, e1⟩ := c_108x (c := c) hc hO (by omega : aim ≤ 999) hF
    obtain ⟨σ2, f2, m2, e2⟩ := m_220x (c := c) (mIn_M hm hc.1 f1) hO (by omega : aim ≤ 999) hF
    exact finI (e1 (by omega)) (e2 (by omega)) wE_rf c1 m2 f2 hX hG hK
  · obtain ⟨σ1, f1, c1, e1⟩ := c_108z (c := c) hc z
    obtain ⟨σ2, f2, m2, e2⟩ := m_220z (c := c) (mIn_M hm hc.1 f1) z
    exact finI (e1 (by omega)) (e2 (by omega)) wE_rf c1 m2 f2 hX hG hK
theorem pr_109e {w : mT} {σ : mS} {a b : Int32} {D : Nat} {G : Int64 → Hp → Prop} {Kc : Int64 → Int64 → Hp → Prop} (h : cmI w σ) (hD : 12 ≤ D) (hG : ∀ v w' σ', wOk w w' → wpL D 221 [.ref 81, .int a, .int b] (mW w' σ') (Kc v) → G v (mW w' σ')) (hK : ∀ v w' σ', wOk w w' → cmI w' σ' → Kc v v (mW w' σ')) : wpL D 109 [.ref 0, .int a, .int b] (mW w σ) G := by
  obtain ⟨tp, t, τ, ρ, n, bk, has, im, hc, hm, hX⟩ := h
  by_cases z : grP b ∧ ∃ S, a = Int32.ofNat S ∧ loOK τ ρ S
  · obtain ⟨y1, S, rfl, hO⟩ := z
    obtain ⟨aim, rfl, ha⟩ := ex_on (a := b) (n := 1000) ⟨y1.1, by have := y1.2; omega⟩
    obtain ⟨F, hF⟩ := exF (v := loV τ ρ S aim) (n := (lkL ρ S (τ 0)).1)
    obtain ⟨σ1, p, op, vp, f1, c1, e1⟩ := c_109x hc hO (by omega : aim ≤ 999) hF
    obtain ⟨σ2, q, oq, vq, f2, m2, e2⟩ := m_221x (mIn_M hm hc.1 f1) hO (by omega : aim ≤ 999) hF
    rw [← fr_eq lwM_p op.1 oq (vp.trans vq.symm)] at e2
    exact finL (e1 (by omega)) (e2 (by omega)) wE_rf c1 m2 f2 hX hG hK
  · obtain ⟨σ1, f1, c1, e1⟩ := c_109z hc z
    obtain ⟨σ2, f2, m2, e2⟩ := m_221z (mIn_M hm hc.1 f1) z
    exact finL (e1 (by omega)) (e2 (by omega)) wE_rf c1 m2 f2 hX hG hK
end
